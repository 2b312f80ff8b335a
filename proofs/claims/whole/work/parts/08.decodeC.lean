theorem dP_init_0 : decode bP_init 0 = .ok (.aload_n 0, 1) := by decide +kernel
theorem dP_init_1 : decode bP_init 1 = .ok (.invokespecial 1, 3) := by decide +kernel
theorem dP_init_4 : decode bP_init 4 = .ok (.aload_n 0, 1) := by decide +kernel
theorem dP_init_5 : decode bP_init 5 = .ok (.new 7, 3) := by decide +kernel
theorem dP_init_8 : decode bP_init 8 = .ok (.dup, 1) := by decide +kernel
theorem dP_init_9 : decode bP_init 9 = .ok (.invokespecial 9, 3) := by decide +kernel
theorem dP_init_12 : decode bP_init 12 = .ok (.putfield 10, 3) := by decide +kernel
theorem dP_init_15 : decode bP_init 15 = .ok (.aload_n 0, 1) := by decide +kernel
theorem dP_init_16 : decode bP_init 16 = .ok (.new 16, 3) := by decide +kernel
theorem dP_init_19 : decode bP_init 19 = .ok (.dup, 1) := by decide +kernel
theorem dP_init_20 : decode bP_init 20 = .ok (.iload_n 1, 1) := by decide +kernel
theorem dP_init_21 : decode bP_init 21 = .ok (.iconst 1, 1) := by decide +kernel
theorem dP_init_22 : decode bP_init 22 = .ok (.iconst 4, 1) := by decide +kernel
theorem dP_init_23 : decode bP_init 23 = .ok (.invokestatic 18, 3) := by decide +kernel
theorem dP_init_26 : decode bP_init 26 = .ok (.iload_n 2, 1) := by decide +kernel
theorem dP_init_27 : decode bP_init 27 = .ok (.iconst 0, 1) := by decide +kernel
theorem dP_init_28 : decode bP_init 28 = .ok (.iconst 3, 1) := by decide +kernel
theorem dP_init_29 : decode bP_init 29 = .ok (.invokestatic 18, 3) := by decide +kernel
theorem dP_init_32 : decode bP_init 32 = .ok (.invokespecial 22, 3) := by decide +kernel
theorem dP_init_35 : decode bP_init 35 = .ok (.putfield 25, 3) := by decide +kernel
theorem dP_init_38 : decode bP_init 38 = .ok (.aload_n 0, 1) := by decide +kernel
theorem dP_init_39 : decode bP_init 39 = .ok (.new 29, 3) := by decide +kernel
theorem dP_init_42 : decode bP_init 42 = .ok (.dup, 1) := by decide +kernel
theorem dP_init_43 : decode bP_init 43 = .ok (.aload_n 0, 1) := by decide +kernel
theorem dP_init_44 : decode bP_init 44 = .ok (.getfield 10, 3) := by decide +kernel
theorem dP_init_47 : decode bP_init 47 = .ok (.aload_n 0, 1) := by decide +kernel
theorem dP_init_48 : decode bP_init 48 = .ok (.getfield 25, 3) := by decide +kernel
theorem dP_init_51 : decode bP_init 51 = .ok (.invokespecial 31, 3) := by decide +kernel
theorem dP_init_54 : decode bP_init 54 = .ok (.putfield 34, 3) := by decide +kernel
theorem dP_init_57 : decode bP_init 57 = .ok (.aload_n 0, 1) := by decide +kernel
theorem dP_init_58 : decode bP_init 58 = .ok (.new 38, 3) := by decide +kernel
theorem dP_init_61 : decode bP_init 61 = .ok (.dup, 1) := by decide +kernel
theorem dP_init_62 : decode bP_init 62 = .ok (.aload_n 0, 1) := by decide +kernel
theorem dP_init_63 : decode bP_init 63 = .ok (.getfield 10, 3) := by decide +kernel
theorem dP_init_66 : decode bP_init 66 = .ok (.aload_n 0, 1) := by decide +kernel
theorem dP_init_67 : decode bP_init 67 = .ok (.getfield 25, 3) := by decide +kernel
theorem dP_init_70 : decode bP_init 70 = .ok (.aload_n 0, 1) := by decide +kernel
theorem dP_init_71 : decode bP_init 71 = .ok (.getfield 34, 3) := by decide +kernel
theorem dP_init_74 : decode bP_init 74 = .ok (.invokespecial 40, 3) := by decide +kernel
theorem dP_init_77 : decode bP_init 77 = .ok (.putfield 43, 3) := by decide +kernel
theorem dP_init_80 : decode bP_init 80 = .ok (.aload_n 0, 1) := by decide +kernel
theorem dP_init_81 : decode bP_init 81 = .ok (.iconst 0, 1) := by decide +kernel
theorem dP_init_82 : decode bP_init 82 = .ok (.putfield 47, 3) := by decide +kernel
theorem dP_init_85 : decode bP_init 85 = .ok (.return_, 1) := by decide +kernel
theorem dP_bay_0 : decode bP_bay 0 = .ok (.iload_n 1, 1) := by decide +kernel
theorem dP_bay_1 : decode bP_bay 1 = .ok (.iconst 0, 1) := by decide +kernel
theorem dP_bay_2 : decode bP_bay 2 = .ok (.bipush 50, 2) := by decide +kernel
theorem dP_bay_4 : decode bP_bay 4 = .ok (.invokestatic 51, 3) := by decide +kernel
theorem dP_bay_7 : decode bP_bay 7 = .ok (.ifCond .eq 14, 3) := by decide +kernel
theorem dP_bay_10 : decode bP_bay 10 = .ok (.iload_n 2, 1) := by decide +kernel
theorem dP_bay_11 : decode bP_bay 11 = .ok (.iconst 0, 1) := by decide +kernel
theorem dP_bay_12 : decode bP_bay 12 = .ok (.sipush 200, 3) := by decide +kernel
theorem dP_bay_15 : decode bP_bay 15 = .ok (.invokestatic 51, 3) := by decide +kernel
theorem dP_bay_18 : decode bP_bay 18 = .ok (.ifCond .ne 13, 3) := by decide +kernel
theorem dP_bay_21 : decode bP_bay 21 = .ok (.new 55, 3) := by decide +kernel
theorem dP_bay_24 : decode bP_bay 24 = .ok (.dup, 1) := by decide +kernel
theorem dP_bay_25 : decode bP_bay 25 = .ok (.ldc 57, 2) := by decide +kernel
theorem dP_bay_27 : decode bP_bay 27 = .ok (.invokespecial 59, 3) := by decide +kernel
theorem dP_bay_30 : decode bP_bay 30 = .ok (.athrow, 1) := by decide +kernel
theorem dP_bay_31 : decode bP_bay 31 = .ok (.aload_n 0, 1) := by decide +kernel
theorem dP_bay_32 : decode bP_bay 32 = .ok (.getfield 10, 3) := by decide +kernel
theorem dP_bay_35 : decode bP_bay 35 = .ok (.invokevirtual 62, 3) := by decide +kernel
theorem dP_bay_38 : decode bP_bay 38 = .ok (.ifCond .eq 13, 3) := by decide +kernel
theorem dP_bay_41 : decode bP_bay 41 = .ok (.new 66, 3) := by decide +kernel
theorem dP_bay_44 : decode bP_bay 44 = .ok (.dup, 1) := by decide +kernel
theorem dP_bay_45 : decode bP_bay 45 = .ok (.ldc 68, 2) := by decide +kernel
theorem dP_bay_47 : decode bP_bay 47 = .ok (.invokespecial 70, 3) := by decide +kernel
theorem dP_bay_50 : decode bP_bay 50 = .ok (.athrow, 1) := by decide +kernel
theorem dP_bay_51 : decode bP_bay 51 = .ok (.aload_n 0, 1) := by decide +kernel
theorem dP_bay_52 : decode bP_bay 52 = .ok (.iconst 0, 1) := by decide +kernel
theorem dP_bay_53 : decode bP_bay 53 = .ok (.putfield 47, 3) := by decide +kernel
theorem dP_bay_56 : decode bP_bay 56 = .ok (.aload_n 0, 1) := by decide +kernel
theorem dP_bay_57 : decode bP_bay 57 = .ok (.getfield 10, 3) := by decide +kernel
theorem dP_bay_60 : decode bP_bay 60 = .ok (.iload_n 1, 1) := by decide +kernel
theorem dP_bay_61 : decode bP_bay 61 = .ok (.iload_n 2, 1) := by decide +kernel
theorem dP_bay_62 : decode bP_bay 62 = .ok (.invokevirtual 71, 3) := by decide +kernel
theorem dP_bay_65 : decode bP_bay 65 = .ok (.ireturn, 1) := by decide +kernel
theorem dP_rate_0 : decode bP_rate 0 = .ok (.iload_n 2, 1) := by decide +kernel
theorem dP_rate_1 : decode bP_rate 1 = .ok (.ifCond .ne 13, 3) := by decide +kernel
theorem dP_rate_4 : decode bP_rate 4 = .ok (.new 75, 3) := by decide +kernel
theorem dP_rate_7 : decode bP_rate 7 = .ok (.dup, 1) := by decide +kernel
theorem dP_rate_8 : decode bP_rate 8 = .ok (.ldc 77, 2) := by decide +kernel
theorem dP_rate_10 : decode bP_rate 10 = .ok (.invokespecial 79, 3) := by decide +kernel
theorem dP_rate_13 : decode bP_rate 13 = .ok (.athrow, 1) := by decide +kernel
theorem dP_rate_14 : decode bP_rate 14 = .ok (.aload_n 0, 1) := by decide +kernel
theorem dP_rate_15 : decode bP_rate 15 = .ok (.getfield 25, 3) := by decide +kernel
theorem dP_rate_18 : decode bP_rate 18 = .ok (.iload_n 1, 1) := by decide +kernel
theorem dP_rate_19 : decode bP_rate 19 = .ok (.invokevirtual 80, 3) := by decide +kernel
theorem dP_rate_22 : decode bP_rate 22 = .ok (.ifCond .ne 13, 3) := by decide +kernel
theorem dP_rate_25 : decode bP_rate 25 = .ok (.new 55, 3) := by decide +kernel
theorem dP_rate_28 : decode bP_rate 28 = .ok (.dup, 1) := by decide +kernel
theorem dP_rate_29 : decode bP_rate 29 = .ok (.ldc 84, 2) := by decide +kernel
theorem dP_rate_31 : decode bP_rate 31 = .ok (.invokespecial 59, 3) := by decide +kernel
theorem dP_rate_34 : decode bP_rate 34 = .ok (.athrow, 1) := by decide +kernel
theorem dP_rate_35 : decode bP_rate 35 = .ok (.iload_n 2, 1) := by decide +kernel
theorem dP_rate_36 : decode bP_rate 36 = .ok (.iconst 1, 1) := by decide +kernel
theorem dP_rate_37 : decode bP_rate 37 = .ok (.bipush 100, 2) := by decide +kernel
theorem dP_rate_39 : decode bP_rate 39 = .ok (.invokestatic 51, 3) := by decide +kernel
theorem dP_rate_42 : decode bP_rate 42 = .ok (.ifCond .eq 13, 3) := by decide +kernel
theorem dP_rate_45 : decode bP_rate 45 = .ok (.iload_n 3, 1) := by decide +kernel
theorem dP_rate_46 : decode bP_rate 46 = .ok (.iconst 1, 1) := by decide +kernel
theorem dP_rate_47 : decode bP_rate 47 = .ok (.bipush 100, 2) := by decide +kernel
theorem dP_rate_49 : decode bP_rate 49 = .ok (.invokestatic 51, 3) := by decide +kernel
theorem dP_rate_52 : decode bP_rate 52 = .ok (.ifCond .ne 13, 3) := by decide +kernel
theorem dP_rate_55 : decode bP_rate 55 = .ok (.new 55, 3) := by decide +kernel
theorem dP_rate_58 : decode bP_rate 58 = .ok (.dup, 1) := by decide +kernel
theorem dP_rate_59 : decode bP_rate 59 = .ok (.ldc 86, 2) := by decide +kernel
theorem dP_rate_61 : decode bP_rate 61 = .ok (.invokespecial 59, 3) := by decide +kernel
theorem dP_rate_64 : decode bP_rate 64 = .ok (.athrow, 1) := by decide +kernel
theorem dP_rate_65 : decode bP_rate 65 = .ok (.aload_n 0, 1) := by decide +kernel
theorem dP_rate_66 : decode bP_rate 66 = .ok (.getfield 25, 3) := by decide +kernel
theorem dP_rate_69 : decode bP_rate 69 = .ok (.iload_n 1, 1) := by decide +kernel
theorem dP_rate_70 : decode bP_rate 70 = .ok (.iload_n 2, 1) := by decide +kernel
theorem dP_rate_71 : decode bP_rate 71 = .ok (.iload_n 3, 1) := by decide +kernel
theorem dP_rate_72 : decode bP_rate 72 = .ok (.invokevirtual 88, 3) := by decide +kernel
theorem dP_rate_75 : decode bP_rate 75 = .ok (.aload_n 0, 1) := by decide +kernel
theorem dP_rate_76 : decode bP_rate 76 = .ok (.iconst 0, 1) := by decide +kernel
theorem dP_rate_77 : decode bP_rate 77 = .ok (.putfield 47, 3) := by decide +kernel
theorem dP_rate_80 : decode bP_rate 80 = .ok (.iconst 1, 1) := by decide +kernel
theorem dP_rate_81 : decode bP_rate 81 = .ok (.ireturn, 1) := by decide +kernel
theorem dP_step_0 : decode bP_step 0 = .ok (.iload_n 1, 1) := by decide +kernel
theorem dP_step_1 : decode bP_step 1 = .ok (.iconst 0, 1) := by decide +kernel
theorem dP_step_2 : decode bP_step 2 = .ok (.bipush 20, 2) := by decide +kernel
theorem dP_step_4 : decode bP_step 4 = .ok (.invokestatic 51, 3) := by decide +kernel
theorem dP_step_7 : decode bP_step 7 = .ok (.ifCond .ne 5, 3) := by decide +kernel
theorem dP_step_10 : decode bP_step 10 = .ok (.iconst 0, 1) := by decide +kernel
theorem dP_step_11 : decode bP_step 11 = .ok (.ireturn, 1) := by decide +kernel
theorem dP_step_12 : decode bP_step 12 = .ok (.aload_n 0, 1) := by decide +kernel
theorem dP_step_13 : decode bP_step 13 = .ok (.getfield 25, 3) := by decide +kernel
theorem dP_step_16 : decode bP_step 16 = .ok (.iload_n 1, 1) := by decide +kernel
theorem dP_step_17 : decode bP_step 17 = .ok (.putfield 92, 3) := by decide +kernel
theorem dP_step_20 : decode bP_step 20 = .ok (.aload_n 0, 1) := by decide +kernel
theorem dP_step_21 : decode bP_step 21 = .ok (.iconst 0, 1) := by decide +kernel
theorem dP_step_22 : decode bP_step 22 = .ok (.putfield 47, 3) := by decide +kernel
theorem dP_step_25 : decode bP_step 25 = .ok (.iconst 1, 1) := by decide +kernel
theorem dP_step_26 : decode bP_step 26 = .ok (.ireturn, 1) := by decide +kernel
theorem dP_plan_0 : decode bP_plan 0 = .ok (.aload_n 0, 1) := by decide +kernel
theorem dP_plan_1 : decode bP_plan 1 = .ok (.getfield 47, 3) := by decide +kernel
theorem dP_plan_4 : decode bP_plan 4 = .ok (.ifCond .ne 14, 3) := by decide +kernel
theorem dP_plan_7 : decode bP_plan 7 = .ok (.aload_n 0, 1) := by decide +kernel
theorem dP_plan_8 : decode bP_plan 8 = .ok (.aload_n 0, 1) := by decide +kernel
theorem dP_plan_9 : decode bP_plan 9 = .ok (.getfield 43, 3) := by decide +kernel
theorem dP_plan_12 : decode bP_plan 12 = .ok (.invokevirtual 96, 3) := by decide +kernel
theorem dP_plan_15 : decode bP_plan 15 = .ok (.putfield 47, 3) := by decide +kernel
theorem dP_plan_18 : decode bP_plan 18 = .ok (.aload_n 0, 1) := by decide +kernel
theorem dP_plan_19 : decode bP_plan 19 = .ok (.getfield 47, 3) := by decide +kernel
theorem dP_plan_22 : decode bP_plan 22 = .ok (.ifCond .eq 13, 3) := by decide +kernel
theorem dP_plan_25 : decode bP_plan 25 = .ok (.aload_n 0, 1) := by decide +kernel
theorem dP_plan_26 : decode bP_plan 26 = .ok (.getfield 34, 3) := by decide +kernel
theorem dP_plan_29 : decode bP_plan 29 = .ok (.getfield 99, 3) := by decide +kernel
theorem dP_plan_32 : decode bP_plan 32 = .ok (.goto 4, 3) := by decide +kernel
theorem dP_plan_35 : decode bP_plan 35 = .ok (.iconst (-1), 1) := by decide +kernel
theorem dP_plan_36 : decode bP_plan 36 = .ok (.ireturn, 1) := by decide +kernel
theorem dP_works_0 : decode bP_works 0 = .ok (.aload_n 0, 1) := by decide +kernel
theorem dP_works_1 : decode bP_works 1 = .ok (.getfield 25, 3) := by decide +kernel
theorem dP_works_4 : decode bP_works 4 = .ok (.iload_n 1, 1) := by decide +kernel
theorem dP_works_5 : decode bP_works 5 = .ok (.invokevirtual 80, 3) := by decide +kernel
theorem dP_works_8 : decode bP_works 8 = .ok (.ifCond .ne 13, 3) := by decide +kernel
theorem dP_works_11 : decode bP_works 11 = .ok (.new 102, 3) := by decide +kernel
theorem dP_works_14 : decode bP_works 14 = .ok (.dup, 1) := by decide +kernel
theorem dP_works_15 : decode bP_works 15 = .ok (.ldc 84, 2) := by decide +kernel
theorem dP_works_17 : decode bP_works 17 = .ok (.invokespecial 104, 3) := by decide +kernel
theorem dP_works_20 : decode bP_works 20 = .ok (.athrow, 1) := by decide +kernel
theorem dP_works_21 : decode bP_works 21 = .ok (.aload_n 0, 1) := by decide +kernel
theorem dP_works_22 : decode bP_works 22 = .ok (.getfield 47, 3) := by decide +kernel
theorem dP_works_25 : decode bP_works 25 = .ok (.ifCond .ne 13, 3) := by decide +kernel
theorem dP_works_28 : decode bP_works 28 = .ok (.new 66, 3) := by decide +kernel
theorem dP_works_31 : decode bP_works 31 = .ok (.dup, 1) := by decide +kernel
theorem dP_works_32 : decode bP_works 32 = .ok (.ldc 105, 2) := by decide +kernel
theorem dP_works_34 : decode bP_works 34 = .ok (.invokespecial 70, 3) := by decide +kernel
theorem dP_works_37 : decode bP_works 37 = .ok (.athrow, 1) := by decide +kernel
theorem dP_works_38 : decode bP_works 38 = .ok (.aload_n 0, 1) := by decide +kernel
theorem dP_works_39 : decode bP_works 39 = .ok (.getfield 34, 3) := by decide +kernel
theorem dP_works_42 : decode bP_works 42 = .ok (.iload_n 1, 1) := by decide +kernel
theorem dP_works_43 : decode bP_works 43 = .ok (.iload_n 2, 1) := by decide +kernel
theorem dP_works_44 : decode bP_works 44 = .ok (.invokevirtual 107, 3) := by decide +kernel
theorem dP_works_47 : decode bP_works 47 = .ok (.ireturn, 1) := by decide +kernel
theorem dP_where_0 : decode bP_where 0 = .ok (.aload_n 0, 1) := by decide +kernel
theorem dP_where_1 : decode bP_where 1 = .ok (.getfield 25, 3) := by decide +kernel
theorem dP_where_4 : decode bP_where 4 = .ok (.iload_n 1, 1) := by decide +kernel
theorem dP_where_5 : decode bP_where 5 = .ok (.invokevirtual 80, 3) := by decide +kernel
theorem dP_where_8 : decode bP_where 8 = .ok (.ifCond .eq 7, 3) := by decide +kernel
theorem dP_where_11 : decode bP_where 11 = .ok (.iload_n 2, 1) := by decide +kernel
theorem dP_where_12 : decode bP_where 12 = .ok (.ifCond .ge 13, 3) := by decide +kernel
theorem dP_where_15 : decode bP_where 15 = .ok (.new 102, 3) := by decide +kernel
theorem dP_where_18 : decode bP_where 18 = .ok (.dup, 1) := by decide +kernel
theorem dP_where_19 : decode bP_where 19 = .ok (.ldc 110, 2) := by decide +kernel
theorem dP_where_21 : decode bP_where 21 = .ok (.invokespecial 104, 3) := by decide +kernel
theorem dP_where_24 : decode bP_where 24 = .ok (.athrow, 1) := by decide +kernel
theorem dP_where_25 : decode bP_where 25 = .ok (.aload_n 0, 1) := by decide +kernel
theorem dP_where_26 : decode bP_where 26 = .ok (.getfield 47, 3) := by decide +kernel
theorem dP_where_29 : decode bP_where 29 = .ok (.ifCond .ne 13, 3) := by decide +kernel
theorem dP_where_32 : decode bP_where 32 = .ok (.new 66, 3) := by decide +kernel
theorem dP_where_35 : decode bP_where 35 = .ok (.dup, 1) := by decide +kernel
theorem dP_where_36 : decode bP_where 36 = .ok (.ldc 105, 2) := by decide +kernel
theorem dP_where_38 : decode bP_where 38 = .ok (.invokespecial 70, 3) := by decide +kernel
theorem dP_where_41 : decode bP_where 41 = .ok (.athrow, 1) := by decide +kernel
theorem dP_where_42 : decode bP_where 42 = .ok (.aload_n 0, 1) := by decide +kernel
theorem dP_where_43 : decode bP_where 43 = .ok (.getfield 34, 3) := by decide +kernel
theorem dP_where_46 : decode bP_where 46 = .ok (.iload_n 1, 1) := by decide +kernel
theorem dP_where_47 : decode bP_where 47 = .ok (.iload_n 2, 1) := by decide +kernel
theorem dP_where_48 : decode bP_where 48 = .ok (.invokevirtual 112, 3) := by decide +kernel
theorem dP_where_51 : decode bP_where 51 = .ok (.ireturn, 1) := by decide +kernel
theorem dP_fails_0 : decode bP_fails 0 = .ok (.aload_n 0, 1) := by decide +kernel
theorem dP_fails_1 : decode bP_fails 1 = .ok (.getfield 25, 3) := by decide +kernel
theorem dP_fails_4 : decode bP_fails 4 = .ok (.iload_n 1, 1) := by decide +kernel
theorem dP_fails_5 : decode bP_fails 5 = .ok (.invokevirtual 80, 3) := by decide +kernel
theorem dP_fails_8 : decode bP_fails 8 = .ok (.ifCond .ne 13, 3) := by decide +kernel
theorem dP_fails_11 : decode bP_fails 11 = .ok (.new 102, 3) := by decide +kernel
theorem dP_fails_14 : decode bP_fails 14 = .ok (.dup, 1) := by decide +kernel
theorem dP_fails_15 : decode bP_fails 15 = .ok (.ldc 84, 2) := by decide +kernel
theorem dP_fails_17 : decode bP_fails 17 = .ok (.invokespecial 104, 3) := by decide +kernel
theorem dP_fails_20 : decode bP_fails 20 = .ok (.athrow, 1) := by decide +kernel
theorem dP_fails_21 : decode bP_fails 21 = .ok (.iload_n 2, 1) := by decide +kernel
theorem dP_fails_22 : decode bP_fails 22 = .ok (.ifCond .lt 14, 3) := by decide +kernel
theorem dP_fails_25 : decode bP_fails 25 = .ok (.aload_n 0, 1) := by decide +kernel
theorem dP_fails_26 : decode bP_fails 26 = .ok (.getfield 25, 3) := by decide +kernel
theorem dP_fails_29 : decode bP_fails 29 = .ok (.iload_n 1, 1) := by decide +kernel
theorem dP_fails_30 : decode bP_fails 30 = .ok (.invokevirtual 115, 3) := by decide +kernel
theorem dP_fails_33 : decode bP_fails 33 = .ok (.ifCond .eq 13, 3) := by decide +kernel
theorem dP_fails_36 : decode bP_fails 36 = .ok (.new 55, 3) := by decide +kernel
theorem dP_fails_39 : decode bP_fails 39 = .ok (.dup, 1) := by decide +kernel
theorem dP_fails_40 : decode bP_fails 40 = .ok (.ldc 118, 2) := by decide +kernel
theorem dP_fails_42 : decode bP_fails 42 = .ok (.invokespecial 59, 3) := by decide +kernel
theorem dP_fails_45 : decode bP_fails 45 = .ok (.athrow, 1) := by decide +kernel
theorem dP_fails_46 : decode bP_fails 46 = .ok (.aload_n 0, 1) := by decide +kernel
theorem dP_fails_47 : decode bP_fails 47 = .ok (.getfield 47, 3) := by decide +kernel
theorem dP_fails_50 : decode bP_fails 50 = .ok (.ifCond .ne 13, 3) := by decide +kernel
theorem dP_fails_53 : decode bP_fails 53 = .ok (.new 66, 3) := by decide +kernel
theorem dP_fails_56 : decode bP_fails 56 = .ok (.dup, 1) := by decide +kernel
theorem dP_fails_57 : decode bP_fails 57 = .ok (.ldc 105, 2) := by decide +kernel
theorem dP_fails_59 : decode bP_fails 59 = .ok (.invokespecial 70, 3) := by decide +kernel
theorem dP_fails_62 : decode bP_fails 62 = .ok (.athrow, 1) := by decide +kernel
theorem dP_fails_63 : decode bP_fails 63 = .ok (.iconst 0, 1) := by decide +kernel
theorem dP_fails_64 : decode bP_fails 64 = .ok (.istore_n 3, 1) := by decide +kernel
theorem dP_fails_65 : decode bP_fails 65 = .ok (.iload_n 3, 1) := by decide +kernel
theorem dP_fails_66 : decode bP_fails 66 = .ok (.aload_n 0, 1) := by decide +kernel
theorem dP_fails_67 : decode bP_fails 67 = .ok (.getfield 10, 3) := by decide +kernel
theorem dP_fails_70 : decode bP_fails 70 = .ok (.getfield 120, 3) := by decide +kernel
theorem dP_fails_73 : decode bP_fails 73 = .ok (.if_icmp .ge 26, 3) := by decide +kernel
theorem dP_fails_76 : decode bP_fails 76 = .ok (.aload_n 0, 1) := by decide +kernel
theorem dP_fails_77 : decode bP_fails 77 = .ok (.getfield 10, 3) := by decide +kernel
theorem dP_fails_80 : decode bP_fails 80 = .ok (.iload_n 3, 1) := by decide +kernel
theorem dP_fails_81 : decode bP_fails 81 = .ok (.aload_n 0, 1) := by decide +kernel
theorem dP_fails_82 : decode bP_fails 82 = .ok (.getfield 34, 3) := by decide +kernel
theorem dP_fails_85 : decode bP_fails 85 = .ok (.iload_n 3, 1) := by decide +kernel
theorem dP_fails_86 : decode bP_fails 86 = .ok (.iload_n 2, 1) := by decide +kernel
theorem dP_fails_87 : decode bP_fails 87 = .ok (.invokevirtual 123, 3) := by decide +kernel
theorem dP_fails_90 : decode bP_fails 90 = .ok (.invokevirtual 126, 3) := by decide +kernel
theorem dP_fails_93 : decode bP_fails 93 = .ok (.iinc 3 1, 3) := by decide +kernel
theorem dP_fails_96 : decode bP_fails 96 = .ok (.goto (-31), 3) := by decide +kernel
theorem dP_fails_99 : decode bP_fails 99 = .ok (.aload_n 0, 1) := by decide +kernel
theorem dP_fails_100 : decode bP_fails 100 = .ok (.getfield 25, 3) := by decide +kernel
theorem dP_fails_103 : decode bP_fails 103 = .ok (.iload_n 1, 1) := by decide +kernel
theorem dP_fails_104 : decode bP_fails 104 = .ok (.invokevirtual 129, 3) := by decide +kernel
theorem dP_fails_107 : decode bP_fails 107 = .ok (.aload_n 0, 1) := by decide +kernel
theorem dP_fails_108 : decode bP_fails 108 = .ok (.iconst 0, 1) := by decide +kernel
theorem dP_fails_109 : decode bP_fails 109 = .ok (.putfield 47, 3) := by decide +kernel
theorem dP_fails_112 : decode bP_fails 112 = .ok (.aload_n 0, 1) := by decide +kernel
theorem dP_fails_113 : decode bP_fails 113 = .ok (.invokevirtual 133, 3) := by decide +kernel
theorem dP_fails_116 : decode bP_fails 116 = .ok (.ireturn, 1) := by decide +kernel
theorem dP_bound_0 : decode bP_bound 0 = .ok (.aload_n 0, 1) := by decide +kernel
theorem dP_bound_1 : decode bP_bound 1 = .ok (.getfield 25, 3) := by decide +kernel
theorem dP_bound_4 : decode bP_bound 4 = .ok (.invokevirtual 137, 3) := by decide +kernel
theorem dP_bound_7 : decode bP_bound 7 = .ok (.ifCond .ne 5, 3) := by decide +kernel
theorem dP_bound_10 : decode bP_bound 10 = .ok (.iconst (-1), 1) := by decide +kernel
theorem dP_bound_11 : decode bP_bound 11 = .ok (.ireturn, 1) := by decide +kernel
theorem dP_bound_12 : decode bP_bound 12 = .ok (.aload_n 0, 1) := by decide +kernel
theorem dP_bound_13 : decode bP_bound 13 = .ok (.getfield 25, 3) := by decide +kernel
theorem dP_bound_16 : decode bP_bound 16 = .ok (.aload_n 0, 1) := by decide +kernel
theorem dP_bound_17 : decode bP_bound 17 = .ok (.getfield 10, 3) := by decide +kernel
theorem dP_bound_20 : decode bP_bound 20 = .ok (.invokevirtual 140, 3) := by decide +kernel
theorem dP_bound_23 : decode bP_bound 23 = .ok (.invokevirtual 143, 3) := by decide +kernel
theorem dP_bound_26 : decode bP_bound 26 = .ok (.istore_n 1, 1) := by decide +kernel
theorem dP_bound_27 : decode bP_bound 27 = .ok (.iconst 0, 1) := by decide +kernel
theorem dP_bound_28 : decode bP_bound 28 = .ok (.istore_n 2, 1) := by decide +kernel
theorem dP_bound_29 : decode bP_bound 29 = .ok (.iload_n 2, 1) := by decide +kernel
theorem dP_bound_30 : decode bP_bound 30 = .ok (.aload_n 0, 1) := by decide +kernel
theorem dP_bound_31 : decode bP_bound 31 = .ok (.getfield 10, 3) := by decide +kernel
theorem dP_bound_34 : decode bP_bound 34 = .ok (.getfield 120, 3) := by decide +kernel
theorem dP_bound_37 : decode bP_bound 37 = .ok (.if_icmp .ge 29, 3) := by decide +kernel
theorem dP_bound_40 : decode bP_bound 40 = .ok (.iload_n 1, 1) := by decide +kernel
theorem dP_bound_41 : decode bP_bound 41 = .ok (.aload_n 0, 1) := by decide +kernel
theorem dP_bound_42 : decode bP_bound 42 = .ok (.getfield 25, 3) := by decide +kernel
theorem dP_bound_45 : decode bP_bound 45 = .ok (.aload_n 0, 1) := by decide +kernel
theorem dP_bound_46 : decode bP_bound 46 = .ok (.getfield 10, 3) := by decide +kernel
theorem dP_bound_49 : decode bP_bound 49 = .ok (.iload_n 2, 1) := by decide +kernel
theorem dP_bound_50 : decode bP_bound 50 = .ok (.invokevirtual 147, 3) := by decide +kernel
theorem dP_bound_53 : decode bP_bound 53 = .ok (.invokevirtual 150, 3) := by decide +kernel
theorem dP_bound_56 : decode bP_bound 56 = .ok (.invokestatic 153, 3) := by decide +kernel
theorem dP_bound_59 : decode bP_bound 59 = .ok (.istore_n 1, 1) := by decide +kernel
theorem dP_bound_60 : decode bP_bound 60 = .ok (.iinc 2 1, 3) := by decide +kernel
theorem dP_bound_63 : decode bP_bound 63 = .ok (.goto (-34), 3) := by decide +kernel
theorem dP_bound_66 : decode bP_bound 66 = .ok (.iload_n 1, 1) := by decide +kernel
theorem dP_bound_67 : decode bP_bound 67 = .ok (.ireturn, 1) := by decide +kernel
theorem dP_row_0 : decode bP_row 0 = .ok (.aload_n 0, 1) := by decide +kernel
theorem dP_row_1 : decode bP_row 1 = .ok (.getfield 47, 3) := by decide +kernel
theorem dP_row_4 : decode bP_row 4 = .ok (.ifCond .ne 13, 3) := by decide +kernel
theorem dP_row_7 : decode bP_row 7 = .ok (.new 66, 3) := by decide +kernel
theorem dP_row_10 : decode bP_row 10 = .ok (.dup, 1) := by decide +kernel
theorem dP_row_11 : decode bP_row 11 = .ok (.ldc 105, 2) := by decide +kernel
theorem dP_row_13 : decode bP_row 13 = .ok (.invokespecial 70, 3) := by decide +kernel
theorem dP_row_16 : decode bP_row 16 = .ok (.athrow, 1) := by decide +kernel
theorem dP_row_17 : decode bP_row 17 = .ok (.iload_n 1, 1) := by decide +kernel
theorem dP_row_18 : decode bP_row 18 = .ok (.iconst 0, 1) := by decide +kernel
theorem dP_row_19 : decode bP_row 19 = .ok (.aload_n 0, 1) := by decide +kernel
theorem dP_row_20 : decode bP_row 20 = .ok (.getfield 34, 3) := by decide +kernel
theorem dP_row_23 : decode bP_row 23 = .ok (.getfield 158, 3) := by decide +kernel
theorem dP_row_26 : decode bP_row 26 = .ok (.iconst 1, 1) := by decide +kernel
theorem dP_row_27 : decode bP_row 27 = .ok (.isub, 1) := by decide +kernel
theorem dP_row_28 : decode bP_row 28 = .ok (.invokestatic 51, 3) := by decide +kernel
theorem dP_row_31 : decode bP_row 31 = .ok (.ifCond .eq 12, 3) := by decide +kernel
theorem dP_row_34 : decode bP_row 34 = .ok (.iload_n 2, 1) := by decide +kernel
theorem dP_row_35 : decode bP_row 35 = .ok (.iconst 0, 1) := by decide +kernel
theorem dP_row_36 : decode bP_row 36 = .ok (.iconst 3, 1) := by decide +kernel
theorem dP_row_37 : decode bP_row 37 = .ok (.invokestatic 51, 3) := by decide +kernel
theorem dP_row_40 : decode bP_row 40 = .ok (.ifCond .ne 13, 3) := by decide +kernel
theorem dP_row_43 : decode bP_row 43 = .ok (.new 102, 3) := by decide +kernel
theorem dP_row_46 : decode bP_row 46 = .ok (.dup, 1) := by decide +kernel
theorem dP_row_47 : decode bP_row 47 = .ok (.ldc 161, 2) := by decide +kernel
theorem dP_row_49 : decode bP_row 49 = .ok (.invokespecial 104, 3) := by decide +kernel
theorem dP_row_52 : decode bP_row 52 = .ok (.athrow, 1) := by decide +kernel
theorem dP_row_53 : decode bP_row 53 = .ok (.aload_n 0, 1) := by decide +kernel
theorem dP_row_54 : decode bP_row 54 = .ok (.getfield 34, 3) := by decide +kernel
theorem dP_row_57 : decode bP_row 57 = .ok (.iload_n 1, 1) := by decide +kernel
theorem dP_row_58 : decode bP_row 58 = .ok (.iload_n 2, 1) := by decide +kernel
theorem dP_row_59 : decode bP_row 59 = .ok (.invokevirtual 163, 3) := by decide +kernel
theorem dP_row_62 : decode bP_row 62 = .ok (.ireturn, 1) := by decide +kernel
theorem dP_look_0 : decode bP_look 0 = .ok (.aload_n 0, 1) := by decide +kernel
theorem dP_look_1 : decode bP_look 1 = .ok (.getfield 10, 3) := by decide +kernel
theorem dP_look_4 : decode bP_look 4 = .ok (.iload_n 1, 1) := by decide +kernel
theorem dP_look_5 : decode bP_look 5 = .ok (.invokevirtual 166, 3) := by decide +kernel
theorem dP_look_8 : decode bP_look 8 = .ok (.ifCond .eq 12, 3) := by decide +kernel
theorem dP_look_11 : decode bP_look 11 = .ok (.iload_n 2, 1) := by decide +kernel
theorem dP_look_12 : decode bP_look 12 = .ok (.iconst 0, 1) := by decide +kernel
theorem dP_look_13 : decode bP_look 13 = .ok (.iconst 2, 1) := by decide +kernel
theorem dP_look_14 : decode bP_look 14 = .ok (.invokestatic 51, 3) := by decide +kernel
theorem dP_look_17 : decode bP_look 17 = .ok (.ifCond .ne 13, 3) := by decide +kernel
theorem dP_look_20 : decode bP_look 20 = .ok (.new 102, 3) := by decide +kernel
theorem dP_look_23 : decode bP_look 23 = .ok (.dup, 1) := by decide +kernel
theorem dP_look_24 : decode bP_look 24 = .ok (.ldc 167, 2) := by decide +kernel
theorem dP_look_26 : decode bP_look 26 = .ok (.invokespecial 104, 3) := by decide +kernel
theorem dP_look_29 : decode bP_look 29 = .ok (.athrow, 1) := by decide +kernel
theorem dP_look_30 : decode bP_look 30 = .ok (.iload_n 2, 1) := by decide +kernel
theorem dP_look_31 : decode bP_look 31 = .ok (.ifCond .ne 13, 3) := by decide +kernel
theorem dP_look_34 : decode bP_look 34 = .ok (.aload_n 0, 1) := by decide +kernel
theorem dP_look_35 : decode bP_look 35 = .ok (.getfield 10, 3) := by decide +kernel
theorem dP_look_38 : decode bP_look 38 = .ok (.getfield 169, 3) := by decide +kernel
theorem dP_look_41 : decode bP_look 41 = .ok (.iload_n 1, 1) := by decide +kernel
theorem dP_look_42 : decode bP_look 42 = .ok (.iaload, 1) := by decide +kernel
theorem dP_look_43 : decode bP_look 43 = .ok (.ireturn, 1) := by decide +kernel
theorem dP_look_44 : decode bP_look 44 = .ok (.iload_n 2, 1) := by decide +kernel
theorem dP_look_45 : decode bP_look 45 = .ok (.iconst 1, 1) := by decide +kernel
theorem dP_look_46 : decode bP_look 46 = .ok (.if_icmp .ne 13, 3) := by decide +kernel
theorem dP_look_49 : decode bP_look 49 = .ok (.aload_n 0, 1) := by decide +kernel
theorem dP_look_50 : decode bP_look 50 = .ok (.getfield 10, 3) := by decide +kernel
theorem dP_look_53 : decode bP_look 53 = .ok (.getfield 173, 3) := by decide +kernel
theorem dP_look_56 : decode bP_look 56 = .ok (.iload_n 1, 1) := by decide +kernel
theorem dP_look_57 : decode bP_look 57 = .ok (.iaload, 1) := by decide +kernel
theorem dP_look_58 : decode bP_look 58 = .ok (.ireturn, 1) := by decide +kernel
theorem dP_look_59 : decode bP_look 59 = .ok (.aload_n 0, 1) := by decide +kernel
theorem dP_look_60 : decode bP_look 60 = .ok (.getfield 47, 3) := by decide +kernel
theorem dP_look_63 : decode bP_look 63 = .ok (.ifCond .eq 15, 3) := by decide +kernel
theorem dP_look_66 : decode bP_look 66 = .ok (.aload_n 0, 1) := by decide +kernel
theorem dP_look_67 : decode bP_look 67 = .ok (.getfield 34, 3) := by decide +kernel
theorem dP_look_70 : decode bP_look 70 = .ok (.getfield 176, 3) := by decide +kernel
theorem dP_look_73 : decode bP_look 73 = .ok (.iload_n 1, 1) := by decide +kernel
theorem dP_look_74 : decode bP_look 74 = .ok (.iaload, 1) := by decide +kernel
theorem dP_look_75 : decode bP_look 75 = .ok (.goto 4, 3) := by decide +kernel
theorem dP_look_78 : decode bP_look 78 = .ok (.iconst (-1), 1) := by decide +kernel
theorem dP_look_79 : decode bP_look 79 = .ok (.ireturn, 1) := by decide +kernel
theorem dP_count_0 : decode bP_count 0 = .ok (.iload_n 1, 1) := by decide +kernel
theorem dP_count_1 : decode bP_count 1 = .ok (.tableswitch 114 0 5 #[39, 47, 55, 68, 87, 106], 39) := by decide +kernel
theorem dP_count_40 : decode bP_count 40 = .ok (.aload_n 0, 1) := by decide +kernel
theorem dP_count_41 : decode bP_count 41 = .ok (.getfield 10, 3) := by decide +kernel
theorem dP_count_44 : decode bP_count 44 = .ok (.getfield 120, 3) := by decide +kernel
theorem dP_count_47 : decode bP_count 47 = .ok (.ireturn, 1) := by decide +kernel
theorem dP_count_48 : decode bP_count 48 = .ok (.aload_n 0, 1) := by decide +kernel
theorem dP_count_49 : decode bP_count 49 = .ok (.getfield 25, 3) := by decide +kernel
theorem dP_count_52 : decode bP_count 52 = .ok (.invokevirtual 137, 3) := by decide +kernel
theorem dP_count_55 : decode bP_count 55 = .ok (.ireturn, 1) := by decide +kernel
theorem dP_count_56 : decode bP_count 56 = .ok (.aload_n 0, 1) := by decide +kernel
theorem dP_count_57 : decode bP_count 57 = .ok (.getfield 47, 3) := by decide +kernel
theorem dP_count_60 : decode bP_count 60 = .ok (.ifCond .eq 7, 3) := by decide +kernel
theorem dP_count_63 : decode bP_count 63 = .ok (.iconst 1, 1) := by decide +kernel
theorem dP_count_64 : decode bP_count 64 = .ok (.goto 4, 3) := by decide +kernel
theorem dP_count_67 : decode bP_count 67 = .ok (.iconst 0, 1) := by decide +kernel
theorem dP_count_68 : decode bP_count 68 = .ok (.ireturn, 1) := by decide +kernel
theorem dP_count_69 : decode bP_count 69 = .ok (.aload_n 0, 1) := by decide +kernel
theorem dP_count_70 : decode bP_count 70 = .ok (.getfield 47, 3) := by decide +kernel
theorem dP_count_73 : decode bP_count 73 = .ok (.ifCond .eq 13, 3) := by decide +kernel
theorem dP_count_76 : decode bP_count 76 = .ok (.aload_n 0, 1) := by decide +kernel
theorem dP_count_77 : decode bP_count 77 = .ok (.getfield 34, 3) := by decide +kernel
theorem dP_count_80 : decode bP_count 80 = .ok (.getfield 179, 3) := by decide +kernel
theorem dP_count_83 : decode bP_count 83 = .ok (.goto 4, 3) := by decide +kernel
theorem dP_count_86 : decode bP_count 86 = .ok (.iconst (-1), 1) := by decide +kernel
theorem dP_count_87 : decode bP_count 87 = .ok (.ireturn, 1) := by decide +kernel
theorem dP_count_88 : decode bP_count 88 = .ok (.aload_n 0, 1) := by decide +kernel
theorem dP_count_89 : decode bP_count 89 = .ok (.getfield 47, 3) := by decide +kernel
theorem dP_count_92 : decode bP_count 92 = .ok (.ifCond .eq 13, 3) := by decide +kernel
theorem dP_count_95 : decode bP_count 95 = .ok (.aload_n 0, 1) := by decide +kernel
theorem dP_count_96 : decode bP_count 96 = .ok (.getfield 34, 3) := by decide +kernel
theorem dP_count_99 : decode bP_count 99 = .ok (.getfield 158, 3) := by decide +kernel
theorem dP_count_102 : decode bP_count 102 = .ok (.goto 4, 3) := by decide +kernel
theorem dP_count_105 : decode bP_count 105 = .ok (.iconst (-1), 1) := by decide +kernel
theorem dP_count_106 : decode bP_count 106 = .ok (.ireturn, 1) := by decide +kernel
theorem dP_count_107 : decode bP_count 107 = .ok (.aload_n 0, 1) := by decide +kernel
theorem dP_count_108 : decode bP_count 108 = .ok (.getfield 10, 3) := by decide +kernel
theorem dP_count_111 : decode bP_count 111 = .ok (.invokevirtual 140, 3) := by decide +kernel
theorem dP_count_114 : decode bP_count 114 = .ok (.ireturn, 1) := by decide +kernel
theorem dP_count_115 : decode bP_count 115 = .ok (.iconst (-1), 1) := by decide +kernel
theorem dP_count_116 : decode bP_count 116 = .ok (.ireturn, 1) := by decide +kernel
theorem dP_within_0 : decode bP_within 0 = .ok (.iload_n 0, 1) := by decide +kernel
theorem dP_within_1 : decode bP_within 1 = .ok (.iload_n 1, 1) := by decide +kernel
theorem dP_within_2 : decode bP_within 2 = .ok (.if_icmp .lt 12, 3) := by decide +kernel
theorem dP_within_5 : decode bP_within 5 = .ok (.iload_n 0, 1) := by decide +kernel
theorem dP_within_6 : decode bP_within 6 = .ok (.iload_n 2, 1) := by decide +kernel
theorem dP_within_7 : decode bP_within 7 = .ok (.if_icmp .gt 7, 3) := by decide +kernel
theorem dP_within_10 : decode bP_within 10 = .ok (.iconst 1, 1) := by decide +kernel
theorem dP_within_11 : decode bP_within 11 = .ok (.goto 4, 3) := by decide +kernel
theorem dP_within_14 : decode bP_within 14 = .ok (.iconst 0, 1) := by decide +kernel
theorem dP_within_15 : decode bP_within 15 = .ok (.ireturn, 1) := by decide +kernel
theorem dP_held_0 : decode bP_held 0 = .ok (.iload_n 1, 1) := by decide +kernel
theorem dP_held_1 : decode bP_held 1 = .ok (.iload_n 2, 1) := by decide +kernel
theorem dP_held_2 : decode bP_held 2 = .ok (.iload_n 0, 1) := by decide +kernel
theorem dP_held_3 : decode bP_held 3 = .ok (.invokestatic 182, 3) := by decide +kernel
theorem dP_held_6 : decode bP_held 6 = .ok (.invokestatic 153, 3) := by decide +kernel
theorem dP_held_9 : decode bP_held 9 = .ok (.ireturn, 1) := by decide +kernel
theorem dP_dividedUp_0 : decode bP_dividedUp 0 = .ok (.lload_n 2, 1) := by decide +kernel
theorem dP_dividedUp_1 : decode bP_dividedUp 1 = .ok (.lconst 0, 1) := by decide +kernel
theorem dP_dividedUp_2 : decode bP_dividedUp 2 = .ok (.lcmp, 1) := by decide +kernel
theorem dP_dividedUp_3 : decode bP_dividedUp 3 = .ok (.ifCond .gt 7, 3) := by decide +kernel
theorem dP_dividedUp_6 : decode bP_dividedUp 6 = .ok (.lconst 0, 1) := by decide +kernel
theorem dP_dividedUp_7 : decode bP_dividedUp 7 = .ok (.goto 10, 3) := by decide +kernel
theorem dP_dividedUp_10 : decode bP_dividedUp 10 = .ok (.lload_n 0, 1) := by decide +kernel
theorem dP_dividedUp_11 : decode bP_dividedUp 11 = .ok (.lload_n 2, 1) := by decide +kernel
theorem dP_dividedUp_12 : decode bP_dividedUp 12 = .ok (.ladd, 1) := by decide +kernel
theorem dP_dividedUp_13 : decode bP_dividedUp 13 = .ok (.lconst 1, 1) := by decide +kernel
theorem dP_dividedUp_14 : decode bP_dividedUp 14 = .ok (.lsub, 1) := by decide +kernel
theorem dP_dividedUp_15 : decode bP_dividedUp 15 = .ok (.lload_n 2, 1) := by decide +kernel
theorem dP_dividedUp_16 : decode bP_dividedUp 16 = .ok (.ldiv, 1) := by decide +kernel
theorem dP_dividedUp_17 : decode bP_dividedUp 17 = .ok (.lreturn, 1) := by decide +kernel
theorem dB_init_0 : decode bB_init 0 = .ok (.aload_n 0, 1) := by decide +kernel
theorem dB_init_1 : decode bB_init 1 = .ok (.invokespecial 3, 3) := by decide +kernel
theorem dB_init_4 : decode bB_init 4 = .ok (.aload_n 0, 1) := by decide +kernel
theorem dB_init_5 : decode bB_init 5 = .ok (.bipush 8, 2) := by decide +kernel
theorem dB_init_7 : decode bB_init 7 = .ok (.newarray .int, 2) := by decide +kernel
theorem dB_init_9 : decode bB_init 9 = .ok (.putfield 9, 3) := by decide +kernel
theorem dB_init_12 : decode bB_init 12 = .ok (.aload_n 0, 1) := by decide +kernel
theorem dB_init_13 : decode bB_init 13 = .ok (.bipush 8, 2) := by decide +kernel
theorem dB_init_15 : decode bB_init 15 = .ok (.newarray .int, 2) := by decide +kernel
theorem dB_init_17 : decode bB_init 17 = .ok (.putfield 15, 3) := by decide +kernel
theorem dB_init_20 : decode bB_init 20 = .ok (.aload_n 0, 1) := by decide +kernel
theorem dB_init_21 : decode bB_init 21 = .ok (.iconst 0, 1) := by decide +kernel
theorem dB_init_22 : decode bB_init 22 = .ok (.putfield 18, 3) := by decide +kernel
theorem dB_init_25 : decode bB_init 25 = .ok (.return_, 1) := by decide +kernel
theorem dB_has_0 : decode bB_has 0 = .ok (.iload_n 1, 1) := by decide +kernel
theorem dB_has_1 : decode bB_has 1 = .ok (.ifCond .lt 21, 3) := by decide +kernel
theorem dB_has_4 : decode bB_has 4 = .ok (.iload_n 1, 1) := by decide +kernel
theorem dB_has_5 : decode bB_has 5 = .ok (.aload_n 0, 1) := by decide +kernel
theorem dB_has_6 : decode bB_has 6 = .ok (.getfield 18, 3) := by decide +kernel
theorem dB_has_9 : decode bB_has 9 = .ok (.if_icmp .ge 13, 3) := by decide +kernel
theorem dB_has_12 : decode bB_has 12 = .ok (.iload_n 1, 1) := by decide +kernel
theorem dB_has_13 : decode bB_has 13 = .ok (.bipush 8, 2) := by decide +kernel
theorem dB_has_15 : decode bB_has 15 = .ok (.if_icmp .ge 7, 3) := by decide +kernel
theorem dB_has_18 : decode bB_has 18 = .ok (.iconst 1, 1) := by decide +kernel
theorem dB_has_19 : decode bB_has 19 = .ok (.goto 4, 3) := by decide +kernel
theorem dB_has_22 : decode bB_has 22 = .ok (.iconst 0, 1) := by decide +kernel
theorem dB_has_23 : decode bB_has 23 = .ok (.ireturn, 1) := by decide +kernel
theorem dB_isFull_0 : decode bB_isFull 0 = .ok (.aload_n 0, 1) := by decide +kernel
theorem dB_isFull_1 : decode bB_isFull 1 = .ok (.getfield 18, 3) := by decide +kernel
theorem dB_isFull_4 : decode bB_isFull 4 = .ok (.bipush 8, 2) := by decide +kernel
theorem dB_isFull_6 : decode bB_isFull 6 = .ok (.if_icmp .lt 7, 3) := by decide +kernel
theorem dB_isFull_9 : decode bB_isFull 9 = .ok (.iconst 1, 1) := by decide +kernel
theorem dB_isFull_10 : decode bB_isFull 10 = .ok (.goto 4, 3) := by decide +kernel
theorem dB_isFull_13 : decode bB_isFull 13 = .ok (.iconst 0, 1) := by decide +kernel
theorem dB_isFull_14 : decode bB_isFull 14 = .ok (.ireturn, 1) := by decide +kernel
theorem dB_add_0 : decode bB_add 0 = .ok (.aload_n 0, 1) := by decide +kernel
theorem dB_add_1 : decode bB_add 1 = .ok (.invokevirtual 22, 3) := by decide +kernel
theorem dB_add_4 : decode bB_add 4 = .ok (.ifCond .eq 5, 3) := by decide +kernel
theorem dB_add_7 : decode bB_add 7 = .ok (.iconst (-1), 1) := by decide +kernel
theorem dB_add_8 : decode bB_add 8 = .ok (.ireturn, 1) := by decide +kernel
theorem dB_add_9 : decode bB_add 9 = .ok (.aload_n 0, 1) := by decide +kernel
theorem dB_add_10 : decode bB_add 10 = .ok (.getfield 9, 3) := by decide +kernel
theorem dB_add_13 : decode bB_add 13 = .ok (.aload_n 0, 1) := by decide +kernel
theorem dB_add_14 : decode bB_add 14 = .ok (.getfield 18, 3) := by decide +kernel
theorem dB_add_17 : decode bB_add 17 = .ok (.iload_n 1, 1) := by decide +kernel
theorem dB_add_18 : decode bB_add 18 = .ok (.iastore, 1) := by decide +kernel
theorem dB_add_19 : decode bB_add 19 = .ok (.aload_n 0, 1) := by decide +kernel
theorem dB_add_20 : decode bB_add 20 = .ok (.getfield 15, 3) := by decide +kernel
theorem dB_add_23 : decode bB_add 23 = .ok (.aload_n 0, 1) := by decide +kernel
theorem dB_add_24 : decode bB_add 24 = .ok (.getfield 18, 3) := by decide +kernel
theorem dB_add_27 : decode bB_add 27 = .ok (.iload_n 2, 1) := by decide +kernel
theorem dB_add_28 : decode bB_add 28 = .ok (.iastore, 1) := by decide +kernel
theorem dB_add_29 : decode bB_add 29 = .ok (.aload_n 0, 1) := by decide +kernel
theorem dB_add_30 : decode bB_add 30 = .ok (.dup, 1) := by decide +kernel
theorem dB_add_31 : decode bB_add 31 = .ok (.getfield 18, 3) := by decide +kernel
theorem dB_add_34 : decode bB_add 34 = .ok (.iconst 1, 1) := by decide +kernel
theorem dB_add_35 : decode bB_add 35 = .ok (.iadd, 1) := by decide +kernel
theorem dB_add_36 : decode bB_add 36 = .ok (.putfield 18, 3) := by decide +kernel
theorem dB_add_39 : decode bB_add 39 = .ok (.aload_n 0, 1) := by decide +kernel
theorem dB_add_40 : decode bB_add 40 = .ok (.getfield 18, 3) := by decide +kernel
theorem dB_add_43 : decode bB_add 43 = .ok (.iconst 1, 1) := by decide +kernel
theorem dB_add_44 : decode bB_add 44 = .ok (.isub, 1) := by decide +kernel
theorem dB_add_45 : decode bB_add 45 = .ok (.ireturn, 1) := by decide +kernel
theorem dB_movesOf_0 : decode bB_movesOf 0 = .ok (.aload_n 0, 1) := by decide +kernel
theorem dB_movesOf_1 : decode bB_movesOf 1 = .ok (.iload_n 1, 1) := by decide +kernel
theorem dB_movesOf_2 : decode bB_movesOf 2 = .ok (.invokevirtual 26, 3) := by decide +kernel
theorem dB_movesOf_5 : decode bB_movesOf 5 = .ok (.ifCond .eq 19, 3) := by decide +kernel
theorem dB_movesOf_8 : decode bB_movesOf 8 = .ok (.aload_n 0, 1) := by decide +kernel
theorem dB_movesOf_9 : decode bB_movesOf 9 = .ok (.getfield 9, 3) := by decide +kernel
theorem dB_movesOf_12 : decode bB_movesOf 12 = .ok (.iload_n 1, 1) := by decide +kernel
theorem dB_movesOf_13 : decode bB_movesOf 13 = .ok (.iaload, 1) := by decide +kernel
theorem dB_movesOf_14 : decode bB_movesOf 14 = .ok (.aload_n 0, 1) := by decide +kernel
theorem dB_movesOf_15 : decode bB_movesOf 15 = .ok (.getfield 15, 3) := by decide +kernel
theorem dB_movesOf_18 : decode bB_movesOf 18 = .ok (.iload_n 1, 1) := by decide +kernel
theorem dB_movesOf_19 : decode bB_movesOf 19 = .ok (.iaload, 1) := by decide +kernel
theorem dB_movesOf_20 : decode bB_movesOf 20 = .ok (.iadd, 1) := by decide +kernel
theorem dB_movesOf_21 : decode bB_movesOf 21 = .ok (.goto 4, 3) := by decide +kernel
theorem dB_movesOf_24 : decode bB_movesOf 24 = .ok (.iconst 0, 1) := by decide +kernel
theorem dB_movesOf_25 : decode bB_movesOf 25 = .ok (.ireturn, 1) := by decide +kernel
theorem dB_allMoves_0 : decode bB_allMoves 0 = .ok (.iconst 0, 1) := by decide +kernel
theorem dB_allMoves_1 : decode bB_allMoves 1 = .ok (.istore_n 1, 1) := by decide +kernel
theorem dB_allMoves_2 : decode bB_allMoves 2 = .ok (.iconst 0, 1) := by decide +kernel
theorem dB_allMoves_3 : decode bB_allMoves 3 = .ok (.istore_n 2, 1) := by decide +kernel
theorem dB_allMoves_4 : decode bB_allMoves 4 = .ok (.iload_n 2, 1) := by decide +kernel
theorem dB_allMoves_5 : decode bB_allMoves 5 = .ok (.aload_n 0, 1) := by decide +kernel
theorem dB_allMoves_6 : decode bB_allMoves 6 = .ok (.getfield 18, 3) := by decide +kernel
theorem dB_allMoves_9 : decode bB_allMoves 9 = .ok (.if_icmp .ge 17, 3) := by decide +kernel
theorem dB_allMoves_12 : decode bB_allMoves 12 = .ok (.iload_n 1, 1) := by decide +kernel
theorem dB_allMoves_13 : decode bB_allMoves 13 = .ok (.aload_n 0, 1) := by decide +kernel
theorem dB_allMoves_14 : decode bB_allMoves 14 = .ok (.iload_n 2, 1) := by decide +kernel
theorem dB_allMoves_15 : decode bB_allMoves 15 = .ok (.invokevirtual 30, 3) := by decide +kernel
theorem dB_allMoves_18 : decode bB_allMoves 18 = .ok (.iadd, 1) := by decide +kernel
theorem dB_allMoves_19 : decode bB_allMoves 19 = .ok (.istore_n 1, 1) := by decide +kernel
theorem dB_allMoves_20 : decode bB_allMoves 20 = .ok (.iinc 2 1, 3) := by decide +kernel
theorem dB_allMoves_23 : decode bB_allMoves 23 = .ok (.goto (-19), 3) := by decide +kernel
theorem dB_allMoves_26 : decode bB_allMoves 26 = .ok (.iload_n 1, 1) := by decide +kernel
theorem dB_allMoves_27 : decode bB_allMoves 27 = .ok (.ireturn, 1) := by decide +kernel
theorem dB_takeOff_0 : decode bB_takeOff 0 = .ok (.aload_n 0, 1) := by decide +kernel
theorem dB_takeOff_1 : decode bB_takeOff 1 = .ok (.iload_n 1, 1) := by decide +kernel
theorem dB_takeOff_2 : decode bB_takeOff 2 = .ok (.invokevirtual 26, 3) := by decide +kernel
theorem dB_takeOff_5 : decode bB_takeOff 5 = .ok (.ifCond .ne 4, 3) := by decide +kernel
theorem dB_takeOff_8 : decode bB_takeOff 8 = .ok (.return_, 1) := by decide +kernel
theorem dB_takeOff_9 : decode bB_takeOff 9 = .ok (.iload_n 2, 1) := by decide +kernel
theorem dB_takeOff_10 : decode bB_takeOff 10 = .ok (.aload_n 0, 1) := by decide +kernel
theorem dB_takeOff_11 : decode bB_takeOff 11 = .ok (.getfield 9, 3) := by decide +kernel
theorem dB_takeOff_14 : decode bB_takeOff 14 = .ok (.iload_n 1, 1) := by decide +kernel
theorem dB_takeOff_15 : decode bB_takeOff 15 = .ok (.iaload, 1) := by decide +kernel
theorem dB_takeOff_16 : decode bB_takeOff 16 = .ok (.invokestatic 34, 3) := by decide +kernel
theorem dB_takeOff_19 : decode bB_takeOff 19 = .ok (.istore_n 3, 1) := by decide +kernel
theorem dB_takeOff_20 : decode bB_takeOff 20 = .ok (.aload_n 0, 1) := by decide +kernel
theorem dB_takeOff_21 : decode bB_takeOff 21 = .ok (.getfield 9, 3) := by decide +kernel
theorem dB_takeOff_24 : decode bB_takeOff 24 = .ok (.iload_n 1, 1) := by decide +kernel
theorem dB_takeOff_25 : decode bB_takeOff 25 = .ok (.dup2, 1) := by decide +kernel
theorem dB_takeOff_26 : decode bB_takeOff 26 = .ok (.iaload, 1) := by decide +kernel
theorem dB_takeOff_27 : decode bB_takeOff 27 = .ok (.iload_n 3, 1) := by decide +kernel
theorem dB_takeOff_28 : decode bB_takeOff 28 = .ok (.isub, 1) := by decide +kernel
theorem dB_takeOff_29 : decode bB_takeOff 29 = .ok (.iastore, 1) := by decide +kernel
theorem dB_takeOff_30 : decode bB_takeOff 30 = .ok (.aload_n 0, 1) := by decide +kernel
theorem dB_takeOff_31 : decode bB_takeOff 31 = .ok (.getfield 15, 3) := by decide +kernel
theorem dB_takeOff_34 : decode bB_takeOff 34 = .ok (.iload_n 1, 1) := by decide +kernel
theorem dB_takeOff_35 : decode bB_takeOff 35 = .ok (.dup2, 1) := by decide +kernel
theorem dB_takeOff_36 : decode bB_takeOff 36 = .ok (.iaload, 1) := by decide +kernel
theorem dB_takeOff_37 : decode bB_takeOff 37 = .ok (.iload_n 2, 1) := by decide +kernel
theorem dB_takeOff_38 : decode bB_takeOff 38 = .ok (.iload_n 3, 1) := by decide +kernel
theorem dB_takeOff_39 : decode bB_takeOff 39 = .ok (.isub, 1) := by decide +kernel
theorem dB_takeOff_40 : decode bB_takeOff 40 = .ok (.aload_n 0, 1) := by decide +kernel
theorem dB_takeOff_41 : decode bB_takeOff 41 = .ok (.getfield 15, 3) := by decide +kernel
theorem dB_takeOff_44 : decode bB_takeOff 44 = .ok (.iload_n 1, 1) := by decide +kernel
theorem dB_takeOff_45 : decode bB_takeOff 45 = .ok (.iaload, 1) := by decide +kernel
theorem dB_takeOff_46 : decode bB_takeOff 46 = .ok (.invokestatic 34, 3) := by decide +kernel
theorem dB_takeOff_49 : decode bB_takeOff 49 = .ok (.isub, 1) := by decide +kernel
theorem dB_takeOff_50 : decode bB_takeOff 50 = .ok (.iastore, 1) := by decide +kernel
theorem dB_takeOff_51 : decode bB_takeOff 51 = .ok (.return_, 1) := by decide +kernel
theorem dK_init_0 : decode bK_init 0 = .ok (.aload_n 0, 1) := by decide +kernel
theorem dK_init_1 : decode bK_init 1 = .ok (.invokespecial 3, 3) := by decide +kernel
theorem dK_init_4 : decode bK_init 4 = .ok (.aload_n 0, 1) := by decide +kernel
theorem dK_init_5 : decode bK_init 5 = .ok (.iconst 4, 1) := by decide +kernel
theorem dK_init_6 : decode bK_init 6 = .ok (.newarray .int, 2) := by decide +kernel
theorem dK_init_8 : decode bK_init 8 = .ok (.putfield 9, 3) := by decide +kernel
theorem dK_init_11 : decode bK_init 11 = .ok (.aload_n 0, 1) := by decide +kernel
theorem dK_init_12 : decode bK_init 12 = .ok (.iconst 4, 1) := by decide +kernel
theorem dK_init_13 : decode bK_init 13 = .ok (.newarray .int, 2) := by decide +kernel
theorem dK_init_15 : decode bK_init 15 = .ok (.putfield 15, 3) := by decide +kernel
theorem dK_init_18 : decode bK_init 18 = .ok (.aload_n 0, 1) := by decide +kernel
theorem dK_init_19 : decode bK_init 19 = .ok (.iconst 4, 1) := by decide +kernel
theorem dK_init_20 : decode bK_init 20 = .ok (.newarray .boolean, 2) := by decide +kernel
theorem dK_init_22 : decode bK_init 22 = .ok (.putfield 18, 3) := by decide +kernel
theorem dK_init_25 : decode bK_init 25 = .ok (.aload_n 0, 1) := by decide +kernel
theorem dK_init_26 : decode bK_init 26 = .ok (.iconst 1, 1) := by decide +kernel
theorem dK_init_27 : decode bK_init 27 = .ok (.putfield 22, 3) := by decide +kernel
theorem dK_init_30 : decode bK_init 30 = .ok (.aload_n 0, 1) := by decide +kernel
theorem dK_init_31 : decode bK_init 31 = .ok (.iload_n 1, 1) := by decide +kernel
theorem dK_init_32 : decode bK_init 32 = .ok (.putfield 26, 3) := by decide +kernel
theorem dK_init_35 : decode bK_init 35 = .ok (.aload_n 0, 1) := by decide +kernel
theorem dK_init_36 : decode bK_init 36 = .ok (.iload_n 2, 1) := by decide +kernel
theorem dK_init_37 : decode bK_init 37 = .ok (.putfield 29, 3) := by decide +kernel
theorem dK_init_40 : decode bK_init 40 = .ok (.aload_n 0, 1) := by decide +kernel
theorem dK_init_41 : decode bK_init 41 = .ok (.getfield 9, 3) := by decide +kernel
theorem dK_init_44 : decode bK_init 44 = .ok (.iconst 1, 1) := by decide +kernel
theorem dK_init_45 : decode bK_init 45 = .ok (.invokestatic 32, 3) := by decide +kernel
theorem dK_init_48 : decode bK_init 48 = .ok (.aload_n 0, 1) := by decide +kernel
theorem dK_init_49 : decode bK_init 49 = .ok (.getfield 15, 3) := by decide +kernel
theorem dK_init_52 : decode bK_init 52 = .ok (.iconst 1, 1) := by decide +kernel
theorem dK_init_53 : decode bK_init 53 = .ok (.invokestatic 32, 3) := by decide +kernel
theorem dK_init_56 : decode bK_init 56 = .ok (.return_, 1) := by decide +kernel
theorem dK_has_0 : decode bK_has 0 = .ok (.iload_n 1, 1) := by decide +kernel
theorem dK_has_1 : decode bK_has 1 = .ok (.ifCond .lt 20, 3) := by decide +kernel
theorem dK_has_4 : decode bK_has 4 = .ok (.iload_n 1, 1) := by decide +kernel
theorem dK_has_5 : decode bK_has 5 = .ok (.aload_n 0, 1) := by decide +kernel
theorem dK_has_6 : decode bK_has 6 = .ok (.getfield 26, 3) := by decide +kernel
theorem dK_has_9 : decode bK_has 9 = .ok (.if_icmp .ge 12, 3) := by decide +kernel
theorem dK_has_12 : decode bK_has 12 = .ok (.iload_n 1, 1) := by decide +kernel
theorem dK_has_13 : decode bK_has 13 = .ok (.iconst 4, 1) := by decide +kernel
theorem dK_has_14 : decode bK_has 14 = .ok (.if_icmp .ge 7, 3) := by decide +kernel
theorem dK_has_17 : decode bK_has 17 = .ok (.iconst 1, 1) := by decide +kernel
theorem dK_has_18 : decode bK_has 18 = .ok (.goto 4, 3) := by decide +kernel
theorem dK_has_21 : decode bK_has 21 = .ok (.iconst 0, 1) := by decide +kernel
theorem dK_has_22 : decode bK_has 22 = .ok (.ireturn, 1) := by decide +kernel
theorem dK_isOut_0 : decode bK_isOut 0 = .ok (.aload_n 0, 1) := by decide +kernel
theorem dK_isOut_1 : decode bK_isOut 1 = .ok (.iload_n 1, 1) := by decide +kernel
theorem dK_isOut_2 : decode bK_isOut 2 = .ok (.invokevirtual 38, 3) := by decide +kernel
theorem dK_isOut_5 : decode bK_isOut 5 = .ok (.ifCond .eq 12, 3) := by decide +kernel
theorem dK_isOut_8 : decode bK_isOut 8 = .ok (.aload_n 0, 1) := by decide +kernel
theorem dK_isOut_9 : decode bK_isOut 9 = .ok (.getfield 18, 3) := by decide +kernel
theorem dK_isOut_12 : decode bK_isOut 12 = .ok (.iload_n 1, 1) := by decide +kernel
theorem dK_isOut_13 : decode bK_isOut 13 = .ok (.baload, 1) := by decide +kernel
theorem dK_isOut_14 : decode bK_isOut 14 = .ok (.ifCond .eq 7, 3) := by decide +kernel
theorem dK_isOut_17 : decode bK_isOut 17 = .ok (.iconst 1, 1) := by decide +kernel
theorem dK_isOut_18 : decode bK_isOut 18 = .ok (.goto 4, 3) := by decide +kernel
theorem dK_isOut_21 : decode bK_isOut 21 = .ok (.iconst 0, 1) := by decide +kernel
theorem dK_isOut_22 : decode bK_isOut 22 = .ok (.ireturn, 1) := by decide +kernel
theorem dK_putOut_0 : decode bK_putOut 0 = .ok (.aload_n 0, 1) := by decide +kernel
theorem dK_putOut_1 : decode bK_putOut 1 = .ok (.iload_n 1, 1) := by decide +kernel
theorem dK_putOut_2 : decode bK_putOut 2 = .ok (.invokevirtual 38, 3) := by decide +kernel
theorem dK_putOut_5 : decode bK_putOut 5 = .ok (.ifCond .eq 10, 3) := by decide +kernel
theorem dK_putOut_8 : decode bK_putOut 8 = .ok (.aload_n 0, 1) := by decide +kernel
theorem dK_putOut_9 : decode bK_putOut 9 = .ok (.getfield 18, 3) := by decide +kernel
theorem dK_putOut_12 : decode bK_putOut 12 = .ok (.iload_n 1, 1) := by decide +kernel
theorem dK_putOut_13 : decode bK_putOut 13 = .ok (.iconst 1, 1) := by decide +kernel
theorem dK_putOut_14 : decode bK_putOut 14 = .ok (.bastore, 1) := by decide +kernel
theorem dK_putOut_15 : decode bK_putOut 15 = .ok (.return_, 1) := by decide +kernel
theorem dK_setRate_0 : decode bK_setRate 0 = .ok (.aload_n 0, 1) := by decide +kernel
theorem dK_setRate_1 : decode bK_setRate 1 = .ok (.iload_n 1, 1) := by decide +kernel
theorem dK_setRate_2 : decode bK_setRate 2 = .ok (.invokevirtual 38, 3) := by decide +kernel
theorem dK_setRate_5 : decode bK_setRate 5 = .ok (.ifCond .eq 17, 3) := by decide +kernel
theorem dK_setRate_8 : decode bK_setRate 8 = .ok (.aload_n 0, 1) := by decide +kernel
theorem dK_setRate_9 : decode bK_setRate 9 = .ok (.getfield 9, 3) := by decide +kernel
theorem dK_setRate_12 : decode bK_setRate 12 = .ok (.iload_n 1, 1) := by decide +kernel
theorem dK_setRate_13 : decode bK_setRate 13 = .ok (.iload_n 2, 1) := by decide +kernel
theorem dK_setRate_14 : decode bK_setRate 14 = .ok (.iastore, 1) := by decide +kernel
theorem dK_setRate_15 : decode bK_setRate 15 = .ok (.aload_n 0, 1) := by decide +kernel
theorem dK_setRate_16 : decode bK_setRate 16 = .ok (.getfield 15, 3) := by decide +kernel
theorem dK_setRate_19 : decode bK_setRate 19 = .ok (.iload_n 1, 1) := by decide +kernel
theorem dK_setRate_20 : decode bK_setRate 20 = .ok (.iload_n 3, 1) := by decide +kernel
theorem dK_setRate_21 : decode bK_setRate 21 = .ok (.iastore, 1) := by decide +kernel
theorem dK_setRate_22 : decode bK_setRate 22 = .ok (.return_, 1) := by decide +kernel
theorem dK_able_0 : decode bK_able 0 = .ok (.iconst 0, 1) := by decide +kernel
theorem dK_able_1 : decode bK_able 1 = .ok (.istore_n 1, 1) := by decide +kernel
theorem dK_able_2 : decode bK_able 2 = .ok (.iconst 0, 1) := by decide +kernel
theorem dK_able_3 : decode bK_able 3 = .ok (.istore_n 2, 1) := by decide +kernel
theorem dK_able_4 : decode bK_able 4 = .ok (.iload_n 2, 1) := by decide +kernel
theorem dK_able_5 : decode bK_able 5 = .ok (.aload_n 0, 1) := by decide +kernel
theorem dK_able_6 : decode bK_able 6 = .ok (.getfield 26, 3) := by decide +kernel
theorem dK_able_9 : decode bK_able 9 = .ok (.if_icmp .ge 20, 3) := by decide +kernel
theorem dK_able_12 : decode bK_able 12 = .ok (.aload_n 0, 1) := by decide +kernel
theorem dK_able_13 : decode bK_able 13 = .ok (.iload_n 2, 1) := by decide +kernel
theorem dK_able_14 : decode bK_able 14 = .ok (.invokevirtual 42, 3) := by decide +kernel
theorem dK_able_17 : decode bK_able 17 = .ok (.ifCond .ne 6, 3) := by decide +kernel
theorem dK_able_20 : decode bK_able 20 = .ok (.iinc 1 1, 3) := by decide +kernel
theorem dK_able_23 : decode bK_able 23 = .ok (.iinc 2 1, 3) := by decide +kernel
theorem dK_able_26 : decode bK_able 26 = .ok (.goto (-22), 3) := by decide +kernel
theorem dK_able_29 : decode bK_able 29 = .ok (.iload_n 1, 1) := by decide +kernel
theorem dK_able_30 : decode bK_able 30 = .ok (.ireturn, 1) := by decide +kernel
theorem dK_timeFor_0 : decode bK_timeFor 0 = .ok (.aload_n 0, 1) := by decide +kernel
theorem dK_timeFor_1 : decode bK_timeFor 1 = .ok (.iload_n 1, 1) := by decide +kernel
theorem dK_timeFor_2 : decode bK_timeFor 2 = .ok (.invokevirtual 38, 3) := by decide +kernel
theorem dK_timeFor_5 : decode bK_timeFor 5 = .ok (.ifCond .eq 27, 3) := by decide +kernel
theorem dK_timeFor_8 : decode bK_timeFor 8 = .ok (.iload_n 2, 1) := by decide +kernel
theorem dK_timeFor_9 : decode bK_timeFor 9 = .ok (.i2l, 1) := by decide +kernel
theorem dK_timeFor_10 : decode bK_timeFor 10 = .ok (.aload_n 0, 1) := by decide +kernel
theorem dK_timeFor_11 : decode bK_timeFor 11 = .ok (.getfield 15, 3) := by decide +kernel
theorem dK_timeFor_14 : decode bK_timeFor 14 = .ok (.iload_n 1, 1) := by decide +kernel
theorem dK_timeFor_15 : decode bK_timeFor 15 = .ok (.iaload, 1) := by decide +kernel
theorem dK_timeFor_16 : decode bK_timeFor 16 = .ok (.i2l, 1) := by decide +kernel
theorem dK_timeFor_17 : decode bK_timeFor 17 = .ok (.lmul, 1) := by decide +kernel
theorem dK_timeFor_18 : decode bK_timeFor 18 = .ok (.aload_n 0, 1) := by decide +kernel
theorem dK_timeFor_19 : decode bK_timeFor 19 = .ok (.getfield 9, 3) := by decide +kernel
theorem dK_timeFor_22 : decode bK_timeFor 22 = .ok (.iload_n 1, 1) := by decide +kernel
theorem dK_timeFor_23 : decode bK_timeFor 23 = .ok (.iaload, 1) := by decide +kernel
theorem dK_timeFor_24 : decode bK_timeFor 24 = .ok (.i2l, 1) := by decide +kernel
theorem dK_timeFor_25 : decode bK_timeFor 25 = .ok (.invokestatic 45, 3) := by decide +kernel
theorem dK_timeFor_28 : decode bK_timeFor 28 = .ok (.l2i, 1) := by decide +kernel
theorem dK_timeFor_29 : decode bK_timeFor 29 = .ok (.goto 4, 3) := by decide +kernel
theorem dK_timeFor_32 : decode bK_timeFor 32 = .ok (.iconst 0, 1) := by decide +kernel
theorem dK_timeFor_33 : decode bK_timeFor 33 = .ok (.ireturn, 1) := by decide +kernel
theorem dK_movesIn_0 : decode bK_movesIn 0 = .ok (.aload_n 0, 1) := by decide +kernel
theorem dK_movesIn_1 : decode bK_movesIn 1 = .ok (.iload_n 1, 1) := by decide +kernel
theorem dK_movesIn_2 : decode bK_movesIn 2 = .ok (.invokevirtual 38, 3) := by decide +kernel
theorem dK_movesIn_5 : decode bK_movesIn 5 = .ok (.ifCond .eq 12, 3) := by decide +kernel
theorem dK_movesIn_8 : decode bK_movesIn 8 = .ok (.aload_n 0, 1) := by decide +kernel
theorem dK_movesIn_9 : decode bK_movesIn 9 = .ok (.getfield 15, 3) := by decide +kernel
theorem dK_movesIn_12 : decode bK_movesIn 12 = .ok (.iload_n 1, 1) := by decide +kernel
theorem dK_movesIn_13 : decode bK_movesIn 13 = .ok (.iaload, 1) := by decide +kernel
theorem dK_movesIn_14 : decode bK_movesIn 14 = .ok (.ifCond .gt 5, 3) := by decide +kernel
theorem dK_movesIn_17 : decode bK_movesIn 17 = .ok (.iconst 0, 1) := by decide +kernel
theorem dK_movesIn_18 : decode bK_movesIn 18 = .ok (.ireturn, 1) := by decide +kernel
theorem dK_movesIn_19 : decode bK_movesIn 19 = .ok (.iload_n 2, 1) := by decide +kernel
theorem dK_movesIn_20 : decode bK_movesIn 20 = .ok (.i2l, 1) := by decide +kernel
theorem dK_movesIn_21 : decode bK_movesIn 21 = .ok (.aload_n 0, 1) := by decide +kernel
theorem dK_movesIn_22 : decode bK_movesIn 22 = .ok (.getfield 9, 3) := by decide +kernel
theorem dK_movesIn_25 : decode bK_movesIn 25 = .ok (.iload_n 1, 1) := by decide +kernel
theorem dK_movesIn_26 : decode bK_movesIn 26 = .ok (.iaload, 1) := by decide +kernel
theorem dK_movesIn_27 : decode bK_movesIn 27 = .ok (.i2l, 1) := by decide +kernel
theorem dK_movesIn_28 : decode bK_movesIn 28 = .ok (.lmul, 1) := by decide +kernel
theorem dK_movesIn_29 : decode bK_movesIn 29 = .ok (.aload_n 0, 1) := by decide +kernel
theorem dK_movesIn_30 : decode bK_movesIn 30 = .ok (.getfield 15, 3) := by decide +kernel
theorem dK_movesIn_33 : decode bK_movesIn 33 = .ok (.iload_n 1, 1) := by decide +kernel
theorem dK_movesIn_34 : decode bK_movesIn 34 = .ok (.iaload, 1) := by decide +kernel
theorem dK_movesIn_35 : decode bK_movesIn 35 = .ok (.i2l, 1) := by decide +kernel
theorem dK_movesIn_36 : decode bK_movesIn 36 = .ok (.ldiv, 1) := by decide +kernel
theorem dK_movesIn_37 : decode bK_movesIn 37 = .ok (.l2i, 1) := by decide +kernel
theorem dK_movesIn_38 : decode bK_movesIn 38 = .ok (.ireturn, 1) := by decide +kernel
theorem dK_leastTime_0 : decode bK_leastTime 0 = .ok (.ldc 49, 2) := by decide +kernel
theorem dK_leastTime_2 : decode bK_leastTime 2 = .ok (.istore_n 2, 1) := by decide +kernel
theorem dK_leastTime_3 : decode bK_leastTime 3 = .ok (.iconst 0, 1) := by decide +kernel
theorem dK_leastTime_4 : decode bK_leastTime 4 = .ok (.istore_n 3, 1) := by decide +kernel
theorem dK_leastTime_5 : decode bK_leastTime 5 = .ok (.iload_n 3, 1) := by decide +kernel
theorem dK_leastTime_6 : decode bK_leastTime 6 = .ok (.aload_n 0, 1) := by decide +kernel
theorem dK_leastTime_7 : decode bK_leastTime 7 = .ok (.getfield 26, 3) := by decide +kernel
theorem dK_leastTime_10 : decode bK_leastTime 10 = .ok (.if_icmp .ge 28, 3) := by decide +kernel
theorem dK_leastTime_13 : decode bK_leastTime 13 = .ok (.aload_n 0, 1) := by decide +kernel
theorem dK_leastTime_14 : decode bK_leastTime 14 = .ok (.iload_n 3, 1) := by decide +kernel
theorem dK_leastTime_15 : decode bK_leastTime 15 = .ok (.invokevirtual 42, 3) := by decide +kernel
theorem dK_leastTime_18 : decode bK_leastTime 18 = .ok (.ifCond .ne 14, 3) := by decide +kernel
theorem dK_leastTime_21 : decode bK_leastTime 21 = .ok (.iload_n 2, 1) := by decide +kernel
theorem dK_leastTime_22 : decode bK_leastTime 22 = .ok (.aload_n 0, 1) := by decide +kernel
theorem dK_leastTime_23 : decode bK_leastTime 23 = .ok (.iload_n 3, 1) := by decide +kernel
theorem dK_leastTime_24 : decode bK_leastTime 24 = .ok (.iload_n 1, 1) := by decide +kernel
theorem dK_leastTime_25 : decode bK_leastTime 25 = .ok (.invokevirtual 50, 3) := by decide +kernel
theorem dK_leastTime_28 : decode bK_leastTime 28 = .ok (.invokestatic 54, 3) := by decide +kernel
theorem dK_leastTime_31 : decode bK_leastTime 31 = .ok (.istore_n 2, 1) := by decide +kernel
theorem dK_leastTime_32 : decode bK_leastTime 32 = .ok (.iinc 3 1, 3) := by decide +kernel
theorem dK_leastTime_35 : decode bK_leastTime 35 = .ok (.goto (-30), 3) := by decide +kernel
theorem dK_leastTime_38 : decode bK_leastTime 38 = .ok (.iload_n 2, 1) := by decide +kernel
theorem dK_leastTime_39 : decode bK_leastTime 39 = .ok (.ireturn, 1) := by decide +kernel
theorem dK_timeTogether_0 : decode bK_timeTogether 0 = .ok (.lconst 0, 1) := by decide +kernel
theorem dK_timeTogether_1 : decode bK_timeTogether 1 = .ok (.lstore_n 2, 1) := by decide +kernel
theorem dK_timeTogether_2 : decode bK_timeTogether 2 = .ok (.lconst 1, 1) := by decide +kernel
theorem dK_timeTogether_3 : decode bK_timeTogether 3 = .ok (.lstore 4, 2) := by decide +kernel
theorem dK_timeTogether_5 : decode bK_timeTogether 5 = .ok (.iconst 0, 1) := by decide +kernel
theorem dK_timeTogether_6 : decode bK_timeTogether 6 = .ok (.istore 6, 2) := by decide +kernel
theorem dK_timeTogether_8 : decode bK_timeTogether 8 = .ok (.iload 6, 2) := by decide +kernel
theorem dK_timeTogether_10 : decode bK_timeTogether 10 = .ok (.aload_n 0, 1) := by decide +kernel
theorem dK_timeTogether_11 : decode bK_timeTogether 11 = .ok (.getfield 26, 3) := by decide +kernel
theorem dK_timeTogether_14 : decode bK_timeTogether 14 = .ok (.if_icmp .ge 54, 3) := by decide +kernel
theorem dK_timeTogether_17 : decode bK_timeTogether 17 = .ok (.aload_n 0, 1) := by decide +kernel
theorem dK_timeTogether_18 : decode bK_timeTogether 18 = .ok (.iload 6, 2) := by decide +kernel
theorem dK_timeTogether_20 : decode bK_timeTogether 20 = .ok (.invokevirtual 42, 3) := by decide +kernel
theorem dK_timeTogether_23 : decode bK_timeTogether 23 = .ok (.ifCond .ne 39, 3) := by decide +kernel
theorem dK_timeTogether_26 : decode bK_timeTogether 26 = .ok (.lload_n 2, 1) := by decide +kernel
theorem dK_timeTogether_27 : decode bK_timeTogether 27 = .ok (.aload_n 0, 1) := by decide +kernel
theorem dK_timeTogether_28 : decode bK_timeTogether 28 = .ok (.getfield 15, 3) := by decide +kernel
theorem dK_timeTogether_31 : decode bK_timeTogether 31 = .ok (.iload 6, 2) := by decide +kernel
theorem dK_timeTogether_33 : decode bK_timeTogether 33 = .ok (.iaload, 1) := by decide +kernel
theorem dK_timeTogether_34 : decode bK_timeTogether 34 = .ok (.i2l, 1) := by decide +kernel
theorem dK_timeTogether_35 : decode bK_timeTogether 35 = .ok (.lmul, 1) := by decide +kernel
theorem dK_timeTogether_36 : decode bK_timeTogether 36 = .ok (.aload_n 0, 1) := by decide +kernel
theorem dK_timeTogether_37 : decode bK_timeTogether 37 = .ok (.getfield 9, 3) := by decide +kernel
theorem dK_timeTogether_40 : decode bK_timeTogether 40 = .ok (.iload 6, 2) := by decide +kernel
theorem dK_timeTogether_42 : decode bK_timeTogether 42 = .ok (.iaload, 1) := by decide +kernel
theorem dK_timeTogether_43 : decode bK_timeTogether 43 = .ok (.i2l, 1) := by decide +kernel
theorem dK_timeTogether_44 : decode bK_timeTogether 44 = .ok (.lload 4, 2) := by decide +kernel
theorem dK_timeTogether_46 : decode bK_timeTogether 46 = .ok (.lmul, 1) := by decide +kernel
theorem dK_timeTogether_47 : decode bK_timeTogether 47 = .ok (.ladd, 1) := by decide +kernel
theorem dK_timeTogether_48 : decode bK_timeTogether 48 = .ok (.lstore_n 2, 1) := by decide +kernel
theorem dK_timeTogether_49 : decode bK_timeTogether 49 = .ok (.lload 4, 2) := by decide +kernel
theorem dK_timeTogether_51 : decode bK_timeTogether 51 = .ok (.aload_n 0, 1) := by decide +kernel
theorem dK_timeTogether_52 : decode bK_timeTogether 52 = .ok (.getfield 15, 3) := by decide +kernel
theorem dK_timeTogether_55 : decode bK_timeTogether 55 = .ok (.iload 6, 2) := by decide +kernel
theorem dK_timeTogether_57 : decode bK_timeTogether 57 = .ok (.iaload, 1) := by decide +kernel
theorem dK_timeTogether_58 : decode bK_timeTogether 58 = .ok (.i2l, 1) := by decide +kernel
theorem dK_timeTogether_59 : decode bK_timeTogether 59 = .ok (.lmul, 1) := by decide +kernel
theorem dK_timeTogether_60 : decode bK_timeTogether 60 = .ok (.lstore 4, 2) := by decide +kernel
theorem dK_timeTogether_62 : decode bK_timeTogether 62 = .ok (.iinc 6 1, 3) := by decide +kernel
theorem dK_timeTogether_65 : decode bK_timeTogether 65 = .ok (.goto (-57), 3) := by decide +kernel
theorem dK_timeTogether_68 : decode bK_timeTogether 68 = .ok (.iload_n 1, 1) := by decide +kernel
theorem dK_timeTogether_69 : decode bK_timeTogether 69 = .ok (.i2l, 1) := by decide +kernel
theorem dK_timeTogether_70 : decode bK_timeTogether 70 = .ok (.lload 4, 2) := by decide +kernel
theorem dK_timeTogether_72 : decode bK_timeTogether 72 = .ok (.lmul, 1) := by decide +kernel
theorem dK_timeTogether_73 : decode bK_timeTogether 73 = .ok (.lload_n 2, 1) := by decide +kernel
theorem dK_timeTogether_74 : decode bK_timeTogether 74 = .ok (.invokestatic 45, 3) := by decide +kernel
theorem dK_timeTogether_77 : decode bK_timeTogether 77 = .ok (.l2i, 1) := by decide +kernel
theorem dK_timeTogether_78 : decode bK_timeTogether 78 = .ok (.ireturn, 1) := by decide +kernel
theorem dS_init_0 : decode bS_init 0 = .ok (.aload_n 0, 1) := by decide +kernel
theorem dS_init_1 : decode bS_init 1 = .ok (.invokespecial 3, 3) := by decide +kernel
theorem dS_init_4 : decode bS_init 4 = .ok (.aload_n 0, 1) := by decide +kernel
theorem dS_init_5 : decode bS_init 5 = .ok (.bipush 8, 2) := by decide +kernel
theorem dS_init_7 : decode bS_init 7 = .ok (.newarray .int, 2) := by decide +kernel
theorem dS_init_9 : decode bS_init 9 = .ok (.putfield 9, 3) := by decide +kernel
theorem dS_init_12 : decode bS_init 12 = .ok (.aload_n 0, 1) := by decide +kernel
theorem dS_init_13 : decode bS_init 13 = .ok (.iconst 4, 1) := by decide +kernel
theorem dS_init_14 : decode bS_init 14 = .ok (.newarray .int, 2) := by decide +kernel
theorem dS_init_16 : decode bS_init 16 = .ok (.putfield 15, 3) := by decide +kernel
theorem dS_init_19 : decode bS_init 19 = .ok (.aload_n 0, 1) := by decide +kernel
theorem dS_init_20 : decode bS_init 20 = .ok (.bipush 8, 2) := by decide +kernel
theorem dS_init_22 : decode bS_init 22 = .ok (.newarray .int, 2) := by decide +kernel
theorem dS_init_24 : decode bS_init 24 = .ok (.putfield 18, 3) := by decide +kernel
theorem dS_init_27 : decode bS_init 27 = .ok (.aload_n 0, 1) := by decide +kernel
theorem dS_init_28 : decode bS_init 28 = .ok (.bipush 8, 2) := by decide +kernel
theorem dS_init_30 : decode bS_init 30 = .ok (.newarray .int, 2) := by decide +kernel
theorem dS_init_32 : decode bS_init 32 = .ok (.putfield 21, 3) := by decide +kernel
theorem dS_init_35 : decode bS_init 35 = .ok (.aload_n 0, 1) := by decide +kernel
theorem dS_init_36 : decode bS_init 36 = .ok (.iconst 0, 1) := by decide +kernel
theorem dS_init_37 : decode bS_init 37 = .ok (.putfield 24, 3) := by decide +kernel
theorem dS_init_40 : decode bS_init 40 = .ok (.aload_n 0, 1) := by decide +kernel
theorem dS_init_41 : decode bS_init 41 = .ok (.iconst 0, 1) := by decide +kernel
theorem dS_init_42 : decode bS_init 42 = .ok (.putfield 28, 3) := by decide +kernel
theorem dS_init_45 : decode bS_init 45 = .ok (.aload_n 0, 1) := by decide +kernel
theorem dS_init_46 : decode bS_init 46 = .ok (.aload_n 1, 1) := by decide +kernel
theorem dS_init_47 : decode bS_init 47 = .ok (.putfield 31, 3) := by decide +kernel
theorem dS_init_50 : decode bS_init 50 = .ok (.aload_n 0, 1) := by decide +kernel
theorem dS_init_51 : decode bS_init 51 = .ok (.aload_n 2, 1) := by decide +kernel
theorem dS_init_52 : decode bS_init 52 = .ok (.putfield 35, 3) := by decide +kernel
theorem dS_init_55 : decode bS_init 55 = .ok (.aload_n 0, 1) := by decide +kernel
theorem dS_init_56 : decode bS_init 56 = .ok (.aload_n 3, 1) := by decide +kernel
theorem dS_init_57 : decode bS_init 57 = .ok (.putfield 39, 3) := by decide +kernel
theorem dS_init_60 : decode bS_init 60 = .ok (.return_, 1) := by decide +kernel
theorem dS_makeBest_0 : decode bS_makeBest 0 = .ok (.aload_n 0, 1) := by decide +kernel
theorem dS_makeBest_1 : decode bS_makeBest 1 = .ok (.invokevirtual 43, 3) := by decide +kernel
theorem dS_makeBest_4 : decode bS_makeBest 4 = .ok (.aload_n 0, 1) := by decide +kernel
theorem dS_makeBest_5 : decode bS_makeBest 5 = .ok (.getfield 28, 3) := by decide +kernel
theorem dS_makeBest_8 : decode bS_makeBest 8 = .ok (.ifCond .ne 5, 3) := by decide +kernel
theorem dS_makeBest_11 : decode bS_makeBest 11 = .ok (.iconst 0, 1) := by decide +kernel
theorem dS_makeBest_12 : decode bS_makeBest 12 = .ok (.ireturn, 1) := by decide +kernel
theorem dS_makeBest_13 : decode bS_makeBest 13 = .ok (.ldc 46, 2) := by decide +kernel
theorem dS_makeBest_15 : decode bS_makeBest 15 = .ok (.istore_n 1, 1) := by decide +kernel
theorem dS_makeBest_16 : decode bS_makeBest 16 = .ok (.ldc 46, 2) := by decide +kernel
theorem dS_makeBest_18 : decode bS_makeBest 18 = .ok (.istore_n 2, 1) := by decide +kernel
theorem dS_makeBest_19 : decode bS_makeBest 19 = .ok (.iconst 1, 1) := by decide +kernel
theorem dS_makeBest_20 : decode bS_makeBest 20 = .ok (.istore_n 3, 1) := by decide +kernel
theorem dS_makeBest_21 : decode bS_makeBest 21 = .ok (.iconst 0, 1) := by decide +kernel
theorem dS_makeBest_22 : decode bS_makeBest 22 = .ok (.istore 4, 2) := by decide +kernel
theorem dS_makeBest_24 : decode bS_makeBest 24 = .ok (.iload_n 3, 1) := by decide +kernel
theorem dS_makeBest_25 : decode bS_makeBest 25 = .ok (.ifCond .eq 90, 3) := by decide +kernel
theorem dS_makeBest_28 : decode bS_makeBest 28 = .ok (.iload 4, 2) := by decide +kernel
theorem dS_makeBest_30 : decode bS_makeBest 30 = .ok (.sipush 165, 3) := by decide +kernel
theorem dS_makeBest_33 : decode bS_makeBest 33 = .ok (.if_icmp .ge 82, 3) := by decide +kernel
theorem dS_makeBest_36 : decode bS_makeBest 36 = .ok (.aload_n 0, 1) := by decide +kernel
theorem dS_makeBest_37 : decode bS_makeBest 37 = .ok (.aload_n 0, 1) := by decide +kernel
theorem dS_makeBest_38 : decode bS_makeBest 38 = .ok (.getfield 18, 3) := by decide +kernel
theorem dS_makeBest_41 : decode bS_makeBest 41 = .ok (.invokevirtual 47, 3) := by decide +kernel
theorem dS_makeBest_44 : decode bS_makeBest 44 = .ok (.aload_n 0, 1) := by decide +kernel
theorem dS_makeBest_45 : decode bS_makeBest 45 = .ok (.getfield 39, 3) := by decide +kernel
theorem dS_makeBest_48 : decode bS_makeBest 48 = .ok (.invokevirtual 51, 3) := by decide +kernel
theorem dS_makeBest_51 : decode bS_makeBest 51 = .ok (.ifCond .eq 53, 3) := by decide +kernel
theorem dS_makeBest_54 : decode bS_makeBest 54 = .ok (.aload_n 0, 1) := by decide +kernel
theorem dS_makeBest_55 : decode bS_makeBest 55 = .ok (.getfield 39, 3) := by decide +kernel
theorem dS_makeBest_58 : decode bS_makeBest 58 = .ok (.invokevirtual 57, 3) := by decide +kernel
theorem dS_makeBest_61 : decode bS_makeBest 61 = .ok (.aload_n 0, 1) := by decide +kernel
theorem dS_makeBest_62 : decode bS_makeBest 62 = .ok (.getfield 39, 3) := by decide +kernel
theorem dS_makeBest_65 : decode bS_makeBest 65 = .ok (.iload_n 1, 1) := by decide +kernel
theorem dS_makeBest_66 : decode bS_makeBest 66 = .ok (.iload_n 2, 1) := by decide +kernel
theorem dS_makeBest_67 : decode bS_makeBest 67 = .ok (.invokevirtual 60, 3) := by decide +kernel
theorem dS_makeBest_70 : decode bS_makeBest 70 = .ok (.ifCond .eq 34, 3) := by decide +kernel
theorem dS_makeBest_73 : decode bS_makeBest 73 = .ok (.aload_n 0, 1) := by decide +kernel
theorem dS_makeBest_74 : decode bS_makeBest 74 = .ok (.getfield 39, 3) := by decide +kernel
theorem dS_makeBest_77 : decode bS_makeBest 77 = .ok (.getfield 64, 3) := by decide +kernel
theorem dS_makeBest_80 : decode bS_makeBest 80 = .ok (.istore_n 1, 1) := by decide +kernel
theorem dS_makeBest_81 : decode bS_makeBest 81 = .ok (.aload_n 0, 1) := by decide +kernel
theorem dS_makeBest_82 : decode bS_makeBest 82 = .ok (.getfield 39, 3) := by decide +kernel
theorem dS_makeBest_85 : decode bS_makeBest 85 = .ok (.getfield 67, 3) := by decide +kernel
theorem dS_makeBest_88 : decode bS_makeBest 88 = .ok (.istore_n 2, 1) := by decide +kernel
theorem dS_makeBest_89 : decode bS_makeBest 89 = .ok (.aload_n 0, 1) := by decide +kernel
theorem dS_makeBest_90 : decode bS_makeBest 90 = .ok (.getfield 18, 3) := by decide +kernel
theorem dS_makeBest_93 : decode bS_makeBest 93 = .ok (.iconst 0, 1) := by decide +kernel
theorem dS_makeBest_94 : decode bS_makeBest 94 = .ok (.aload_n 0, 1) := by decide +kernel
theorem dS_makeBest_95 : decode bS_makeBest 95 = .ok (.getfield 21, 3) := by decide +kernel
theorem dS_makeBest_98 : decode bS_makeBest 98 = .ok (.iconst 0, 1) := by decide +kernel
theorem dS_makeBest_99 : decode bS_makeBest 99 = .ok (.bipush 8, 2) := by decide +kernel
theorem dS_makeBest_101 : decode bS_makeBest 101 = .ok (.invokestatic 70, 3) := by decide +kernel
theorem dS_makeBest_104 : decode bS_makeBest 104 = .ok (.aload_n 0, 1) := by decide +kernel
theorem dS_makeBest_105 : decode bS_makeBest 105 = .ok (.invokevirtual 76, 3) := by decide +kernel
theorem dS_makeBest_108 : decode bS_makeBest 108 = .ok (.istore_n 3, 1) := by decide +kernel
theorem dS_makeBest_109 : decode bS_makeBest 109 = .ok (.iinc 4 1, 3) := by decide +kernel
theorem dS_makeBest_112 : decode bS_makeBest 112 = .ok (.goto (-88), 3) := by decide +kernel
theorem dS_makeBest_115 : decode bS_makeBest 115 = .ok (.aload_n 0, 1) := by decide +kernel
theorem dS_makeBest_116 : decode bS_makeBest 116 = .ok (.aload_n 0, 1) := by decide +kernel
theorem dS_makeBest_117 : decode bS_makeBest 117 = .ok (.getfield 21, 3) := by decide +kernel
theorem dS_makeBest_120 : decode bS_makeBest 120 = .ok (.invokevirtual 47, 3) := by decide +kernel
theorem dS_makeBest_123 : decode bS_makeBest 123 = .ok (.aload_n 0, 1) := by decide +kernel
theorem dS_makeBest_124 : decode bS_makeBest 124 = .ok (.getfield 39, 3) := by decide +kernel
theorem dS_makeBest_127 : decode bS_makeBest 127 = .ok (.invokevirtual 57, 3) := by decide +kernel
theorem dS_makeBest_130 : decode bS_makeBest 130 = .ok (.aload_n 0, 1) := by decide +kernel
theorem dS_makeBest_131 : decode bS_makeBest 131 = .ok (.getfield 39, 3) := by decide +kernel
theorem dS_makeBest_134 : decode bS_makeBest 134 = .ok (.invokevirtual 79, 3) := by decide +kernel
theorem dS_makeBest_137 : decode bS_makeBest 137 = .ok (.iconst 1, 1) := by decide +kernel
theorem dS_makeBest_138 : decode bS_makeBest 138 = .ok (.ireturn, 1) := by decide +kernel
theorem dS_gather_0 : decode bS_gather 0 = .ok (.aload_n 0, 1) := by decide +kernel
theorem dS_gather_1 : decode bS_gather 1 = .ok (.getfield 18, 3) := by decide +kernel
theorem dS_gather_4 : decode bS_gather 4 = .ok (.iconst 0, 1) := by decide +kernel
theorem dS_gather_5 : decode bS_gather 5 = .ok (.invokestatic 82, 3) := by decide +kernel
theorem dS_gather_8 : decode bS_gather 8 = .ok (.aload_n 0, 1) := by decide +kernel
theorem dS_gather_9 : decode bS_gather 9 = .ok (.iconst 0, 1) := by decide +kernel
theorem dS_gather_10 : decode bS_gather 10 = .ok (.putfield 24, 3) := by decide +kernel
theorem dS_gather_13 : decode bS_gather 13 = .ok (.iconst 0, 1) := by decide +kernel
theorem dS_gather_14 : decode bS_gather 14 = .ok (.istore_n 1, 1) := by decide +kernel
theorem dS_gather_15 : decode bS_gather 15 = .ok (.iload_n 1, 1) := by decide +kernel
theorem dS_gather_16 : decode bS_gather 16 = .ok (.bipush 8, 2) := by decide +kernel
theorem dS_gather_18 : decode bS_gather 18 = .ok (.if_icmp .ge 40, 3) := by decide +kernel
theorem dS_gather_21 : decode bS_gather 21 = .ok (.aload_n 0, 1) := by decide +kernel
theorem dS_gather_22 : decode bS_gather 22 = .ok (.getfield 31, 3) := by decide +kernel
theorem dS_gather_25 : decode bS_gather 25 = .ok (.iload_n 1, 1) := by decide +kernel
theorem dS_gather_26 : decode bS_gather 26 = .ok (.invokevirtual 88, 3) := by decide +kernel
theorem dS_gather_29 : decode bS_gather 29 = .ok (.ifCond .le 23, 3) := by decide +kernel
theorem dS_gather_32 : decode bS_gather 32 = .ok (.aload_n 0, 1) := by decide +kernel
theorem dS_gather_33 : decode bS_gather 33 = .ok (.getfield 9, 3) := by decide +kernel
theorem dS_gather_36 : decode bS_gather 36 = .ok (.aload_n 0, 1) := by decide +kernel
theorem dS_gather_37 : decode bS_gather 37 = .ok (.getfield 24, 3) := by decide +kernel
theorem dS_gather_40 : decode bS_gather 40 = .ok (.iload_n 1, 1) := by decide +kernel
theorem dS_gather_41 : decode bS_gather 41 = .ok (.iastore, 1) := by decide +kernel
theorem dS_gather_42 : decode bS_gather 42 = .ok (.aload_n 0, 1) := by decide +kernel
theorem dS_gather_43 : decode bS_gather 43 = .ok (.dup, 1) := by decide +kernel
theorem dS_gather_44 : decode bS_gather 44 = .ok (.getfield 24, 3) := by decide +kernel
theorem dS_gather_47 : decode bS_gather 47 = .ok (.iconst 1, 1) := by decide +kernel
theorem dS_gather_48 : decode bS_gather 48 = .ok (.iadd, 1) := by decide +kernel
theorem dS_gather_49 : decode bS_gather 49 = .ok (.putfield 24, 3) := by decide +kernel
theorem dS_gather_52 : decode bS_gather 52 = .ok (.iinc 1 1, 3) := by decide +kernel
theorem dS_gather_55 : decode bS_gather 55 = .ok (.goto (-40), 3) := by decide +kernel
theorem dS_gather_58 : decode bS_gather 58 = .ok (.aload_n 0, 1) := by decide +kernel
theorem dS_gather_59 : decode bS_gather 59 = .ok (.iconst 0, 1) := by decide +kernel
theorem dS_gather_60 : decode bS_gather 60 = .ok (.putfield 28, 3) := by decide +kernel
theorem dS_gather_63 : decode bS_gather 63 = .ok (.iconst 0, 1) := by decide +kernel
theorem dS_gather_64 : decode bS_gather 64 = .ok (.istore_n 1, 1) := by decide +kernel
theorem dS_gather_65 : decode bS_gather 65 = .ok (.iload_n 1, 1) := by decide +kernel
theorem dS_gather_66 : decode bS_gather 66 = .ok (.iconst 4, 1) := by decide +kernel
theorem dS_gather_67 : decode bS_gather 67 = .ok (.if_icmp .ge 40, 3) := by decide +kernel
theorem dS_gather_70 : decode bS_gather 70 = .ok (.aload_n 0, 1) := by decide +kernel
theorem dS_gather_71 : decode bS_gather 71 = .ok (.getfield 35, 3) := by decide +kernel
theorem dS_gather_74 : decode bS_gather 74 = .ok (.iload_n 1, 1) := by decide +kernel
theorem dS_gather_75 : decode bS_gather 75 = .ok (.invokevirtual 94, 3) := by decide +kernel
theorem dS_gather_78 : decode bS_gather 78 = .ok (.ifCond .ne 23, 3) := by decide +kernel
theorem dS_gather_81 : decode bS_gather 81 = .ok (.aload_n 0, 1) := by decide +kernel
theorem dS_gather_82 : decode bS_gather 82 = .ok (.getfield 15, 3) := by decide +kernel
theorem dS_gather_85 : decode bS_gather 85 = .ok (.aload_n 0, 1) := by decide +kernel
theorem dS_gather_86 : decode bS_gather 86 = .ok (.getfield 28, 3) := by decide +kernel
theorem dS_gather_89 : decode bS_gather 89 = .ok (.iload_n 1, 1) := by decide +kernel
theorem dS_gather_90 : decode bS_gather 90 = .ok (.iastore, 1) := by decide +kernel
theorem dS_gather_91 : decode bS_gather 91 = .ok (.aload_n 0, 1) := by decide +kernel
theorem dS_gather_92 : decode bS_gather 92 = .ok (.dup, 1) := by decide +kernel
theorem dS_gather_93 : decode bS_gather 93 = .ok (.getfield 28, 3) := by decide +kernel
theorem dS_gather_96 : decode bS_gather 96 = .ok (.iconst 1, 1) := by decide +kernel
theorem dS_gather_97 : decode bS_gather 97 = .ok (.iadd, 1) := by decide +kernel
theorem dS_gather_98 : decode bS_gather 98 = .ok (.putfield 28, 3) := by decide +kernel
theorem dS_gather_101 : decode bS_gather 101 = .ok (.iinc 1 1, 3) := by decide +kernel
theorem dS_gather_104 : decode bS_gather 104 = .ok (.goto (-39), 3) := by decide +kernel
theorem dS_gather_107 : decode bS_gather 107 = .ok (.return_, 1) := by decide +kernel
theorem dS_share_0 : decode bS_share 0 = .ok (.aload_n 0, 1) := by decide +kernel
theorem dS_share_1 : decode bS_share 1 = .ok (.getfield 39, 3) := by decide +kernel
theorem dS_share_4 : decode bS_share 4 = .ok (.invokevirtual 100, 3) := by decide +kernel
theorem dS_share_7 : decode bS_share 7 = .ok (.iconst 0, 1) := by decide +kernel
theorem dS_share_8 : decode bS_share 8 = .ok (.istore_n 2, 1) := by decide +kernel
theorem dS_share_9 : decode bS_share 9 = .ok (.iload_n 2, 1) := by decide +kernel
theorem dS_share_10 : decode bS_share 10 = .ok (.aload_n 0, 1) := by decide +kernel
theorem dS_share_11 : decode bS_share 11 = .ok (.getfield 24, 3) := by decide +kernel
theorem dS_share_14 : decode bS_share 14 = .ok (.if_icmp .ge 52, 3) := by decide +kernel
theorem dS_share_17 : decode bS_share 17 = .ok (.iload_n 2, 1) := by decide +kernel
theorem dS_share_18 : decode bS_share 18 = .ok (.aload_n 1, 1) := by decide +kernel
theorem dS_share_19 : decode bS_share 19 = .ok (.arraylength, 1) := by decide +kernel
theorem dS_share_20 : decode bS_share 20 = .ok (.if_icmp .ge 46, 3) := by decide +kernel
theorem dS_share_23 : decode bS_share 23 = .ok (.aload_n 1, 1) := by decide +kernel
theorem dS_share_24 : decode bS_share 24 = .ok (.iload_n 2, 1) := by decide +kernel
theorem dS_share_25 : decode bS_share 25 = .ok (.iaload, 1) := by decide +kernel
theorem dS_share_26 : decode bS_share 26 = .ok (.ifCond .lt 34, 3) := by decide +kernel
theorem dS_share_29 : decode bS_share 29 = .ok (.aload_n 1, 1) := by decide +kernel
theorem dS_share_30 : decode bS_share 30 = .ok (.iload_n 2, 1) := by decide +kernel
theorem dS_share_31 : decode bS_share 31 = .ok (.iaload, 1) := by decide +kernel
theorem dS_share_32 : decode bS_share 32 = .ok (.aload_n 0, 1) := by decide +kernel
theorem dS_share_33 : decode bS_share 33 = .ok (.getfield 28, 3) := by decide +kernel
theorem dS_share_36 : decode bS_share 36 = .ok (.if_icmp .ge 24, 3) := by decide +kernel
theorem dS_share_39 : decode bS_share 39 = .ok (.aload_n 0, 1) := by decide +kernel
theorem dS_share_40 : decode bS_share 40 = .ok (.getfield 39, 3) := by decide +kernel
theorem dS_share_43 : decode bS_share 43 = .ok (.aload_n 0, 1) := by decide +kernel
theorem dS_share_44 : decode bS_share 44 = .ok (.getfield 9, 3) := by decide +kernel
theorem dS_share_47 : decode bS_share 47 = .ok (.iload_n 2, 1) := by decide +kernel
theorem dS_share_48 : decode bS_share 48 = .ok (.iaload, 1) := by decide +kernel
theorem dS_share_49 : decode bS_share 49 = .ok (.aload_n 0, 1) := by decide +kernel
theorem dS_share_50 : decode bS_share 50 = .ok (.getfield 15, 3) := by decide +kernel
theorem dS_share_53 : decode bS_share 53 = .ok (.aload_n 1, 1) := by decide +kernel
theorem dS_share_54 : decode bS_share 54 = .ok (.iload_n 2, 1) := by decide +kernel
theorem dS_share_55 : decode bS_share 55 = .ok (.iaload, 1) := by decide +kernel
theorem dS_share_56 : decode bS_share 56 = .ok (.iaload, 1) := by decide +kernel
theorem dS_share_57 : decode bS_share 57 = .ok (.invokevirtual 103, 3) := by decide +kernel
theorem dS_share_60 : decode bS_share 60 = .ok (.iinc 2 1, 3) := by decide +kernel
theorem dS_share_63 : decode bS_share 63 = .ok (.goto (-54), 3) := by decide +kernel
theorem dS_share_66 : decode bS_share 66 = .ok (.return_, 1) := by decide +kernel
theorem dS_nextChoice_0 : decode bS_nextChoice 0 = .ok (.aload_n 0, 1) := by decide +kernel
theorem dS_nextChoice_1 : decode bS_nextChoice 1 = .ok (.getfield 24, 3) := by decide +kernel
theorem dS_nextChoice_4 : decode bS_nextChoice 4 = .ok (.iconst 1, 1) := by decide +kernel
theorem dS_nextChoice_5 : decode bS_nextChoice 5 = .ok (.isub, 1) := by decide +kernel
theorem dS_nextChoice_6 : decode bS_nextChoice 6 = .ok (.istore_n 1, 1) := by decide +kernel
theorem dS_nextChoice_7 : decode bS_nextChoice 7 = .ok (.iload_n 1, 1) := by decide +kernel
theorem dS_nextChoice_8 : decode bS_nextChoice 8 = .ok (.ifCond .lt 58, 3) := by decide +kernel
theorem dS_nextChoice_11 : decode bS_nextChoice 11 = .ok (.aload_n 0, 1) := by decide +kernel
theorem dS_nextChoice_12 : decode bS_nextChoice 12 = .ok (.getfield 18, 3) := by decide +kernel
theorem dS_nextChoice_15 : decode bS_nextChoice 15 = .ok (.iload_n 1, 1) := by decide +kernel
theorem dS_nextChoice_16 : decode bS_nextChoice 16 = .ok (.iaload, 1) := by decide +kernel
theorem dS_nextChoice_17 : decode bS_nextChoice 17 = .ok (.aload_n 0, 1) := by decide +kernel
theorem dS_nextChoice_18 : decode bS_nextChoice 18 = .ok (.getfield 28, 3) := by decide +kernel
theorem dS_nextChoice_21 : decode bS_nextChoice 21 = .ok (.iconst 1, 1) := by decide +kernel
theorem dS_nextChoice_22 : decode bS_nextChoice 22 = .ok (.isub, 1) := by decide +kernel
theorem dS_nextChoice_23 : decode bS_nextChoice 23 = .ok (.if_icmp .ge 37, 3) := by decide +kernel
theorem dS_nextChoice_26 : decode bS_nextChoice 26 = .ok (.aload_n 0, 1) := by decide +kernel
theorem dS_nextChoice_27 : decode bS_nextChoice 27 = .ok (.getfield 18, 3) := by decide +kernel
theorem dS_nextChoice_30 : decode bS_nextChoice 30 = .ok (.iload_n 1, 1) := by decide +kernel
theorem dS_nextChoice_31 : decode bS_nextChoice 31 = .ok (.iaload, 1) := by decide +kernel
theorem dS_nextChoice_32 : decode bS_nextChoice 32 = .ok (.iconst 1, 1) := by decide +kernel
theorem dS_nextChoice_33 : decode bS_nextChoice 33 = .ok (.iadd, 1) := by decide +kernel
theorem dS_nextChoice_34 : decode bS_nextChoice 34 = .ok (.istore_n 2, 1) := by decide +kernel
theorem dS_nextChoice_35 : decode bS_nextChoice 35 = .ok (.iload_n 1, 1) := by decide +kernel
theorem dS_nextChoice_36 : decode bS_nextChoice 36 = .ok (.istore_n 3, 1) := by decide +kernel
theorem dS_nextChoice_37 : decode bS_nextChoice 37 = .ok (.iload_n 3, 1) := by decide +kernel
theorem dS_nextChoice_38 : decode bS_nextChoice 38 = .ok (.aload_n 0, 1) := by decide +kernel
theorem dS_nextChoice_39 : decode bS_nextChoice 39 = .ok (.getfield 24, 3) := by decide +kernel
theorem dS_nextChoice_42 : decode bS_nextChoice 42 = .ok (.if_icmp .ge 16, 3) := by decide +kernel
theorem dS_nextChoice_45 : decode bS_nextChoice 45 = .ok (.aload_n 0, 1) := by decide +kernel
theorem dS_nextChoice_46 : decode bS_nextChoice 46 = .ok (.getfield 18, 3) := by decide +kernel
theorem dS_nextChoice_49 : decode bS_nextChoice 49 = .ok (.iload_n 3, 1) := by decide +kernel
theorem dS_nextChoice_50 : decode bS_nextChoice 50 = .ok (.iload_n 2, 1) := by decide +kernel
theorem dS_nextChoice_51 : decode bS_nextChoice 51 = .ok (.iastore, 1) := by decide +kernel
theorem dS_nextChoice_52 : decode bS_nextChoice 52 = .ok (.iinc 3 1, 3) := by decide +kernel
theorem dS_nextChoice_55 : decode bS_nextChoice 55 = .ok (.goto (-18), 3) := by decide +kernel
theorem dS_nextChoice_58 : decode bS_nextChoice 58 = .ok (.iconst 1, 1) := by decide +kernel
theorem dS_nextChoice_59 : decode bS_nextChoice 59 = .ok (.ireturn, 1) := by decide +kernel
theorem dS_nextChoice_60 : decode bS_nextChoice 60 = .ok (.iinc 1 (-1), 3) := by decide +kernel
theorem dS_nextChoice_63 : decode bS_nextChoice 63 = .ok (.goto (-56), 3) := by decide +kernel
theorem dS_nextChoice_66 : decode bS_nextChoice 66 = .ok (.iconst 0, 1) := by decide +kernel
theorem dS_nextChoice_67 : decode bS_nextChoice 67 = .ok (.ireturn, 1) := by decide +kernel
theorem dT_init_0 : decode bT_init 0 = .ok (.aload_n 0, 1) := by decide +kernel
theorem dT_init_1 : decode bT_init 1 = .ok (.invokespecial 3, 3) := by decide +kernel
theorem dT_init_4 : decode bT_init 4 = .ok (.aload_n 0, 1) := by decide +kernel
theorem dT_init_5 : decode bT_init 5 = .ok (.bipush 8, 2) := by decide +kernel
theorem dT_init_7 : decode bT_init 7 = .ok (.newarray .int, 2) := by decide +kernel
theorem dT_init_9 : decode bT_init 9 = .ok (.putfield 9, 3) := by decide +kernel
theorem dT_init_12 : decode bT_init 12 = .ok (.aload_n 0, 1) := by decide +kernel
theorem dT_init_13 : decode bT_init 13 = .ok (.bipush 8, 2) := by decide +kernel
theorem dT_init_15 : decode bT_init 15 = .ok (.newarray .int, 2) := by decide +kernel
theorem dT_init_17 : decode bT_init 17 = .ok (.putfield 15, 3) := by decide +kernel
theorem dT_init_20 : decode bT_init 20 = .ok (.aload_n 0, 1) := by decide +kernel
theorem dT_init_21 : decode bT_init 21 = .ok (.bipush 8, 2) := by decide +kernel
theorem dT_init_23 : decode bT_init 23 = .ok (.newarray .int, 2) := by decide +kernel
theorem dT_init_25 : decode bT_init 25 = .ok (.putfield 18, 3) := by decide +kernel
theorem dT_init_28 : decode bT_init 28 = .ok (.aload_n 0, 1) := by decide +kernel
theorem dT_init_29 : decode bT_init 29 = .ok (.iconst 4, 1) := by decide +kernel
theorem dT_init_30 : decode bT_init 30 = .ok (.newarray .int, 2) := by decide +kernel
theorem dT_init_32 : decode bT_init 32 = .ok (.putfield 21, 3) := by decide +kernel
theorem dT_init_35 : decode bT_init 35 = .ok (.aload_n 0, 1) := by decide +kernel
theorem dT_init_36 : decode bT_init 36 = .ok (.iconst 4, 1) := by decide +kernel
theorem dT_init_37 : decode bT_init 37 = .ok (.newarray .int, 2) := by decide +kernel
theorem dT_init_39 : decode bT_init 39 = .ok (.putfield 24, 3) := by decide +kernel
theorem dT_init_42 : decode bT_init 42 = .ok (.aload_n 0, 1) := by decide +kernel
theorem dT_init_43 : decode bT_init 43 = .ok (.iconst 4, 1) := by decide +kernel
theorem dT_init_44 : decode bT_init 44 = .ok (.bipush 8, 2) := by decide +kernel
theorem dT_init_46 : decode bT_init 46 = .ok (.multianewarray 27 2, 4) := by decide +kernel
theorem dT_init_50 : decode bT_init 50 = .ok (.putfield 29, 3) := by decide +kernel
theorem dT_init_53 : decode bT_init 53 = .ok (.aload_n 0, 1) := by decide +kernel
theorem dT_init_54 : decode bT_init 54 = .ok (.bipush 8, 2) := by decide +kernel
theorem dT_init_56 : decode bT_init 56 = .ok (.newarray .int, 2) := by decide +kernel
theorem dT_init_58 : decode bT_init 58 = .ok (.putfield 32, 3) := by decide +kernel
theorem dT_init_61 : decode bT_init 61 = .ok (.aload_n 0, 1) := by decide +kernel
theorem dT_init_62 : decode bT_init 62 = .ok (.iconst 0, 1) := by decide +kernel
theorem dT_init_63 : decode bT_init 63 = .ok (.putfield 35, 3) := by decide +kernel
theorem dT_init_66 : decode bT_init 66 = .ok (.aload_n 0, 1) := by decide +kernel
theorem dT_init_67 : decode bT_init 67 = .ok (.iconst 0, 1) := by decide +kernel
theorem dT_init_68 : decode bT_init 68 = .ok (.putfield 39, 3) := by decide +kernel
theorem dT_init_71 : decode bT_init 71 = .ok (.aload_n 0, 1) := by decide +kernel
theorem dT_init_72 : decode bT_init 72 = .ok (.iconst 0, 1) := by decide +kernel
theorem dT_init_73 : decode bT_init 73 = .ok (.putfield 42, 3) := by decide +kernel
theorem dT_init_76 : decode bT_init 76 = .ok (.aload_n 0, 1) := by decide +kernel
theorem dT_init_77 : decode bT_init 77 = .ok (.aload_n 1, 1) := by decide +kernel
theorem dT_init_78 : decode bT_init 78 = .ok (.putfield 45, 3) := by decide +kernel
theorem dT_init_81 : decode bT_init 81 = .ok (.aload_n 0, 1) := by decide +kernel
theorem dT_init_82 : decode bT_init 82 = .ok (.aload_n 2, 1) := by decide +kernel
theorem dT_init_83 : decode bT_init 83 = .ok (.putfield 49, 3) := by decide +kernel
theorem dT_init_86 : decode bT_init 86 = .ok (.return_, 1) := by decide +kernel
theorem dT_clear_0 : decode bT_clear 0 = .ok (.aload_n 0, 1) := by decide +kernel
theorem dT_clear_1 : decode bT_clear 1 = .ok (.getfield 9, 3) := by decide +kernel
theorem dT_clear_4 : decode bT_clear 4 = .ok (.iconst (-1), 1) := by decide +kernel
theorem dT_clear_5 : decode bT_clear 5 = .ok (.invokestatic 53, 3) := by decide +kernel
theorem dT_clear_8 : decode bT_clear 8 = .ok (.aload_n 0, 1) := by decide +kernel
theorem dT_clear_9 : decode bT_clear 9 = .ok (.getfield 21, 3) := by decide +kernel
theorem dT_clear_12 : decode bT_clear 12 = .ok (.iconst (-1), 1) := by decide +kernel
theorem dT_clear_13 : decode bT_clear 13 = .ok (.invokestatic 53, 3) := by decide +kernel
theorem dT_clear_16 : decode bT_clear 16 = .ok (.aload_n 0, 1) := by decide +kernel
theorem dT_clear_17 : decode bT_clear 17 = .ok (.getfield 24, 3) := by decide +kernel
theorem dT_clear_20 : decode bT_clear 20 = .ok (.iconst (-1), 1) := by decide +kernel
theorem dT_clear_21 : decode bT_clear 21 = .ok (.invokestatic 53, 3) := by decide +kernel
theorem dT_clear_24 : decode bT_clear 24 = .ok (.aload_n 0, 1) := by decide +kernel
theorem dT_clear_25 : decode bT_clear 25 = .ok (.iconst 0, 1) := by decide +kernel
theorem dT_clear_26 : decode bT_clear 26 = .ok (.putfield 35, 3) := by decide +kernel
theorem dT_clear_29 : decode bT_clear 29 = .ok (.aload_n 0, 1) := by decide +kernel
theorem dT_clear_30 : decode bT_clear 30 = .ok (.iconst 0, 1) := by decide +kernel
theorem dT_clear_31 : decode bT_clear 31 = .ok (.putfield 39, 3) := by decide +kernel
theorem dT_clear_34 : decode bT_clear 34 = .ok (.aload_n 0, 1) := by decide +kernel
theorem dT_clear_35 : decode bT_clear 35 = .ok (.iconst 0, 1) := by decide +kernel
theorem dT_clear_36 : decode bT_clear 36 = .ok (.putfield 42, 3) := by decide +kernel
theorem dT_clear_39 : decode bT_clear 39 = .ok (.return_, 1) := by decide +kernel
theorem dT_give_0 : decode bT_give 0 = .ok (.aload_n 0, 1) := by decide +kernel
theorem dT_give_1 : decode bT_give 1 = .ok (.getfield 45, 3) := by decide +kernel
theorem dT_give_4 : decode bT_give 4 = .ok (.iload_n 1, 1) := by decide +kernel
theorem dT_give_5 : decode bT_give 5 = .ok (.invokevirtual 59, 3) := by decide +kernel
theorem dT_give_8 : decode bT_give 8 = .ok (.ifCond .eq 14, 3) := by decide +kernel
theorem dT_give_11 : decode bT_give 11 = .ok (.aload_n 0, 1) := by decide +kernel
theorem dT_give_12 : decode bT_give 12 = .ok (.getfield 49, 3) := by decide +kernel
theorem dT_give_15 : decode bT_give 15 = .ok (.iload_n 2, 1) := by decide +kernel
theorem dT_give_16 : decode bT_give 16 = .ok (.invokevirtual 65, 3) := by decide +kernel
theorem dT_give_19 : decode bT_give 19 = .ok (.ifCond .ne 4, 3) := by decide +kernel
theorem dT_give_22 : decode bT_give 22 = .ok (.return_, 1) := by decide +kernel
theorem dT_give_23 : decode bT_give 23 = .ok (.aload_n 0, 1) := by decide +kernel
theorem dT_give_24 : decode bT_give 24 = .ok (.getfield 9, 3) := by decide +kernel
theorem dT_give_27 : decode bT_give 27 = .ok (.iload_n 1, 1) := by decide +kernel
theorem dT_give_28 : decode bT_give 28 = .ok (.iload_n 2, 1) := by decide +kernel
theorem dT_give_29 : decode bT_give 29 = .ok (.iastore, 1) := by decide +kernel
theorem dT_give_30 : decode bT_give 30 = .ok (.aload_n 0, 1) := by decide +kernel
theorem dT_give_31 : decode bT_give 31 = .ok (.getfield 21, 3) := by decide +kernel
theorem dT_give_34 : decode bT_give 34 = .ok (.iload_n 2, 1) := by decide +kernel
theorem dT_give_35 : decode bT_give 35 = .ok (.iaload, 1) := by decide +kernel
theorem dT_give_36 : decode bT_give 36 = .ok (.iconst (-1), 1) := by decide +kernel
theorem dT_give_37 : decode bT_give 37 = .ok (.if_icmp .ne 13, 3) := by decide +kernel
theorem dT_give_40 : decode bT_give 40 = .ok (.aload_n 0, 1) := by decide +kernel
theorem dT_give_41 : decode bT_give 41 = .ok (.getfield 21, 3) := by decide +kernel
theorem dT_give_44 : decode bT_give 44 = .ok (.iload_n 2, 1) := by decide +kernel
theorem dT_give_45 : decode bT_give 45 = .ok (.iload_n 1, 1) := by decide +kernel
theorem dT_give_46 : decode bT_give 46 = .ok (.iastore, 1) := by decide +kernel
theorem dT_give_47 : decode bT_give 47 = .ok (.goto 20, 3) := by decide +kernel
theorem dT_give_50 : decode bT_give 50 = .ok (.aload_n 0, 1) := by decide +kernel
theorem dT_give_51 : decode bT_give 51 = .ok (.dup, 1) := by decide +kernel
theorem dT_give_52 : decode bT_give 52 = .ok (.getfield 42, 3) := by decide +kernel
theorem dT_give_55 : decode bT_give 55 = .ok (.iload_n 1, 1) := by decide +kernel
theorem dT_give_56 : decode bT_give 56 = .ok (.aload_n 0, 1) := by decide +kernel
theorem dT_give_57 : decode bT_give 57 = .ok (.getfield 24, 3) := by decide +kernel
theorem dT_give_60 : decode bT_give 60 = .ok (.iload_n 2, 1) := by decide +kernel
theorem dT_give_61 : decode bT_give 61 = .ok (.iaload, 1) := by decide +kernel
theorem dT_give_62 : decode bT_give 62 = .ok (.isub, 1) := by decide +kernel
theorem dT_give_63 : decode bT_give 63 = .ok (.iadd, 1) := by decide +kernel
theorem dT_give_64 : decode bT_give 64 = .ok (.putfield 42, 3) := by decide +kernel
theorem dT_give_67 : decode bT_give 67 = .ok (.aload_n 0, 1) := by decide +kernel
theorem dT_give_68 : decode bT_give 68 = .ok (.getfield 24, 3) := by decide +kernel
theorem dT_give_71 : decode bT_give 71 = .ok (.iload_n 2, 1) := by decide +kernel
theorem dT_give_72 : decode bT_give 72 = .ok (.iload_n 1, 1) := by decide +kernel
theorem dT_give_73 : decode bT_give 73 = .ok (.iastore, 1) := by decide +kernel
theorem dT_give_74 : decode bT_give 74 = .ok (.return_, 1) := by decide +kernel
theorem dT_keepsApart_0 : decode bT_keepsApart 0 = .ok (.iconst (-1), 1) := by decide +kernel
theorem dT_keepsApart_1 : decode bT_keepsApart 1 = .ok (.istore_n 1, 1) := by decide +kernel
theorem dT_keepsApart_2 : decode bT_keepsApart 2 = .ok (.iconst 0, 1) := by decide +kernel
theorem dT_keepsApart_3 : decode bT_keepsApart 3 = .ok (.istore_n 2, 1) := by decide +kernel
theorem dT_keepsApart_4 : decode bT_keepsApart 4 = .ok (.iload_n 2, 1) := by decide +kernel
theorem dT_keepsApart_5 : decode bT_keepsApart 5 = .ok (.iconst 4, 1) := by decide +kernel
theorem dT_keepsApart_6 : decode bT_keepsApart 6 = .ok (.if_icmp .ge 37, 3) := by decide +kernel
theorem dT_keepsApart_9 : decode bT_keepsApart 9 = .ok (.aload_n 0, 1) := by decide +kernel
theorem dT_keepsApart_10 : decode bT_keepsApart 10 = .ok (.getfield 21, 3) := by decide +kernel
theorem dT_keepsApart_13 : decode bT_keepsApart 13 = .ok (.iload_n 2, 1) := by decide +kernel
theorem dT_keepsApart_14 : decode bT_keepsApart 14 = .ok (.iaload, 1) := by decide +kernel
theorem dT_keepsApart_15 : decode bT_keepsApart 15 = .ok (.iconst (-1), 1) := by decide +kernel
theorem dT_keepsApart_16 : decode bT_keepsApart 16 = .ok (.if_icmp .eq 21, 3) := by decide +kernel
theorem dT_keepsApart_19 : decode bT_keepsApart 19 = .ok (.iload_n 1, 1) := by decide +kernel
theorem dT_keepsApart_20 : decode bT_keepsApart 20 = .ok (.iconst (-1), 1) := by decide +kernel
theorem dT_keepsApart_21 : decode bT_keepsApart 21 = .ok (.if_icmp .eq 14, 3) := by decide +kernel
theorem dT_keepsApart_24 : decode bT_keepsApart 24 = .ok (.aload_n 0, 1) := by decide +kernel
theorem dT_keepsApart_25 : decode bT_keepsApart 25 = .ok (.iload_n 1, 1) := by decide +kernel
theorem dT_keepsApart_26 : decode bT_keepsApart 26 = .ok (.iload_n 2, 1) := by decide +kernel
theorem dT_keepsApart_27 : decode bT_keepsApart 27 = .ok (.invokevirtual 68, 3) := by decide +kernel
theorem dT_keepsApart_30 : decode bT_keepsApart 30 = .ok (.ifCond .eq 5, 3) := by decide +kernel
theorem dT_keepsApart_33 : decode bT_keepsApart 33 = .ok (.iconst 0, 1) := by decide +kernel
theorem dT_keepsApart_34 : decode bT_keepsApart 34 = .ok (.ireturn, 1) := by decide +kernel
theorem dT_keepsApart_35 : decode bT_keepsApart 35 = .ok (.iload_n 2, 1) := by decide +kernel
theorem dT_keepsApart_36 : decode bT_keepsApart 36 = .ok (.istore_n 1, 1) := by decide +kernel
theorem dT_keepsApart_37 : decode bT_keepsApart 37 = .ok (.iinc 2 1, 3) := by decide +kernel
theorem dT_keepsApart_40 : decode bT_keepsApart 40 = .ok (.goto (-36), 3) := by decide +kernel
theorem dT_keepsApart_43 : decode bT_keepsApart 43 = .ok (.iconst 1, 1) := by decide +kernel
theorem dT_keepsApart_44 : decode bT_keepsApart 44 = .ok (.ireturn, 1) := by decide +kernel
theorem dT_tooNear_0 : decode bT_tooNear 0 = .ok (.aload_n 0, 1) := by decide +kernel
theorem dT_tooNear_1 : decode bT_tooNear 1 = .ok (.getfield 21, 3) := by decide +kernel
theorem dT_tooNear_4 : decode bT_tooNear 4 = .ok (.iload_n 2, 1) := by decide +kernel
theorem dT_tooNear_5 : decode bT_tooNear 5 = .ok (.iaload, 1) := by decide +kernel
theorem dT_tooNear_6 : decode bT_tooNear 6 = .ok (.aload_n 0, 1) := by decide +kernel
theorem dT_tooNear_7 : decode bT_tooNear 7 = .ok (.getfield 21, 3) := by decide +kernel
theorem dT_tooNear_10 : decode bT_tooNear 10 = .ok (.iload_n 1, 1) := by decide +kernel
theorem dT_tooNear_11 : decode bT_tooNear 11 = .ok (.iaload, 1) := by decide +kernel
theorem dT_tooNear_12 : decode bT_tooNear 12 = .ok (.isub, 1) := by decide +kernel
theorem dT_tooNear_13 : decode bT_tooNear 13 = .ok (.aload_n 0, 1) := by decide +kernel
theorem dT_tooNear_14 : decode bT_tooNear 14 = .ok (.getfield 49, 3) := by decide +kernel
theorem dT_tooNear_17 : decode bT_tooNear 17 = .ok (.getfield 72, 3) := by decide +kernel
theorem dT_tooNear_20 : decode bT_tooNear 20 = .ok (.if_icmp .le 26, 3) := by decide +kernel
theorem dT_tooNear_23 : decode bT_tooNear 23 = .ok (.aload_n 0, 1) := by decide +kernel
theorem dT_tooNear_24 : decode bT_tooNear 24 = .ok (.getfield 24, 3) := by decide +kernel
theorem dT_tooNear_27 : decode bT_tooNear 27 = .ok (.iload_n 2, 1) := by decide +kernel
theorem dT_tooNear_28 : decode bT_tooNear 28 = .ok (.iaload, 1) := by decide +kernel
theorem dT_tooNear_29 : decode bT_tooNear 29 = .ok (.aload_n 0, 1) := by decide +kernel
theorem dT_tooNear_30 : decode bT_tooNear 30 = .ok (.getfield 24, 3) := by decide +kernel
theorem dT_tooNear_33 : decode bT_tooNear 33 = .ok (.iload_n 1, 1) := by decide +kernel
theorem dT_tooNear_34 : decode bT_tooNear 34 = .ok (.iaload, 1) := by decide +kernel
theorem dT_tooNear_35 : decode bT_tooNear 35 = .ok (.isub, 1) := by decide +kernel
theorem dT_tooNear_36 : decode bT_tooNear 36 = .ok (.aload_n 0, 1) := by decide +kernel
theorem dT_tooNear_37 : decode bT_tooNear 37 = .ok (.getfield 49, 3) := by decide +kernel
theorem dT_tooNear_40 : decode bT_tooNear 40 = .ok (.getfield 72, 3) := by decide +kernel
theorem dT_tooNear_43 : decode bT_tooNear 43 = .ok (.if_icmp .gt 7, 3) := by decide +kernel
theorem dT_tooNear_46 : decode bT_tooNear 46 = .ok (.iconst 1, 1) := by decide +kernel
theorem dT_tooNear_47 : decode bT_tooNear 47 = .ok (.goto 4, 3) := by decide +kernel
theorem dT_tooNear_50 : decode bT_tooNear 50 = .ok (.iconst 0, 1) := by decide +kernel
theorem dT_tooNear_51 : decode bT_tooNear 51 = .ok (.ireturn, 1) := by decide +kernel
theorem dT_setTimes_0 : decode bT_setTimes 0 = .ok (.iconst (-1), 1) := by decide +kernel
theorem dT_setTimes_1 : decode bT_setTimes 1 = .ok (.istore_n 1, 1) := by decide +kernel
theorem dT_setTimes_2 : decode bT_setTimes 2 = .ok (.iconst 3, 1) := by decide +kernel
theorem dT_setTimes_3 : decode bT_setTimes 3 = .ok (.istore_n 2, 1) := by decide +kernel
theorem dT_setTimes_4 : decode bT_setTimes 4 = .ok (.iload_n 2, 1) := by decide +kernel
theorem dT_setTimes_5 : decode bT_setTimes 5 = .ok (.ifCond .lt 27, 3) := by decide +kernel
theorem dT_setTimes_8 : decode bT_setTimes 8 = .ok (.aload_n 0, 1) := by decide +kernel
theorem dT_setTimes_9 : decode bT_setTimes 9 = .ok (.getfield 21, 3) := by decide +kernel
theorem dT_setTimes_12 : decode bT_setTimes 12 = .ok (.iload_n 2, 1) := by decide +kernel
theorem dT_setTimes_13 : decode bT_setTimes 13 = .ok (.iaload, 1) := by decide +kernel
theorem dT_setTimes_14 : decode bT_setTimes 14 = .ok (.iconst (-1), 1) := by decide +kernel
theorem dT_setTimes_15 : decode bT_setTimes 15 = .ok (.if_icmp .eq 11, 3) := by decide +kernel
theorem dT_setTimes_18 : decode bT_setTimes 18 = .ok (.aload_n 0, 1) := by decide +kernel
theorem dT_setTimes_19 : decode bT_setTimes 19 = .ok (.iload_n 2, 1) := by decide +kernel
theorem dT_setTimes_20 : decode bT_setTimes 20 = .ok (.iload_n 1, 1) := by decide +kernel
theorem dT_setTimes_21 : decode bT_setTimes 21 = .ok (.invokevirtual 75, 3) := by decide +kernel
theorem dT_setTimes_24 : decode bT_setTimes 24 = .ok (.iload_n 2, 1) := by decide +kernel
theorem dT_setTimes_25 : decode bT_setTimes 25 = .ok (.istore_n 1, 1) := by decide +kernel
theorem dT_setTimes_26 : decode bT_setTimes 26 = .ok (.iinc 2 (-1), 3) := by decide +kernel
theorem dT_setTimes_29 : decode bT_setTimes 29 = .ok (.goto (-25), 3) := by decide +kernel
theorem dT_setTimes_32 : decode bT_setTimes 32 = .ok (.return_, 1) := by decide +kernel
theorem dT_setTimesOf_0 : decode bT_setTimesOf 0 = .ok (.iconst 0, 1) := by decide +kernel
theorem dT_setTimesOf_1 : decode bT_setTimesOf 1 = .ok (.istore_n 3, 1) := by decide +kernel
theorem dT_setTimesOf_2 : decode bT_setTimesOf 2 = .ok (.iconst 0, 1) := by decide +kernel
theorem dT_setTimesOf_3 : decode bT_setTimesOf 3 = .ok (.aload_n 0, 1) := by decide +kernel
theorem dT_setTimesOf_4 : decode bT_setTimesOf 4 = .ok (.getfield 21, 3) := by decide +kernel
theorem dT_setTimesOf_7 : decode bT_setTimesOf 7 = .ok (.iload_n 1, 1) := by decide +kernel
theorem dT_setTimesOf_8 : decode bT_setTimesOf 8 = .ok (.iaload, 1) := by decide +kernel
theorem dT_setTimesOf_9 : decode bT_setTimesOf 9 = .ok (.invokestatic 79, 3) := by decide +kernel
theorem dT_setTimesOf_12 : decode bT_setTimesOf 12 = .ok (.istore 4, 2) := by decide +kernel
theorem dT_setTimesOf_14 : decode bT_setTimesOf 14 = .ok (.iload 4, 2) := by decide +kernel
theorem dT_setTimesOf_16 : decode bT_setTimesOf 16 = .ok (.aload_n 0, 1) := by decide +kernel
theorem dT_setTimesOf_17 : decode bT_setTimesOf 17 = .ok (.getfield 24, 3) := by decide +kernel
theorem dT_setTimesOf_20 : decode bT_setTimesOf 20 = .ok (.iload_n 1, 1) := by decide +kernel
theorem dT_setTimesOf_21 : decode bT_setTimesOf 21 = .ok (.iaload, 1) := by decide +kernel
theorem dT_setTimesOf_22 : decode bT_setTimesOf 22 = .ok (.if_icmp .gt 115, 3) := by decide +kernel
theorem dT_setTimesOf_25 : decode bT_setTimesOf 25 = .ok (.iload 4, 2) := by decide +kernel
theorem dT_setTimesOf_27 : decode bT_setTimesOf 27 = .ok (.bipush 8, 2) := by decide +kernel
theorem dT_setTimesOf_29 : decode bT_setTimesOf 29 = .ok (.if_icmp .ge 108, 3) := by decide +kernel
theorem dT_setTimesOf_32 : decode bT_setTimesOf 32 = .ok (.aload_n 0, 1) := by decide +kernel
theorem dT_setTimesOf_33 : decode bT_setTimesOf 33 = .ok (.getfield 29, 3) := by decide +kernel
theorem dT_setTimesOf_36 : decode bT_setTimesOf 36 = .ok (.iload_n 1, 1) := by decide +kernel
theorem dT_setTimesOf_37 : decode bT_setTimesOf 37 = .ok (.aaload, 1) := by decide +kernel
theorem dT_setTimesOf_38 : decode bT_setTimesOf 38 = .ok (.iload 4, 2) := by decide +kernel
theorem dT_setTimesOf_40 : decode bT_setTimesOf 40 = .ok (.iload_n 3, 1) := by decide +kernel
theorem dT_setTimesOf_41 : decode bT_setTimesOf 41 = .ok (.iastore, 1) := by decide +kernel
theorem dT_setTimesOf_42 : decode bT_setTimesOf 42 = .ok (.aload_n 0, 1) := by decide +kernel
theorem dT_setTimesOf_43 : decode bT_setTimesOf 43 = .ok (.getfield 9, 3) := by decide +kernel
theorem dT_setTimesOf_46 : decode bT_setTimesOf 46 = .ok (.iload 4, 2) := by decide +kernel
theorem dT_setTimesOf_48 : decode bT_setTimesOf 48 = .ok (.iaload, 1) := by decide +kernel
theorem dT_setTimesOf_49 : decode bT_setTimesOf 49 = .ok (.iload_n 1, 1) := by decide +kernel
theorem dT_setTimesOf_50 : decode bT_setTimesOf 50 = .ok (.if_icmp .ne 51, 3) := by decide +kernel
theorem dT_setTimesOf_53 : decode bT_setTimesOf 53 = .ok (.aload_n 0, 1) := by decide +kernel
theorem dT_setTimesOf_54 : decode bT_setTimesOf 54 = .ok (.getfield 15, 3) := by decide +kernel
theorem dT_setTimesOf_57 : decode bT_setTimesOf 57 = .ok (.iload 4, 2) := by decide +kernel
theorem dT_setTimesOf_59 : decode bT_setTimesOf 59 = .ok (.iload_n 3, 1) := by decide +kernel
theorem dT_setTimesOf_60 : decode bT_setTimesOf 60 = .ok (.iastore, 1) := by decide +kernel
theorem dT_setTimesOf_61 : decode bT_setTimesOf 61 = .ok (.iload_n 3, 1) := by decide +kernel
theorem dT_setTimesOf_62 : decode bT_setTimesOf 62 = .ok (.aload_n 0, 1) := by decide +kernel
theorem dT_setTimesOf_63 : decode bT_setTimesOf 63 = .ok (.getfield 49, 3) := by decide +kernel
theorem dT_setTimesOf_66 : decode bT_setTimesOf 66 = .ok (.iload_n 1, 1) := by decide +kernel
theorem dT_setTimesOf_67 : decode bT_setTimesOf 67 = .ok (.aload_n 0, 1) := by decide +kernel
theorem dT_setTimesOf_68 : decode bT_setTimesOf 68 = .ok (.getfield 45, 3) := by decide +kernel
theorem dT_setTimesOf_71 : decode bT_setTimesOf 71 = .ok (.iload 4, 2) := by decide +kernel
theorem dT_setTimesOf_73 : decode bT_setTimesOf 73 = .ok (.invokevirtual 85, 3) := by decide +kernel
theorem dT_setTimesOf_76 : decode bT_setTimesOf 76 = .ok (.invokevirtual 89, 3) := by decide +kernel
theorem dT_setTimesOf_79 : decode bT_setTimesOf 79 = .ok (.iadd, 1) := by decide +kernel
theorem dT_setTimesOf_80 : decode bT_setTimesOf 80 = .ok (.istore_n 3, 1) := by decide +kernel
theorem dT_setTimesOf_81 : decode bT_setTimesOf 81 = .ok (.aload_n 0, 1) := by decide +kernel
theorem dT_setTimesOf_82 : decode bT_setTimesOf 82 = .ok (.getfield 18, 3) := by decide +kernel
theorem dT_setTimesOf_85 : decode bT_setTimesOf 85 = .ok (.iload 4, 2) := by decide +kernel
theorem dT_setTimesOf_87 : decode bT_setTimesOf 87 = .ok (.iload_n 3, 1) := by decide +kernel
theorem dT_setTimesOf_88 : decode bT_setTimesOf 88 = .ok (.iastore, 1) := by decide +kernel
theorem dT_setTimesOf_89 : decode bT_setTimesOf 89 = .ok (.aload_n 0, 1) := by decide +kernel
theorem dT_setTimesOf_90 : decode bT_setTimesOf 90 = .ok (.aload_n 0, 1) := by decide +kernel
theorem dT_setTimesOf_91 : decode bT_setTimesOf 91 = .ok (.getfield 39, 3) := by decide +kernel
theorem dT_setTimesOf_94 : decode bT_setTimesOf 94 = .ok (.iload_n 3, 1) := by decide +kernel
theorem dT_setTimesOf_95 : decode bT_setTimesOf 95 = .ok (.invokestatic 79, 3) := by decide +kernel
theorem dT_setTimesOf_98 : decode bT_setTimesOf 98 = .ok (.putfield 39, 3) := by decide +kernel
theorem dT_setTimesOf_101 : decode bT_setTimesOf 101 = .ok (.iload_n 3, 1) := by decide +kernel
theorem dT_setTimesOf_102 : decode bT_setTimesOf 102 = .ok (.aload_n 0, 1) := by decide +kernel
theorem dT_setTimesOf_103 : decode bT_setTimesOf 103 = .ok (.iload_n 2, 1) := by decide +kernel
theorem dT_setTimesOf_104 : decode bT_setTimesOf 104 = .ok (.iload 4, 2) := by decide +kernel
theorem dT_setTimesOf_106 : decode bT_setTimesOf 106 = .ok (.iconst 2, 1) := by decide +kernel
theorem dT_setTimesOf_107 : decode bT_setTimesOf 107 = .ok (.iadd, 1) := by decide +kernel
theorem dT_setTimesOf_108 : decode bT_setTimesOf 108 = .ok (.aload_n 0, 1) := by decide +kernel
theorem dT_setTimesOf_109 : decode bT_setTimesOf 109 = .ok (.getfield 49, 3) := by decide +kernel
theorem dT_setTimesOf_112 : decode bT_setTimesOf 112 = .ok (.getfield 72, 3) := by decide +kernel
theorem dT_setTimesOf_115 : decode bT_setTimesOf 115 = .ok (.iadd, 1) := by decide +kernel
theorem dT_setTimesOf_116 : decode bT_setTimesOf 116 = .ok (.invokevirtual 92, 3) := by decide +kernel
theorem dT_setTimesOf_119 : decode bT_setTimesOf 119 = .ok (.invokestatic 79, 3) := by decide +kernel
theorem dT_setTimesOf_122 : decode bT_setTimesOf 122 = .ok (.aload_n 0, 1) := by decide +kernel
theorem dT_setTimesOf_123 : decode bT_setTimesOf 123 = .ok (.getfield 49, 3) := by decide +kernel
theorem dT_setTimesOf_126 : decode bT_setTimesOf 126 = .ok (.getfield 95, 3) := by decide +kernel
theorem dT_setTimesOf_129 : decode bT_setTimesOf 129 = .ok (.iadd, 1) := by decide +kernel
theorem dT_setTimesOf_130 : decode bT_setTimesOf 130 = .ok (.istore_n 3, 1) := by decide +kernel
theorem dT_setTimesOf_131 : decode bT_setTimesOf 131 = .ok (.iinc 4 1, 3) := by decide +kernel
theorem dT_setTimesOf_134 : decode bT_setTimesOf 134 = .ok (.goto (-120), 3) := by decide +kernel
theorem dT_setTimesOf_137 : decode bT_setTimesOf 137 = .ok (.return_, 1) := by decide +kernel
theorem dT_whenCame_0 : decode bT_whenCame 0 = .ok (.aload_n 0, 1) := by decide +kernel
theorem dT_whenCame_1 : decode bT_whenCame 1 = .ok (.getfield 49, 3) := by decide +kernel
theorem dT_whenCame_4 : decode bT_whenCame 4 = .ok (.iload_n 1, 1) := by decide +kernel
theorem dT_whenCame_5 : decode bT_whenCame 5 = .ok (.invokevirtual 65, 3) := by decide +kernel
theorem dT_whenCame_8 : decode bT_whenCame 8 = .ok (.ifCond .eq 29, 3) := by decide +kernel
theorem dT_whenCame_11 : decode bT_whenCame 11 = .ok (.iload_n 2, 1) := by decide +kernel
theorem dT_whenCame_12 : decode bT_whenCame 12 = .ok (.aload_n 0, 1) := by decide +kernel
theorem dT_whenCame_13 : decode bT_whenCame 13 = .ok (.getfield 21, 3) := by decide +kernel
theorem dT_whenCame_16 : decode bT_whenCame 16 = .ok (.iload_n 1, 1) := by decide +kernel
theorem dT_whenCame_17 : decode bT_whenCame 17 = .ok (.iaload, 1) := by decide +kernel
theorem dT_whenCame_18 : decode bT_whenCame 18 = .ok (.if_icmp .le 19, 3) := by decide +kernel
theorem dT_whenCame_21 : decode bT_whenCame 21 = .ok (.iload_n 2, 1) := by decide +kernel
theorem dT_whenCame_22 : decode bT_whenCame 22 = .ok (.aload_n 0, 1) := by decide +kernel
theorem dT_whenCame_23 : decode bT_whenCame 23 = .ok (.getfield 24, 3) := by decide +kernel
theorem dT_whenCame_26 : decode bT_whenCame 26 = .ok (.iload_n 1, 1) := by decide +kernel
theorem dT_whenCame_27 : decode bT_whenCame 27 = .ok (.iaload, 1) := by decide +kernel
theorem dT_whenCame_28 : decode bT_whenCame 28 = .ok (.if_icmp .gt 9, 3) := by decide +kernel
theorem dT_whenCame_31 : decode bT_whenCame 31 = .ok (.iload_n 2, 1) := by decide +kernel
theorem dT_whenCame_32 : decode bT_whenCame 32 = .ok (.bipush 8, 2) := by decide +kernel
theorem dT_whenCame_34 : decode bT_whenCame 34 = .ok (.if_icmp .lt 5, 3) := by decide +kernel
theorem dT_whenCame_37 : decode bT_whenCame 37 = .ok (.iconst 0, 1) := by decide +kernel
theorem dT_whenCame_38 : decode bT_whenCame 38 = .ok (.ireturn, 1) := by decide +kernel
theorem dT_whenCame_39 : decode bT_whenCame 39 = .ok (.aload_n 0, 1) := by decide +kernel
theorem dT_whenCame_40 : decode bT_whenCame 40 = .ok (.getfield 29, 3) := by decide +kernel
theorem dT_whenCame_43 : decode bT_whenCame 43 = .ok (.iload_n 1, 1) := by decide +kernel
theorem dT_whenCame_44 : decode bT_whenCame 44 = .ok (.aaload, 1) := by decide +kernel
theorem dT_whenCame_45 : decode bT_whenCame 45 = .ok (.iload_n 2, 1) := by decide +kernel
theorem dT_whenCame_46 : decode bT_whenCame 46 = .ok (.iaload, 1) := by decide +kernel
theorem dT_whenCame_47 : decode bT_whenCame 47 = .ok (.ireturn, 1) := by decide +kernel
theorem dT_isBetterThan_0 : decode bT_isBetterThan 0 = .ok (.aload_n 0, 1) := by decide +kernel
theorem dT_isBetterThan_1 : decode bT_isBetterThan 1 = .ok (.getfield 39, 3) := by decide +kernel
theorem dT_isBetterThan_4 : decode bT_isBetterThan 4 = .ok (.iload_n 1, 1) := by decide +kernel
theorem dT_isBetterThan_5 : decode bT_isBetterThan 5 = .ok (.if_icmp .eq 19, 3) := by decide +kernel
theorem dT_isBetterThan_8 : decode bT_isBetterThan 8 = .ok (.aload_n 0, 1) := by decide +kernel
theorem dT_isBetterThan_9 : decode bT_isBetterThan 9 = .ok (.getfield 39, 3) := by decide +kernel
theorem dT_isBetterThan_12 : decode bT_isBetterThan 12 = .ok (.iload_n 1, 1) := by decide +kernel
theorem dT_isBetterThan_13 : decode bT_isBetterThan 13 = .ok (.if_icmp .ge 7, 3) := by decide +kernel
theorem dT_isBetterThan_16 : decode bT_isBetterThan 16 = .ok (.iconst 1, 1) := by decide +kernel
theorem dT_isBetterThan_17 : decode bT_isBetterThan 17 = .ok (.goto 20, 3) := by decide +kernel
theorem dT_isBetterThan_20 : decode bT_isBetterThan 20 = .ok (.iconst 0, 1) := by decide +kernel
theorem dT_isBetterThan_21 : decode bT_isBetterThan 21 = .ok (.goto 16, 3) := by decide +kernel
theorem dT_isBetterThan_24 : decode bT_isBetterThan 24 = .ok (.aload_n 0, 1) := by decide +kernel
theorem dT_isBetterThan_25 : decode bT_isBetterThan 25 = .ok (.getfield 42, 3) := by decide +kernel
theorem dT_isBetterThan_28 : decode bT_isBetterThan 28 = .ok (.iload_n 2, 1) := by decide +kernel
theorem dT_isBetterThan_29 : decode bT_isBetterThan 29 = .ok (.if_icmp .ge 7, 3) := by decide +kernel
theorem dT_isBetterThan_32 : decode bT_isBetterThan 32 = .ok (.iconst 1, 1) := by decide +kernel
theorem dT_isBetterThan_33 : decode bT_isBetterThan 33 = .ok (.goto 4, 3) := by decide +kernel
theorem dT_isBetterThan_36 : decode bT_isBetterThan 36 = .ok (.iconst 0, 1) := by decide +kernel
theorem dT_isBetterThan_37 : decode bT_isBetterThan 37 = .ok (.ireturn, 1) := by decide +kernel
theorem dT_sortRows_0 : decode bT_sortRows 0 = .ok (.aload_n 0, 1) := by decide +kernel
theorem dT_sortRows_1 : decode bT_sortRows 1 = .ok (.iconst 0, 1) := by decide +kernel
theorem dT_sortRows_2 : decode bT_sortRows 2 = .ok (.putfield 35, 3) := by decide +kernel
theorem dT_sortRows_5 : decode bT_sortRows 5 = .ok (.iconst 0, 1) := by decide +kernel
theorem dT_sortRows_6 : decode bT_sortRows 6 = .ok (.istore_n 1, 1) := by decide +kernel
theorem dT_sortRows_7 : decode bT_sortRows 7 = .ok (.iload_n 1, 1) := by decide +kernel
theorem dT_sortRows_8 : decode bT_sortRows 8 = .ok (.bipush 8, 2) := by decide +kernel
theorem dT_sortRows_10 : decode bT_sortRows 10 = .ok (.if_icmp .ge 81, 3) := by decide +kernel
theorem dT_sortRows_13 : decode bT_sortRows 13 = .ok (.aload_n 0, 1) := by decide +kernel
theorem dT_sortRows_14 : decode bT_sortRows 14 = .ok (.getfield 9, 3) := by decide +kernel
theorem dT_sortRows_17 : decode bT_sortRows 17 = .ok (.iload_n 1, 1) := by decide +kernel
theorem dT_sortRows_18 : decode bT_sortRows 18 = .ok (.iaload, 1) := by decide +kernel
theorem dT_sortRows_19 : decode bT_sortRows 19 = .ok (.iconst (-1), 1) := by decide +kernel
theorem dT_sortRows_20 : decode bT_sortRows 20 = .ok (.if_icmp .eq 65, 3) := by decide +kernel
theorem dT_sortRows_23 : decode bT_sortRows 23 = .ok (.aload_n 0, 1) := by decide +kernel
theorem dT_sortRows_24 : decode bT_sortRows 24 = .ok (.getfield 35, 3) := by decide +kernel
theorem dT_sortRows_27 : decode bT_sortRows 27 = .ok (.istore_n 2, 1) := by decide +kernel
theorem dT_sortRows_28 : decode bT_sortRows 28 = .ok (.iload_n 2, 1) := by decide +kernel
theorem dT_sortRows_29 : decode bT_sortRows 29 = .ok (.ifCond .le 39, 3) := by decide +kernel
theorem dT_sortRows_32 : decode bT_sortRows 32 = .ok (.aload_n 0, 1) := by decide +kernel
theorem dT_sortRows_33 : decode bT_sortRows 33 = .ok (.iload_n 1, 1) := by decide +kernel
theorem dT_sortRows_34 : decode bT_sortRows 34 = .ok (.aload_n 0, 1) := by decide +kernel
theorem dT_sortRows_35 : decode bT_sortRows 35 = .ok (.getfield 32, 3) := by decide +kernel
theorem dT_sortRows_38 : decode bT_sortRows 38 = .ok (.iload_n 2, 1) := by decide +kernel
theorem dT_sortRows_39 : decode bT_sortRows 39 = .ok (.iconst 1, 1) := by decide +kernel
theorem dT_sortRows_40 : decode bT_sortRows 40 = .ok (.isub, 1) := by decide +kernel
theorem dT_sortRows_41 : decode bT_sortRows 41 = .ok (.iaload, 1) := by decide +kernel
theorem dT_sortRows_42 : decode bT_sortRows 42 = .ok (.invokevirtual 98, 3) := by decide +kernel
theorem dT_sortRows_45 : decode bT_sortRows 45 = .ok (.ifCond .eq 23, 3) := by decide +kernel
theorem dT_sortRows_48 : decode bT_sortRows 48 = .ok (.aload_n 0, 1) := by decide +kernel
theorem dT_sortRows_49 : decode bT_sortRows 49 = .ok (.getfield 32, 3) := by decide +kernel
theorem dT_sortRows_52 : decode bT_sortRows 52 = .ok (.iload_n 2, 1) := by decide +kernel
theorem dT_sortRows_53 : decode bT_sortRows 53 = .ok (.aload_n 0, 1) := by decide +kernel
theorem dT_sortRows_54 : decode bT_sortRows 54 = .ok (.getfield 32, 3) := by decide +kernel
theorem dT_sortRows_57 : decode bT_sortRows 57 = .ok (.iload_n 2, 1) := by decide +kernel
theorem dT_sortRows_58 : decode bT_sortRows 58 = .ok (.iconst 1, 1) := by decide +kernel
theorem dT_sortRows_59 : decode bT_sortRows 59 = .ok (.isub, 1) := by decide +kernel
theorem dT_sortRows_60 : decode bT_sortRows 60 = .ok (.iaload, 1) := by decide +kernel
theorem dT_sortRows_61 : decode bT_sortRows 61 = .ok (.iastore, 1) := by decide +kernel
theorem dT_sortRows_62 : decode bT_sortRows 62 = .ok (.iinc 2 (-1), 3) := by decide +kernel
theorem dT_sortRows_65 : decode bT_sortRows 65 = .ok (.goto (-37), 3) := by decide +kernel
theorem dT_sortRows_68 : decode bT_sortRows 68 = .ok (.aload_n 0, 1) := by decide +kernel
theorem dT_sortRows_69 : decode bT_sortRows 69 = .ok (.getfield 32, 3) := by decide +kernel
theorem dT_sortRows_72 : decode bT_sortRows 72 = .ok (.iload_n 2, 1) := by decide +kernel
theorem dT_sortRows_73 : decode bT_sortRows 73 = .ok (.iload_n 1, 1) := by decide +kernel
theorem dT_sortRows_74 : decode bT_sortRows 74 = .ok (.iastore, 1) := by decide +kernel
theorem dT_sortRows_75 : decode bT_sortRows 75 = .ok (.aload_n 0, 1) := by decide +kernel
theorem dT_sortRows_76 : decode bT_sortRows 76 = .ok (.dup, 1) := by decide +kernel
theorem dT_sortRows_77 : decode bT_sortRows 77 = .ok (.getfield 35, 3) := by decide +kernel
theorem dT_sortRows_80 : decode bT_sortRows 80 = .ok (.iconst 1, 1) := by decide +kernel
theorem dT_sortRows_81 : decode bT_sortRows 81 = .ok (.iadd, 1) := by decide +kernel
theorem dT_sortRows_82 : decode bT_sortRows 82 = .ok (.putfield 35, 3) := by decide +kernel
theorem dT_sortRows_85 : decode bT_sortRows 85 = .ok (.iinc 1 1, 3) := by decide +kernel
theorem dT_sortRows_88 : decode bT_sortRows 88 = .ok (.goto (-81), 3) := by decide +kernel
theorem dT_sortRows_91 : decode bT_sortRows 91 = .ok (.return_, 1) := by decide +kernel
theorem dT_beginsAhead_0 : decode bT_beginsAhead 0 = .ok (.aload_n 0, 1) := by decide +kernel
theorem dT_beginsAhead_1 : decode bT_beginsAhead 1 = .ok (.getfield 45, 3) := by decide +kernel
theorem dT_beginsAhead_4 : decode bT_beginsAhead 4 = .ok (.iload_n 1, 1) := by decide +kernel
theorem dT_beginsAhead_5 : decode bT_beginsAhead 5 = .ok (.invokevirtual 59, 3) := by decide +kernel
theorem dT_beginsAhead_8 : decode bT_beginsAhead 8 = .ok (.ifCond .eq 14, 3) := by decide +kernel
theorem dT_beginsAhead_11 : decode bT_beginsAhead 11 = .ok (.aload_n 0, 1) := by decide +kernel
theorem dT_beginsAhead_12 : decode bT_beginsAhead 12 = .ok (.getfield 45, 3) := by decide +kernel
theorem dT_beginsAhead_15 : decode bT_beginsAhead 15 = .ok (.iload_n 2, 1) := by decide +kernel
theorem dT_beginsAhead_16 : decode bT_beginsAhead 16 = .ok (.invokevirtual 59, 3) := by decide +kernel
theorem dT_beginsAhead_19 : decode bT_beginsAhead 19 = .ok (.ifCond .ne 5, 3) := by decide +kernel
theorem dT_beginsAhead_22 : decode bT_beginsAhead 22 = .ok (.iconst 0, 1) := by decide +kernel
theorem dT_beginsAhead_23 : decode bT_beginsAhead 23 = .ok (.ireturn, 1) := by decide +kernel
theorem dT_beginsAhead_24 : decode bT_beginsAhead 24 = .ok (.aload_n 0, 1) := by decide +kernel
theorem dT_beginsAhead_25 : decode bT_beginsAhead 25 = .ok (.getfield 15, 3) := by decide +kernel
theorem dT_beginsAhead_28 : decode bT_beginsAhead 28 = .ok (.iload_n 1, 1) := by decide +kernel
theorem dT_beginsAhead_29 : decode bT_beginsAhead 29 = .ok (.iaload, 1) := by decide +kernel
theorem dT_beginsAhead_30 : decode bT_beginsAhead 30 = .ok (.aload_n 0, 1) := by decide +kernel
theorem dT_beginsAhead_31 : decode bT_beginsAhead 31 = .ok (.getfield 15, 3) := by decide +kernel
theorem dT_beginsAhead_34 : decode bT_beginsAhead 34 = .ok (.iload_n 2, 1) := by decide +kernel
theorem dT_beginsAhead_35 : decode bT_beginsAhead 35 = .ok (.iaload, 1) := by decide +kernel
theorem dT_beginsAhead_36 : decode bT_beginsAhead 36 = .ok (.if_icmp .eq 26, 3) := by decide +kernel
theorem dT_beginsAhead_39 : decode bT_beginsAhead 39 = .ok (.aload_n 0, 1) := by decide +kernel
theorem dT_beginsAhead_40 : decode bT_beginsAhead 40 = .ok (.getfield 15, 3) := by decide +kernel
theorem dT_beginsAhead_43 : decode bT_beginsAhead 43 = .ok (.iload_n 1, 1) := by decide +kernel
theorem dT_beginsAhead_44 : decode bT_beginsAhead 44 = .ok (.iaload, 1) := by decide +kernel
theorem dT_beginsAhead_45 : decode bT_beginsAhead 45 = .ok (.aload_n 0, 1) := by decide +kernel
theorem dT_beginsAhead_46 : decode bT_beginsAhead 46 = .ok (.getfield 15, 3) := by decide +kernel
theorem dT_beginsAhead_49 : decode bT_beginsAhead 49 = .ok (.iload_n 2, 1) := by decide +kernel
theorem dT_beginsAhead_50 : decode bT_beginsAhead 50 = .ok (.iaload, 1) := by decide +kernel
theorem dT_beginsAhead_51 : decode bT_beginsAhead 51 = .ok (.if_icmp .ge 7, 3) := by decide +kernel
theorem dT_beginsAhead_54 : decode bT_beginsAhead 54 = .ok (.iconst 1, 1) := by decide +kernel
theorem dT_beginsAhead_55 : decode bT_beginsAhead 55 = .ok (.goto 27, 3) := by decide +kernel
theorem dT_beginsAhead_58 : decode bT_beginsAhead 58 = .ok (.iconst 0, 1) := by decide +kernel
theorem dT_beginsAhead_59 : decode bT_beginsAhead 59 = .ok (.goto 23, 3) := by decide +kernel
theorem dT_beginsAhead_62 : decode bT_beginsAhead 62 = .ok (.aload_n 0, 1) := by decide +kernel
theorem dT_beginsAhead_63 : decode bT_beginsAhead 63 = .ok (.getfield 9, 3) := by decide +kernel
theorem dT_beginsAhead_66 : decode bT_beginsAhead 66 = .ok (.iload_n 1, 1) := by decide +kernel
theorem dT_beginsAhead_67 : decode bT_beginsAhead 67 = .ok (.iaload, 1) := by decide +kernel
theorem dT_beginsAhead_68 : decode bT_beginsAhead 68 = .ok (.aload_n 0, 1) := by decide +kernel
theorem dT_beginsAhead_69 : decode bT_beginsAhead 69 = .ok (.getfield 9, 3) := by decide +kernel
theorem dT_beginsAhead_72 : decode bT_beginsAhead 72 = .ok (.iload_n 2, 1) := by decide +kernel
theorem dT_beginsAhead_73 : decode bT_beginsAhead 73 = .ok (.iaload, 1) := by decide +kernel
theorem dT_beginsAhead_74 : decode bT_beginsAhead 74 = .ok (.if_icmp .ge 7, 3) := by decide +kernel
theorem dT_beginsAhead_77 : decode bT_beginsAhead 77 = .ok (.iconst 1, 1) := by decide +kernel
theorem dT_beginsAhead_78 : decode bT_beginsAhead 78 = .ok (.goto 4, 3) := by decide +kernel
theorem dT_beginsAhead_81 : decode bT_beginsAhead 81 = .ok (.iconst 0, 1) := by decide +kernel
theorem dT_beginsAhead_82 : decode bT_beginsAhead 82 = .ok (.ireturn, 1) := by decide +kernel
theorem dT_ofRow_0 : decode bT_ofRow 0 = .ok (.iload_n 1, 1) := by decide +kernel
theorem dT_ofRow_1 : decode bT_ofRow 1 = .ok (.ifCond .lt 33, 3) := by decide +kernel
theorem dT_ofRow_4 : decode bT_ofRow 4 = .ok (.iload_n 1, 1) := by decide +kernel
theorem dT_ofRow_5 : decode bT_ofRow 5 = .ok (.aload_n 0, 1) := by decide +kernel
theorem dT_ofRow_6 : decode bT_ofRow 6 = .ok (.getfield 35, 3) := by decide +kernel
theorem dT_ofRow_9 : decode bT_ofRow 9 = .ok (.if_icmp .ge 25, 3) := by decide +kernel
theorem dT_ofRow_12 : decode bT_ofRow 12 = .ok (.iload_n 1, 1) := by decide +kernel
theorem dT_ofRow_13 : decode bT_ofRow 13 = .ok (.bipush 8, 2) := by decide +kernel
theorem dT_ofRow_15 : decode bT_ofRow 15 = .ok (.if_icmp .ge 19, 3) := by decide +kernel
theorem dT_ofRow_18 : decode bT_ofRow 18 = .ok (.aload_n 0, 1) := by decide +kernel
theorem dT_ofRow_19 : decode bT_ofRow 19 = .ok (.getfield 45, 3) := by decide +kernel
theorem dT_ofRow_22 : decode bT_ofRow 22 = .ok (.aload_n 0, 1) := by decide +kernel
theorem dT_ofRow_23 : decode bT_ofRow 23 = .ok (.getfield 32, 3) := by decide +kernel
theorem dT_ofRow_26 : decode bT_ofRow 26 = .ok (.iload_n 1, 1) := by decide +kernel
theorem dT_ofRow_27 : decode bT_ofRow 27 = .ok (.iaload, 1) := by decide +kernel
theorem dT_ofRow_28 : decode bT_ofRow 28 = .ok (.invokevirtual 59, 3) := by decide +kernel
theorem dT_ofRow_31 : decode bT_ofRow 31 = .ok (.ifCond .ne 5, 3) := by decide +kernel
theorem dT_ofRow_34 : decode bT_ofRow 34 = .ok (.iconst (-1), 1) := by decide +kernel
theorem dT_ofRow_35 : decode bT_ofRow 35 = .ok (.ireturn, 1) := by decide +kernel
theorem dT_ofRow_36 : decode bT_ofRow 36 = .ok (.aload_n 0, 1) := by decide +kernel
theorem dT_ofRow_37 : decode bT_ofRow 37 = .ok (.getfield 32, 3) := by decide +kernel
theorem dT_ofRow_40 : decode bT_ofRow 40 = .ok (.iload_n 1, 1) := by decide +kernel
theorem dT_ofRow_41 : decode bT_ofRow 41 = .ok (.iaload, 1) := by decide +kernel
theorem dT_ofRow_42 : decode bT_ofRow 42 = .ok (.istore_n 3, 1) := by decide +kernel
theorem dT_ofRow_43 : decode bT_ofRow 43 = .ok (.iload_n 2, 1) := by decide +kernel
theorem dT_ofRow_44 : decode bT_ofRow 44 = .ok (.tableswitch 44 0 2 #[28, 35, 42], 28) := by decide +kernel
theorem dT_ofRow_72 : decode bT_ofRow 72 = .ok (.aload_n 0, 1) := by decide +kernel
theorem dT_ofRow_73 : decode bT_ofRow 73 = .ok (.getfield 15, 3) := by decide +kernel
theorem dT_ofRow_76 : decode bT_ofRow 76 = .ok (.iload_n 3, 1) := by decide +kernel
theorem dT_ofRow_77 : decode bT_ofRow 77 = .ok (.iaload, 1) := by decide +kernel
theorem dT_ofRow_78 : decode bT_ofRow 78 = .ok (.ireturn, 1) := by decide +kernel
theorem dT_ofRow_79 : decode bT_ofRow 79 = .ok (.aload_n 0, 1) := by decide +kernel
theorem dT_ofRow_80 : decode bT_ofRow 80 = .ok (.getfield 9, 3) := by decide +kernel
theorem dT_ofRow_83 : decode bT_ofRow 83 = .ok (.iload_n 3, 1) := by decide +kernel
theorem dT_ofRow_84 : decode bT_ofRow 84 = .ok (.iaload, 1) := by decide +kernel
theorem dT_ofRow_85 : decode bT_ofRow 85 = .ok (.ireturn, 1) := by decide +kernel
theorem dT_ofRow_86 : decode bT_ofRow 86 = .ok (.iload_n 3, 1) := by decide +kernel
theorem dT_ofRow_87 : decode bT_ofRow 87 = .ok (.ireturn, 1) := by decide +kernel
theorem dT_ofRow_88 : decode bT_ofRow 88 = .ok (.aload_n 0, 1) := by decide +kernel
theorem dT_ofRow_89 : decode bT_ofRow 89 = .ok (.getfield 18, 3) := by decide +kernel
theorem dT_ofRow_92 : decode bT_ofRow 92 = .ok (.iload_n 3, 1) := by decide +kernel
theorem dT_ofRow_93 : decode bT_ofRow 93 = .ok (.iaload, 1) := by decide +kernel
theorem dT_ofRow_94 : decode bT_ofRow 94 = .ok (.ireturn, 1) := by decide +kernel
theorem dT_bayWorkedAt_0 : decode bT_bayWorkedAt 0 = .ok (.iconst 0, 1) := by decide +kernel
theorem dT_bayWorkedAt_1 : decode bT_bayWorkedAt 1 = .ok (.istore_n 3, 1) := by decide +kernel
theorem dT_bayWorkedAt_2 : decode bT_bayWorkedAt 2 = .ok (.iload_n 3, 1) := by decide +kernel
theorem dT_bayWorkedAt_3 : decode bT_bayWorkedAt 3 = .ok (.bipush 8, 2) := by decide +kernel
theorem dT_bayWorkedAt_5 : decode bT_bayWorkedAt 5 = .ok (.if_icmp .ge 41, 3) := by decide +kernel
theorem dT_bayWorkedAt_8 : decode bT_bayWorkedAt 8 = .ok (.aload_n 0, 1) := by decide +kernel
theorem dT_bayWorkedAt_9 : decode bT_bayWorkedAt 9 = .ok (.getfield 9, 3) := by decide +kernel
theorem dT_bayWorkedAt_12 : decode bT_bayWorkedAt 12 = .ok (.iload_n 3, 1) := by decide +kernel
theorem dT_bayWorkedAt_13 : decode bT_bayWorkedAt 13 = .ok (.iaload, 1) := by decide +kernel
theorem dT_bayWorkedAt_14 : decode bT_bayWorkedAt 14 = .ok (.iload_n 1, 1) := by decide +kernel
theorem dT_bayWorkedAt_15 : decode bT_bayWorkedAt 15 = .ok (.if_icmp .ne 25, 3) := by decide +kernel
theorem dT_bayWorkedAt_18 : decode bT_bayWorkedAt 18 = .ok (.aload_n 0, 1) := by decide +kernel
theorem dT_bayWorkedAt_19 : decode bT_bayWorkedAt 19 = .ok (.getfield 15, 3) := by decide +kernel
theorem dT_bayWorkedAt_22 : decode bT_bayWorkedAt 22 = .ok (.iload_n 3, 1) := by decide +kernel
theorem dT_bayWorkedAt_23 : decode bT_bayWorkedAt 23 = .ok (.iaload, 1) := by decide +kernel
theorem dT_bayWorkedAt_24 : decode bT_bayWorkedAt 24 = .ok (.iload_n 2, 1) := by decide +kernel
theorem dT_bayWorkedAt_25 : decode bT_bayWorkedAt 25 = .ok (.if_icmp .gt 15, 3) := by decide +kernel
theorem dT_bayWorkedAt_28 : decode bT_bayWorkedAt 28 = .ok (.iload_n 2, 1) := by decide +kernel
theorem dT_bayWorkedAt_29 : decode bT_bayWorkedAt 29 = .ok (.aload_n 0, 1) := by decide +kernel
theorem dT_bayWorkedAt_30 : decode bT_bayWorkedAt 30 = .ok (.getfield 18, 3) := by decide +kernel
theorem dT_bayWorkedAt_33 : decode bT_bayWorkedAt 33 = .ok (.iload_n 3, 1) := by decide +kernel
theorem dT_bayWorkedAt_34 : decode bT_bayWorkedAt 34 = .ok (.iaload, 1) := by decide +kernel
theorem dT_bayWorkedAt_35 : decode bT_bayWorkedAt 35 = .ok (.if_icmp .ge 5, 3) := by decide +kernel
theorem dT_bayWorkedAt_38 : decode bT_bayWorkedAt 38 = .ok (.iload_n 3, 1) := by decide +kernel
theorem dT_bayWorkedAt_39 : decode bT_bayWorkedAt 39 = .ok (.ireturn, 1) := by decide +kernel
theorem dT_bayWorkedAt_40 : decode bT_bayWorkedAt 40 = .ok (.iinc 3 1, 3) := by decide +kernel
theorem dT_bayWorkedAt_43 : decode bT_bayWorkedAt 43 = .ok (.goto (-41), 3) := by decide +kernel
theorem dT_bayWorkedAt_46 : decode bT_bayWorkedAt 46 = .ok (.iconst (-1), 1) := by decide +kernel
theorem dT_bayWorkedAt_47 : decode bT_bayWorkedAt 47 = .ok (.ireturn, 1) := by decide +kernel
theorem dT_bayCameTo_0 : decode bT_bayCameTo 0 = .ok (.aload_n 0, 1) := by decide +kernel
theorem dT_bayCameTo_1 : decode bT_bayCameTo 1 = .ok (.getfield 49, 3) := by decide +kernel
theorem dT_bayCameTo_4 : decode bT_bayCameTo 4 = .ok (.iload_n 1, 1) := by decide +kernel
theorem dT_bayCameTo_5 : decode bT_bayCameTo 5 = .ok (.invokevirtual 65, 3) := by decide +kernel
theorem dT_bayCameTo_8 : decode bT_bayCameTo 8 = .ok (.ifCond .eq 13, 3) := by decide +kernel
theorem dT_bayCameTo_11 : decode bT_bayCameTo 11 = .ok (.aload_n 0, 1) := by decide +kernel
theorem dT_bayCameTo_12 : decode bT_bayCameTo 12 = .ok (.getfield 21, 3) := by decide +kernel
theorem dT_bayCameTo_15 : decode bT_bayCameTo 15 = .ok (.iload_n 1, 1) := by decide +kernel
theorem dT_bayCameTo_16 : decode bT_bayCameTo 16 = .ok (.iaload, 1) := by decide +kernel
theorem dT_bayCameTo_17 : decode bT_bayCameTo 17 = .ok (.iconst (-1), 1) := by decide +kernel
theorem dT_bayCameTo_18 : decode bT_bayCameTo 18 = .ok (.if_icmp .ne 5, 3) := by decide +kernel
theorem dT_bayCameTo_21 : decode bT_bayCameTo 21 = .ok (.iconst (-1), 1) := by decide +kernel
theorem dT_bayCameTo_22 : decode bT_bayCameTo 22 = .ok (.ireturn, 1) := by decide +kernel
theorem dT_bayCameTo_23 : decode bT_bayCameTo 23 = .ok (.aload_n 0, 1) := by decide +kernel
theorem dT_bayCameTo_24 : decode bT_bayCameTo 24 = .ok (.getfield 21, 3) := by decide +kernel
theorem dT_bayCameTo_27 : decode bT_bayCameTo 27 = .ok (.iload_n 1, 1) := by decide +kernel
theorem dT_bayCameTo_28 : decode bT_bayCameTo 28 = .ok (.iaload, 1) := by decide +kernel
theorem dT_bayCameTo_29 : decode bT_bayCameTo 29 = .ok (.istore_n 3, 1) := by decide +kernel
theorem dT_bayCameTo_30 : decode bT_bayCameTo 30 = .ok (.iconst 0, 1) := by decide +kernel
theorem dT_bayCameTo_31 : decode bT_bayCameTo 31 = .ok (.iload_n 3, 1) := by decide +kernel
theorem dT_bayCameTo_32 : decode bT_bayCameTo 32 = .ok (.invokestatic 79, 3) := by decide +kernel
theorem dT_bayCameTo_35 : decode bT_bayCameTo 35 = .ok (.istore 4, 2) := by decide +kernel
theorem dT_bayCameTo_37 : decode bT_bayCameTo 37 = .ok (.iload 4, 2) := by decide +kernel
theorem dT_bayCameTo_39 : decode bT_bayCameTo 39 = .ok (.aload_n 0, 1) := by decide +kernel
theorem dT_bayCameTo_40 : decode bT_bayCameTo 40 = .ok (.getfield 24, 3) := by decide +kernel
theorem dT_bayCameTo_43 : decode bT_bayCameTo 43 = .ok (.iload_n 1, 1) := by decide +kernel
theorem dT_bayCameTo_44 : decode bT_bayCameTo 44 = .ok (.iaload, 1) := by decide +kernel
theorem dT_bayCameTo_45 : decode bT_bayCameTo 45 = .ok (.if_icmp .gt 32, 3) := by decide +kernel
theorem dT_bayCameTo_48 : decode bT_bayCameTo 48 = .ok (.iload 4, 2) := by decide +kernel
theorem dT_bayCameTo_50 : decode bT_bayCameTo 50 = .ok (.bipush 8, 2) := by decide +kernel
theorem dT_bayCameTo_52 : decode bT_bayCameTo 52 = .ok (.if_icmp .ge 25, 3) := by decide +kernel
theorem dT_bayCameTo_55 : decode bT_bayCameTo 55 = .ok (.aload_n 0, 1) := by decide +kernel
theorem dT_bayCameTo_56 : decode bT_bayCameTo 56 = .ok (.getfield 29, 3) := by decide +kernel
theorem dT_bayCameTo_59 : decode bT_bayCameTo 59 = .ok (.iload_n 1, 1) := by decide +kernel
theorem dT_bayCameTo_60 : decode bT_bayCameTo 60 = .ok (.aaload, 1) := by decide +kernel
theorem dT_bayCameTo_61 : decode bT_bayCameTo 61 = .ok (.iload 4, 2) := by decide +kernel
theorem dT_bayCameTo_63 : decode bT_bayCameTo 63 = .ok (.iaload, 1) := by decide +kernel
theorem dT_bayCameTo_64 : decode bT_bayCameTo 64 = .ok (.iload_n 2, 1) := by decide +kernel
theorem dT_bayCameTo_65 : decode bT_bayCameTo 65 = .ok (.if_icmp .gt 6, 3) := by decide +kernel
theorem dT_bayCameTo_68 : decode bT_bayCameTo 68 = .ok (.iload 4, 2) := by decide +kernel
theorem dT_bayCameTo_70 : decode bT_bayCameTo 70 = .ok (.istore_n 3, 1) := by decide +kernel
theorem dT_bayCameTo_71 : decode bT_bayCameTo 71 = .ok (.iinc 4 1, 3) := by decide +kernel
theorem dT_bayCameTo_74 : decode bT_bayCameTo 74 = .ok (.goto (-37), 3) := by decide +kernel
theorem dT_bayCameTo_77 : decode bT_bayCameTo 77 = .ok (.iload_n 3, 1) := by decide +kernel
theorem dT_bayCameTo_78 : decode bT_bayCameTo 78 = .ok (.ireturn, 1) := by decide +kernel
theorem dT_doneBy_0 : decode bT_doneBy 0 = .ok (.aload_n 0, 1) := by decide +kernel
theorem dT_doneBy_1 : decode bT_doneBy 1 = .ok (.getfield 45, 3) := by decide +kernel
theorem dT_doneBy_4 : decode bT_doneBy 4 = .ok (.iload_n 1, 1) := by decide +kernel
theorem dT_doneBy_5 : decode bT_doneBy 5 = .ok (.invokevirtual 59, 3) := by decide +kernel
theorem dT_doneBy_8 : decode bT_doneBy 8 = .ok (.ifCond .eq 23, 3) := by decide +kernel
theorem dT_doneBy_11 : decode bT_doneBy 11 = .ok (.aload_n 0, 1) := by decide +kernel
theorem dT_doneBy_12 : decode bT_doneBy 12 = .ok (.getfield 9, 3) := by decide +kernel
theorem dT_doneBy_15 : decode bT_doneBy 15 = .ok (.iload_n 1, 1) := by decide +kernel
theorem dT_doneBy_16 : decode bT_doneBy 16 = .ok (.iaload, 1) := by decide +kernel
theorem dT_doneBy_17 : decode bT_doneBy 17 = .ok (.iconst (-1), 1) := by decide +kernel
theorem dT_doneBy_18 : decode bT_doneBy 18 = .ok (.if_icmp .eq 13, 3) := by decide +kernel
theorem dT_doneBy_21 : decode bT_doneBy 21 = .ok (.iload_n 2, 1) := by decide +kernel
theorem dT_doneBy_22 : decode bT_doneBy 22 = .ok (.aload_n 0, 1) := by decide +kernel
theorem dT_doneBy_23 : decode bT_doneBy 23 = .ok (.getfield 15, 3) := by decide +kernel
theorem dT_doneBy_26 : decode bT_doneBy 26 = .ok (.iload_n 1, 1) := by decide +kernel
theorem dT_doneBy_27 : decode bT_doneBy 27 = .ok (.iaload, 1) := by decide +kernel
theorem dT_doneBy_28 : decode bT_doneBy 28 = .ok (.if_icmp .gt 5, 3) := by decide +kernel
theorem dT_doneBy_31 : decode bT_doneBy 31 = .ok (.iconst 0, 1) := by decide +kernel
theorem dT_doneBy_32 : decode bT_doneBy 32 = .ok (.ireturn, 1) := by decide +kernel
theorem dT_doneBy_33 : decode bT_doneBy 33 = .ok (.iload_n 2, 1) := by decide +kernel
theorem dT_doneBy_34 : decode bT_doneBy 34 = .ok (.aload_n 0, 1) := by decide +kernel
theorem dT_doneBy_35 : decode bT_doneBy 35 = .ok (.getfield 18, 3) := by decide +kernel
theorem dT_doneBy_38 : decode bT_doneBy 38 = .ok (.iload_n 1, 1) := by decide +kernel
theorem dT_doneBy_39 : decode bT_doneBy 39 = .ok (.iaload, 1) := by decide +kernel
theorem dT_doneBy_40 : decode bT_doneBy 40 = .ok (.if_icmp .lt 12, 3) := by decide +kernel
theorem dT_doneBy_43 : decode bT_doneBy 43 = .ok (.aload_n 0, 1) := by decide +kernel
theorem dT_doneBy_44 : decode bT_doneBy 44 = .ok (.getfield 45, 3) := by decide +kernel
theorem dT_doneBy_47 : decode bT_doneBy 47 = .ok (.iload_n 1, 1) := by decide +kernel
theorem dT_doneBy_48 : decode bT_doneBy 48 = .ok (.invokevirtual 85, 3) := by decide +kernel
theorem dT_doneBy_51 : decode bT_doneBy 51 = .ok (.ireturn, 1) := by decide +kernel
theorem dT_doneBy_52 : decode bT_doneBy 52 = .ok (.aload_n 0, 1) := by decide +kernel
theorem dT_doneBy_53 : decode bT_doneBy 53 = .ok (.getfield 49, 3) := by decide +kernel
theorem dT_doneBy_56 : decode bT_doneBy 56 = .ok (.aload_n 0, 1) := by decide +kernel
theorem dT_doneBy_57 : decode bT_doneBy 57 = .ok (.getfield 9, 3) := by decide +kernel
theorem dT_doneBy_60 : decode bT_doneBy 60 = .ok (.iload_n 1, 1) := by decide +kernel
theorem dT_doneBy_61 : decode bT_doneBy 61 = .ok (.iaload, 1) := by decide +kernel
theorem dT_doneBy_62 : decode bT_doneBy 62 = .ok (.iload_n 2, 1) := by decide +kernel
theorem dT_doneBy_63 : decode bT_doneBy 63 = .ok (.aload_n 0, 1) := by decide +kernel
theorem dT_doneBy_64 : decode bT_doneBy 64 = .ok (.getfield 15, 3) := by decide +kernel
theorem dT_doneBy_67 : decode bT_doneBy 67 = .ok (.iload_n 1, 1) := by decide +kernel
theorem dT_doneBy_68 : decode bT_doneBy 68 = .ok (.iaload, 1) := by decide +kernel
theorem dT_doneBy_69 : decode bT_doneBy 69 = .ok (.isub, 1) := by decide +kernel
theorem dT_doneBy_70 : decode bT_doneBy 70 = .ok (.invokevirtual 101, 3) := by decide +kernel
theorem dT_doneBy_73 : decode bT_doneBy 73 = .ok (.ireturn, 1) := by decide +kernel

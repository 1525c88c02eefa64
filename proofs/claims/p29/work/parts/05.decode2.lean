theorem dX9_compile_22 : decode cX9_compile 22 = .ok (.invokevirtual 120, 3) := by decide +kernel
theorem dX9_compile_25 : decode cX9_compile 25 = .ok (.invokestatic 124, 3) := by decide +kernel
theorem dX9_compile_28 : decode cX9_compile 28 = .ok (.astore_n 3, 1) := by decide +kernel
theorem dX9_compile_29 : decode cX9_compile 29 = .ok (.aload_n 2, 1) := by decide +kernel
theorem dX9_compile_30 : decode cX9_compile 30 = .ok (.getfield 137, 3) := by decide +kernel
theorem dX9_compile_33 : decode cX9_compile 33 = .ok (.aload_n 2, 1) := by decide +kernel
theorem dX9_compile_34 : decode cX9_compile 34 = .ok (.getfield 67, 3) := by decide +kernel
theorem dX9_compile_37 : decode cX9_compile 37 = .ok (.aload_n 3, 1) := by decide +kernel
theorem dX9_compile_38 : decode cX9_compile 38 = .ok (.invokevirtual 141, 3) := by decide +kernel
theorem dX9_compile_41 : decode cX9_compile 41 = .ok (.ifCond .eq 5, 3) := by decide +kernel
theorem dX9_compile_44 : decode cX9_compile 44 = .ok (.iconst 0, 1) := by decide +kernel
theorem dX9_compile_45 : decode cX9_compile 45 = .ok (.ireturn, 1) := by decide +kernel
theorem dX9_compile_46 : decode cX9_compile 46 = .ok (.aload_n 2, 1) := by decide +kernel
theorem dX9_compile_47 : decode cX9_compile 47 = .ok (.getfield 137, 3) := by decide +kernel
theorem dX9_compile_50 : decode cX9_compile 50 = .ok (.aload_n 2, 1) := by decide +kernel
theorem dX9_compile_51 : decode cX9_compile 51 = .ok (.getfield 67, 3) := by decide +kernel
theorem dX9_compile_54 : decode cX9_compile 54 = .ok (.aload_n 3, 1) := by decide +kernel
theorem dX9_compile_55 : decode cX9_compile 55 = .ok (.invokevirtual 147, 3) := by decide +kernel
theorem dX9_compile_58 : decode cX9_compile 58 = .ok (.aload_n 0, 1) := by decide +kernel
theorem dX9_compile_59 : decode cX9_compile 59 = .ok (.dup, 1) := by decide +kernel
theorem dX9_compile_60 : decode cX9_compile 60 = .ok (.getfield 151, 3) := by decide +kernel
theorem dX9_compile_63 : decode cX9_compile 63 = .ok (.iconst 1, 1) := by decide +kernel
theorem dX9_compile_64 : decode cX9_compile 64 = .ok (.iadd, 1) := by decide +kernel
theorem dX9_compile_65 : decode cX9_compile 65 = .ok (.putfield 151, 3) := by decide +kernel
theorem dX9_compile_68 : decode cX9_compile 68 = .ok (.iconst 1, 1) := by decide +kernel
theorem dX9_compile_69 : decode cX9_compile 69 = .ok (.ireturn, 1) := by decide +kernel
theorem dX9_compiled_0 : decode cX9_compiled 0 = .ok (.aload_n 0, 1) := by decide +kernel
theorem dX9_compiled_1 : decode cX9_compiled 1 = .ok (.getfield 151, 3) := by decide +kernel
theorem dX9_compiled_4 : decode cX9_compiled 4 = .ok (.ireturn, 1) := by decide +kernel
theorem dX9_addTest_0 : decode cX9_addTest 0 = .ok (.aload_n 0, 1) := by decide +kernel
theorem dX9_addTest_1 : decode cX9_addTest 1 = .ok (.iload_n 1, 1) := by decide +kernel
theorem dX9_addTest_2 : decode cX9_addTest 2 = .ok (.invokevirtual 92, 3) := by decide +kernel
theorem dX9_addTest_5 : decode cX9_addTest 5 = .ok (.iload_n 2, 1) := by decide +kernel
theorem dX9_addTest_6 : decode cX9_addTest 6 = .ok (.iconst 1, 1) := by decide +kernel
theorem dX9_addTest_7 : decode cX9_addTest 7 = .ok (.bipush 60, 2) := by decide +kernel
theorem dX9_addTest_9 : decode cX9_addTest 9 = .ok (.invokestatic 71, 3) := by decide +kernel
theorem dX9_addTest_12 : decode cX9_addTest 12 = .ok (.ifCond .ne 13, 3) := by decide +kernel
theorem dX9_addTest_15 : decode cX9_addTest 15 = .ok (.new 75, 3) := by decide +kernel
theorem dX9_addTest_18 : decode cX9_addTest 18 = .ok (.dup, 1) := by decide +kernel
theorem dX9_addTest_19 : decode cX9_addTest 19 = .ok (.ldc 154, 2) := by decide +kernel
theorem dX9_addTest_21 : decode cX9_addTest 21 = .ok (.invokespecial 79, 3) := by decide +kernel
theorem dX9_addTest_24 : decode cX9_addTest 24 = .ok (.athrow, 1) := by decide +kernel
theorem dX9_addTest_25 : decode cX9_addTest 25 = .ok (.aload_n 0, 1) := by decide +kernel
theorem dX9_addTest_26 : decode cX9_addTest 26 = .ok (.getfield 16, 3) := by decide +kernel
theorem dX9_addTest_29 : decode cX9_addTest 29 = .ok (.invokevirtual 44, 3) := by decide +kernel
theorem dX9_addTest_32 : decode cX9_addTest 32 = .ok (.bipush 8, 2) := by decide +kernel
theorem dX9_addTest_34 : decode cX9_addTest 34 = .ok (.if_icmp .lt 13, 3) := by decide +kernel
theorem dX9_addTest_37 : decode cX9_addTest 37 = .ok (.new 48, 3) := by decide +kernel
theorem dX9_addTest_40 : decode cX9_addTest 40 = .ok (.dup, 1) := by decide +kernel
theorem dX9_addTest_41 : decode cX9_addTest 41 = .ok (.ldc 156, 2) := by decide +kernel
theorem dX9_addTest_43 : decode cX9_addTest 43 = .ok (.invokespecial 52, 3) := by decide +kernel
theorem dX9_addTest_46 : decode cX9_addTest 46 = .ok (.athrow, 1) := by decide +kernel
theorem dX9_addTest_47 : decode cX9_addTest 47 = .ok (.aload_n 0, 1) := by decide +kernel
theorem dX9_addTest_48 : decode cX9_addTest 48 = .ok (.getfield 16, 3) := by decide +kernel
theorem dX9_addTest_51 : decode cX9_addTest 51 = .ok (.new 158, 3) := by decide +kernel
theorem dX9_addTest_54 : decode cX9_addTest 54 = .ok (.dup, 1) := by decide +kernel
theorem dX9_addTest_55 : decode cX9_addTest 55 = .ok (.iload_n 1, 1) := by decide +kernel
theorem dX9_addTest_56 : decode cX9_addTest 56 = .ok (.iload_n 2, 1) := by decide +kernel
theorem dX9_addTest_57 : decode cX9_addTest 57 = .ok (.invokespecial 160, 3) := by decide +kernel
theorem dX9_addTest_60 : decode cX9_addTest 60 = .ok (.invokevirtual 59, 3) := by decide +kernel
theorem dX9_addTest_63 : decode cX9_addTest 63 = .ok (.pop, 1) := by decide +kernel
theorem dX9_addTest_64 : decode cX9_addTest 64 = .ok (.aload_n 0, 1) := by decide +kernel
theorem dX9_addTest_65 : decode cX9_addTest 65 = .ok (.getfield 16, 3) := by decide +kernel
theorem dX9_addTest_68 : decode cX9_addTest 68 = .ok (.invokevirtual 44, 3) := by decide +kernel
theorem dX9_addTest_71 : decode cX9_addTest 71 = .ok (.iconst 1, 1) := by decide +kernel
theorem dX9_addTest_72 : decode cX9_addTest 72 = .ok (.isub, 1) := by decide +kernel
theorem dX9_addTest_73 : decode cX9_addTest 73 = .ok (.ireturn, 1) := by decide +kernel
theorem dX9_setFailing_0 : decode cX9_setFailing 0 = .ok (.aload_n 0, 1) := by decide +kernel
theorem dX9_setFailing_1 : decode cX9_setFailing 1 = .ok (.iload_n 1, 1) := by decide +kernel
theorem dX9_setFailing_2 : decode cX9_setFailing 2 = .ok (.invokevirtual 163, 3) := by decide +kernel
theorem dX9_setFailing_5 : decode cX9_setFailing 5 = .ok (.astore_n 3, 1) := by decide +kernel
theorem dX9_setFailing_6 : decode cX9_setFailing 6 = .ok (.aload_n 3, 1) := by decide +kernel
theorem dX9_setFailing_7 : decode cX9_setFailing 7 = .ok (.getfield 167, 3) := by decide +kernel
theorem dX9_setFailing_10 : decode cX9_setFailing 10 = .ok (.istore 4, 2) := by decide +kernel
theorem dX9_setFailing_12 : decode cX9_setFailing 12 = .ok (.aload_n 3, 1) := by decide +kernel
theorem dX9_setFailing_13 : decode cX9_setFailing 13 = .ok (.iload_n 2, 1) := by decide +kernel
theorem dX9_setFailing_14 : decode cX9_setFailing 14 = .ok (.putfield 167, 3) := by decide +kernel
theorem dX9_setFailing_17 : decode cX9_setFailing 17 = .ok (.iload 4, 2) := by decide +kernel
theorem dX9_setFailing_19 : decode cX9_setFailing 19 = .ok (.ireturn, 1) := by decide +kernel
theorem dX9_setMachines_0 : decode cX9_setMachines 0 = .ok (.iload_n 1, 1) := by decide +kernel
theorem dX9_setMachines_1 : decode cX9_setMachines 1 = .ok (.iconst 1, 1) := by decide +kernel
theorem dX9_setMachines_2 : decode cX9_setMachines 2 = .ok (.iconst 4, 1) := by decide +kernel
theorem dX9_setMachines_3 : decode cX9_setMachines 3 = .ok (.invokestatic 71, 3) := by decide +kernel
theorem dX9_setMachines_6 : decode cX9_setMachines 6 = .ok (.ifCond .ne 13, 3) := by decide +kernel
theorem dX9_setMachines_9 : decode cX9_setMachines 9 = .ok (.new 75, 3) := by decide +kernel
theorem dX9_setMachines_12 : decode cX9_setMachines 12 = .ok (.dup, 1) := by decide +kernel
theorem dX9_setMachines_13 : decode cX9_setMachines 13 = .ok (.ldc 171, 2) := by decide +kernel
theorem dX9_setMachines_15 : decode cX9_setMachines 15 = .ok (.invokespecial 79, 3) := by decide +kernel
theorem dX9_setMachines_18 : decode cX9_setMachines 18 = .ok (.athrow, 1) := by decide +kernel
theorem dX9_setMachines_19 : decode cX9_setMachines 19 = .ok (.aload_n 0, 1) := by decide +kernel
theorem dX9_setMachines_20 : decode cX9_setMachines 20 = .ok (.getfield 36, 3) := by decide +kernel
theorem dX9_setMachines_23 : decode cX9_setMachines 23 = .ok (.istore_n 2, 1) := by decide +kernel
theorem dX9_setMachines_24 : decode cX9_setMachines 24 = .ok (.aload_n 0, 1) := by decide +kernel
theorem dX9_setMachines_25 : decode cX9_setMachines 25 = .ok (.iload_n 1, 1) := by decide +kernel
theorem dX9_setMachines_26 : decode cX9_setMachines 26 = .ok (.putfield 36, 3) := by decide +kernel
theorem dX9_setMachines_29 : decode cX9_setMachines 29 = .ok (.iload_n 2, 1) := by decide +kernel
theorem dX9_setMachines_30 : decode cX9_setMachines 30 = .ok (.ireturn, 1) := by decide +kernel
theorem dX9_fund_0 : decode cX9_fund 0 = .ok (.iload_n 1, 1) := by decide +kernel
theorem dX9_fund_1 : decode cX9_fund 1 = .ok (.invokestatic 40, 3) := by decide +kernel
theorem dX9_fund_4 : decode cX9_fund 4 = .ok (.iload_n 2, 1) := by decide +kernel
theorem dX9_fund_5 : decode cX9_fund 5 = .ok (.iconst 1, 1) := by decide +kernel
theorem dX9_fund_6 : decode cX9_fund 6 = .ok (.sipush 9999, 3) := by decide +kernel
theorem dX9_fund_9 : decode cX9_fund 9 = .ok (.invokestatic 71, 3) := by decide +kernel
theorem dX9_fund_12 : decode cX9_fund 12 = .ok (.ifCond .ne 13, 3) := by decide +kernel
theorem dX9_fund_15 : decode cX9_fund 15 = .ok (.new 75, 3) := by decide +kernel
theorem dX9_fund_18 : decode cX9_fund 18 = .ok (.dup, 1) := by decide +kernel
theorem dX9_fund_19 : decode cX9_fund 19 = .ok (.ldc 173, 2) := by decide +kernel
theorem dX9_fund_21 : decode cX9_fund 21 = .ok (.invokespecial 79, 3) := by decide +kernel
theorem dX9_fund_24 : decode cX9_fund 24 = .ok (.athrow, 1) := by decide +kernel
theorem dX9_fund_25 : decode cX9_fund 25 = .ok (.aload_n 0, 1) := by decide +kernel
theorem dX9_fund_26 : decode cX9_fund 26 = .ok (.getfield 29, 3) := by decide +kernel
theorem dX9_fund_29 : decode cX9_fund 29 = .ok (.iload_n 1, 1) := by decide +kernel
theorem dX9_fund_30 : decode cX9_fund 30 = .ok (.dup2, 1) := by decide +kernel
theorem dX9_fund_31 : decode cX9_fund 31 = .ok (.iaload, 1) := by decide +kernel
theorem dX9_fund_32 : decode cX9_fund 32 = .ok (.iload_n 2, 1) := by decide +kernel
theorem dX9_fund_33 : decode cX9_fund 33 = .ok (.iadd, 1) := by decide +kernel
theorem dX9_fund_34 : decode cX9_fund 34 = .ok (.iastore, 1) := by decide +kernel
theorem dX9_fund_35 : decode cX9_fund 35 = .ok (.aload_n 0, 1) := by decide +kernel
theorem dX9_fund_36 : decode cX9_fund 36 = .ok (.getfield 29, 3) := by decide +kernel
theorem dX9_fund_39 : decode cX9_fund 39 = .ok (.iload_n 1, 1) := by decide +kernel
theorem dX9_fund_40 : decode cX9_fund 40 = .ok (.iaload, 1) := by decide +kernel
theorem dX9_fund_41 : decode cX9_fund 41 = .ok (.ireturn, 1) := by decide +kernel
theorem dX9_budget_0 : decode cX9_budget 0 = .ok (.iload_n 1, 1) := by decide +kernel
theorem dX9_budget_1 : decode cX9_budget 1 = .ok (.invokestatic 40, 3) := by decide +kernel
theorem dX9_budget_4 : decode cX9_budget 4 = .ok (.aload_n 0, 1) := by decide +kernel
theorem dX9_budget_5 : decode cX9_budget 5 = .ok (.getfield 29, 3) := by decide +kernel
theorem dX9_budget_8 : decode cX9_budget 8 = .ok (.iload_n 1, 1) := by decide +kernel
theorem dX9_budget_9 : decode cX9_budget 9 = .ok (.iaload, 1) := by decide +kernel
theorem dX9_budget_10 : decode cX9_budget 10 = .ok (.ireturn, 1) := by decide +kernel
theorem dX9_testTime_0 : decode cX9_testTime 0 = .ok (.aload_n 0, 1) := by decide +kernel
theorem dX9_testTime_1 : decode cX9_testTime 1 = .ok (.iload_n 1, 1) := by decide +kernel
theorem dX9_testTime_2 : decode cX9_testTime 2 = .ok (.invokevirtual 92, 3) := by decide +kernel
theorem dX9_testTime_5 : decode cX9_testTime 5 = .ok (.aload_n 0, 1) := by decide +kernel
theorem dX9_testTime_6 : decode cX9_testTime 6 = .ok (.getfield 33, 3) := by decide +kernel
theorem dX9_testTime_9 : decode cX9_testTime 9 = .ok (.iconst 0, 1) := by decide +kernel
theorem dX9_testTime_10 : decode cX9_testTime 10 = .ok (.invokestatic 175, 3) := by decide +kernel
theorem dX9_testTime_13 : decode cX9_testTime 13 = .ok (.iconst 0, 1) := by decide +kernel
theorem dX9_testTime_14 : decode cX9_testTime 14 = .ok (.istore_n 2, 1) := by decide +kernel
theorem dX9_testTime_15 : decode cX9_testTime 15 = .ok (.bipush 60, 2) := by decide +kernel
theorem dX9_testTime_17 : decode cX9_testTime 17 = .ok (.istore_n 3, 1) := by decide +kernel
theorem dX9_testTime_18 : decode cX9_testTime 18 = .ok (.iload_n 3, 1) := by decide +kernel
theorem dX9_testTime_19 : decode cX9_testTime 19 = .ok (.ifCond .le 72, 3) := by decide +kernel
theorem dX9_testTime_22 : decode cX9_testTime 22 = .ok (.iconst 0, 1) := by decide +kernel
theorem dX9_testTime_23 : decode cX9_testTime 23 = .ok (.istore 4, 2) := by decide +kernel
theorem dX9_testTime_25 : decode cX9_testTime 25 = .ok (.iload 4, 2) := by decide +kernel
theorem dX9_testTime_27 : decode cX9_testTime 27 = .ok (.aload_n 0, 1) := by decide +kernel
theorem dX9_testTime_28 : decode cX9_testTime 28 = .ok (.getfield 16, 3) := by decide +kernel
theorem dX9_testTime_31 : decode cX9_testTime 31 = .ok (.invokevirtual 44, 3) := by decide +kernel
theorem dX9_testTime_34 : decode cX9_testTime 34 = .ok (.if_icmp .ge 51, 3) := by decide +kernel
theorem dX9_testTime_37 : decode cX9_testTime 37 = .ok (.aload_n 0, 1) := by decide +kernel
theorem dX9_testTime_38 : decode cX9_testTime 38 = .ok (.getfield 16, 3) := by decide +kernel
theorem dX9_testTime_41 : decode cX9_testTime 41 = .ok (.iload 4, 2) := by decide +kernel
theorem dX9_testTime_43 : decode cX9_testTime 43 = .ok (.invokevirtual 181, 3) := by decide +kernel
theorem dX9_testTime_46 : decode cX9_testTime 46 = .ok (.checkcast 158, 3) := by decide +kernel
theorem dX9_testTime_49 : decode cX9_testTime 49 = .ok (.astore 5, 2) := by decide +kernel
theorem dX9_testTime_51 : decode cX9_testTime 51 = .ok (.aload 5, 2) := by decide +kernel
theorem dX9_testTime_53 : decode cX9_testTime 53 = .ok (.getfield 185, 3) := by decide +kernel
theorem dX9_testTime_56 : decode cX9_testTime 56 = .ok (.iload_n 1, 1) := by decide +kernel
theorem dX9_testTime_57 : decode cX9_testTime 57 = .ok (.if_icmp .ne 22, 3) := by decide +kernel
theorem dX9_testTime_60 : decode cX9_testTime 60 = .ok (.aload 5, 2) := by decide +kernel
theorem dX9_testTime_62 : decode cX9_testTime 62 = .ok (.getfield 188, 3) := by decide +kernel
theorem dX9_testTime_65 : decode cX9_testTime 65 = .ok (.iload_n 3, 1) := by decide +kernel
theorem dX9_testTime_66 : decode cX9_testTime 66 = .ok (.if_icmp .ne 13, 3) := by decide +kernel
theorem dX9_testTime_69 : decode cX9_testTime 69 = .ok (.iload_n 2, 1) := by decide +kernel
theorem dX9_testTime_70 : decode cX9_testTime 70 = .ok (.aload_n 0, 1) := by decide +kernel
theorem dX9_testTime_71 : decode cX9_testTime 71 = .ok (.iload_n 3, 1) := by decide +kernel
theorem dX9_testTime_72 : decode cX9_testTime 72 = .ok (.invokevirtual 191, 3) := by decide +kernel
theorem dX9_testTime_75 : decode cX9_testTime 75 = .ok (.invokestatic 194, 3) := by decide +kernel
theorem dX9_testTime_78 : decode cX9_testTime 78 = .ok (.istore_n 2, 1) := by decide +kernel
theorem dX9_testTime_79 : decode cX9_testTime 79 = .ok (.iinc 4 1, 3) := by decide +kernel
theorem dX9_testTime_82 : decode cX9_testTime 82 = .ok (.goto (-57), 3) := by decide +kernel
theorem dX9_testTime_85 : decode cX9_testTime 85 = .ok (.iinc 3 (-1), 3) := by decide +kernel
theorem dX9_testTime_88 : decode cX9_testTime 88 = .ok (.goto (-70), 3) := by decide +kernel
theorem dX9_testTime_91 : decode cX9_testTime 91 = .ok (.iload_n 2, 1) := by decide +kernel
theorem dX9_testTime_92 : decode cX9_testTime 92 = .ok (.ireturn, 1) := by decide +kernel
theorem dX9_test_0 : decode cX9_test 0 = .ok (.aload_n 0, 1) := by decide +kernel
theorem dX9_test_1 : decode cX9_test 1 = .ok (.iload_n 1, 1) := by decide +kernel
theorem dX9_test_2 : decode cX9_test 2 = .ok (.invokevirtual 63, 3) := by decide +kernel
theorem dX9_test_5 : decode cX9_test 5 = .ok (.astore_n 2, 1) := by decide +kernel
theorem dX9_test_6 : decode cX9_test 6 = .ok (.aload_n 0, 1) := by decide +kernel
theorem dX9_test_7 : decode cX9_test 7 = .ok (.getfield 25, 3) := by decide +kernel
theorem dX9_test_10 : decode cX9_test 10 = .ok (.aload_n 0, 1) := by decide +kernel
theorem dX9_test_11 : decode cX9_test 11 = .ok (.getfield 10, 3) := by decide +kernel
theorem dX9_test_14 : decode cX9_test 14 = .ok (.iload_n 1, 1) := by decide +kernel
theorem dX9_test_15 : decode cX9_test 15 = .ok (.aload_n 2, 1) := by decide +kernel
theorem dX9_test_16 : decode cX9_test 16 = .ok (.getfield 67, 3) := by decide +kernel
theorem dX9_test_19 : decode cX9_test 19 = .ok (.getfield 88, 3) := by decide +kernel
theorem dX9_test_22 : decode cX9_test 22 = .ok (.invokevirtual 120, 3) := by decide +kernel
theorem dX9_test_25 : decode cX9_test 25 = .ok (.invokestatic 124, 3) := by decide +kernel
theorem dX9_test_28 : decode cX9_test 28 = .ok (.astore_n 3, 1) := by decide +kernel
theorem dX9_test_29 : decode cX9_test 29 = .ok (.aload_n 2, 1) := by decide +kernel
theorem dX9_test_30 : decode cX9_test 30 = .ok (.getfield 137, 3) := by decide +kernel
theorem dX9_test_33 : decode cX9_test 33 = .ok (.aload_n 2, 1) := by decide +kernel
theorem dX9_test_34 : decode cX9_test 34 = .ok (.getfield 67, 3) := by decide +kernel
theorem dX9_test_37 : decode cX9_test 37 = .ok (.aload_n 3, 1) := by decide +kernel
theorem dX9_test_38 : decode cX9_test 38 = .ok (.invokevirtual 141, 3) := by decide +kernel
theorem dX9_test_41 : decode cX9_test 41 = .ok (.ifCond .ne 13, 3) := by decide +kernel
theorem dX9_test_44 : decode cX9_test 44 = .ok (.new 48, 3) := by decide +kernel
theorem dX9_test_47 : decode cX9_test 47 = .ok (.dup, 1) := by decide +kernel
theorem dX9_test_48 : decode cX9_test 48 = .ok (.ldc 200, 2) := by decide +kernel
theorem dX9_test_50 : decode cX9_test 50 = .ok (.invokespecial 52, 3) := by decide +kernel
theorem dX9_test_53 : decode cX9_test 53 = .ok (.athrow, 1) := by decide +kernel
theorem dX9_test_54 : decode cX9_test 54 = .ok (.aload_n 0, 1) := by decide +kernel
theorem dX9_test_55 : decode cX9_test 55 = .ok (.aload_n 2, 1) := by decide +kernel
theorem dX9_test_56 : decode cX9_test 56 = .ok (.getfield 202, 3) := by decide +kernel
theorem dX9_test_59 : decode cX9_test 59 = .ok (.aload_n 0, 1) := by decide +kernel
theorem dX9_test_60 : decode cX9_test 60 = .ok (.iload_n 1, 1) := by decide +kernel
theorem dX9_test_61 : decode cX9_test 61 = .ok (.invokevirtual 205, 3) := by decide +kernel
theorem dX9_test_64 : decode cX9_test 64 = .ok (.invokevirtual 208, 3) := by decide +kernel
theorem dX9_test_67 : decode cX9_test 67 = .ok (.ifCond .ne 13, 3) := by decide +kernel
theorem dX9_test_70 : decode cX9_test 70 = .ok (.new 48, 3) := by decide +kernel
theorem dX9_test_73 : decode cX9_test 73 = .ok (.dup, 1) := by decide +kernel
theorem dX9_test_74 : decode cX9_test 74 = .ok (.ldc 212, 2) := by decide +kernel
theorem dX9_test_76 : decode cX9_test 76 = .ok (.invokespecial 52, 3) := by decide +kernel
theorem dX9_test_79 : decode cX9_test 79 = .ok (.athrow, 1) := by decide +kernel
theorem dX9_test_80 : decode cX9_test 80 = .ok (.aload_n 0, 1) := by decide +kernel
theorem dX9_test_81 : decode cX9_test 81 = .ok (.iload_n 1, 1) := by decide +kernel
theorem dX9_test_82 : decode cX9_test 82 = .ok (.invokevirtual 214, 3) := by decide +kernel
theorem dX9_test_85 : decode cX9_test 85 = .ok (.istore 4, 2) := by decide +kernel
theorem dX9_test_87 : decode cX9_test 87 = .ok (.aload_n 2, 1) := by decide +kernel
theorem dX9_test_88 : decode cX9_test 88 = .ok (.getfield 217, 3) := by decide +kernel
theorem dX9_test_91 : decode cX9_test 91 = .ok (.iload 4, 2) := by decide +kernel
theorem dX9_test_93 : decode cX9_test 93 = .ok (.ifCond .ne 7, 3) := by decide +kernel
theorem dX9_test_96 : decode cX9_test 96 = .ok (.iconst 1, 1) := by decide +kernel
theorem dX9_test_97 : decode cX9_test 97 = .ok (.goto 4, 3) := by decide +kernel
theorem dX9_test_100 : decode cX9_test 100 = .ok (.iconst 0, 1) := by decide +kernel
theorem dX9_test_101 : decode cX9_test 101 = .ok (.aload_n 2, 1) := by decide +kernel
theorem dX9_test_102 : decode cX9_test 102 = .ok (.getfield 67, 3) := by decide +kernel
theorem dX9_test_105 : decode cX9_test 105 = .ok (.aload_n 3, 1) := by decide +kernel
theorem dX9_test_106 : decode cX9_test 106 = .ok (.invokevirtual 221, 3) := by decide +kernel
theorem dX9_test_109 : decode cX9_test 109 = .ok (.iload 4, 2) := by decide +kernel
theorem dX9_test_111 : decode cX9_test 111 = .ok (.ireturn, 1) := by decide +kernel
theorem dX9_flaky_0 : decode cX9_flaky 0 = .ok (.aload_n 0, 1) := by decide +kernel
theorem dX9_flaky_1 : decode cX9_flaky 1 = .ok (.iload_n 1, 1) := by decide +kernel
theorem dX9_flaky_2 : decode cX9_flaky 2 = .ok (.invokevirtual 163, 3) := by decide +kernel
theorem dX9_flaky_5 : decode cX9_flaky 5 = .ok (.invokevirtual 226, 3) := by decide +kernel
theorem dX9_flaky_8 : decode cX9_flaky 8 = .ok (.ireturn, 1) := by decide +kernel
theorem dX9_flakiest_0 : decode cX9_flakiest 0 = .ok (.aload_n 0, 1) := by decide +kernel
theorem dX9_flakiest_1 : decode cX9_flakiest 1 = .ok (.getfield 16, 3) := by decide +kernel
theorem dX9_flakiest_4 : decode cX9_flakiest 4 = .ok (.invokevirtual 229, 3) := by decide +kernel
theorem dX9_flakiest_7 : decode cX9_flakiest 7 = .ok (.ifCond .eq 13, 3) := by decide +kernel
theorem dX9_flakiest_10 : decode cX9_flakiest 10 = .ok (.new 112, 3) := by decide +kernel
theorem dX9_flakiest_13 : decode cX9_flakiest 13 = .ok (.dup, 1) := by decide +kernel
theorem dX9_flakiest_14 : decode cX9_flakiest 14 = .ok (.ldc 233, 2) := by decide +kernel
theorem dX9_flakiest_16 : decode cX9_flakiest 16 = .ok (.invokespecial 116, 3) := by decide +kernel
theorem dX9_flakiest_19 : decode cX9_flakiest 19 = .ok (.athrow, 1) := by decide +kernel
theorem dX9_flakiest_20 : decode cX9_flakiest 20 = .ok (.iconst 0, 1) := by decide +kernel
theorem dX9_flakiest_21 : decode cX9_flakiest 21 = .ok (.istore_n 1, 1) := by decide +kernel
theorem dX9_flakiest_22 : decode cX9_flakiest 22 = .ok (.iconst (-1), 1) := by decide +kernel
theorem dX9_flakiest_23 : decode cX9_flakiest 23 = .ok (.istore_n 2, 1) := by decide +kernel
theorem dX9_flakiest_24 : decode cX9_flakiest 24 = .ok (.iconst 0, 1) := by decide +kernel
theorem dX9_flakiest_25 : decode cX9_flakiest 25 = .ok (.istore_n 3, 1) := by decide +kernel
theorem dX9_flakiest_26 : decode cX9_flakiest 26 = .ok (.iload_n 3, 1) := by decide +kernel
theorem dX9_flakiest_27 : decode cX9_flakiest 27 = .ok (.aload_n 0, 1) := by decide +kernel
theorem dX9_flakiest_28 : decode cX9_flakiest 28 = .ok (.getfield 16, 3) := by decide +kernel
theorem dX9_flakiest_31 : decode cX9_flakiest 31 = .ok (.invokevirtual 44, 3) := by decide +kernel
theorem dX9_flakiest_34 : decode cX9_flakiest 34 = .ok (.if_icmp .ge 36, 3) := by decide +kernel
theorem dX9_flakiest_37 : decode cX9_flakiest 37 = .ok (.aload_n 0, 1) := by decide +kernel
theorem dX9_flakiest_38 : decode cX9_flakiest 38 = .ok (.getfield 16, 3) := by decide +kernel
theorem dX9_flakiest_41 : decode cX9_flakiest 41 = .ok (.iload_n 3, 1) := by decide +kernel
theorem dX9_flakiest_42 : decode cX9_flakiest 42 = .ok (.invokevirtual 181, 3) := by decide +kernel
theorem dX9_flakiest_45 : decode cX9_flakiest 45 = .ok (.checkcast 158, 3) := by decide +kernel
theorem dX9_flakiest_48 : decode cX9_flakiest 48 = .ok (.invokevirtual 226, 3) := by decide +kernel
theorem dX9_flakiest_51 : decode cX9_flakiest 51 = .ok (.istore 4, 2) := by decide +kernel
theorem dX9_flakiest_53 : decode cX9_flakiest 53 = .ok (.iload 4, 2) := by decide +kernel
theorem dX9_flakiest_55 : decode cX9_flakiest 55 = .ok (.iload_n 2, 1) := by decide +kernel
theorem dX9_flakiest_56 : decode cX9_flakiest 56 = .ok (.if_icmp .le 8, 3) := by decide +kernel
theorem dX9_flakiest_59 : decode cX9_flakiest 59 = .ok (.iload 4, 2) := by decide +kernel
theorem dX9_flakiest_61 : decode cX9_flakiest 61 = .ok (.istore_n 2, 1) := by decide +kernel
theorem dX9_flakiest_62 : decode cX9_flakiest 62 = .ok (.iload_n 3, 1) := by decide +kernel
theorem dX9_flakiest_63 : decode cX9_flakiest 63 = .ok (.istore_n 1, 1) := by decide +kernel
theorem dX9_flakiest_64 : decode cX9_flakiest 64 = .ok (.iinc 3 1, 3) := by decide +kernel
theorem dX9_flakiest_67 : decode cX9_flakiest 67 = .ok (.goto (-41), 3) := by decide +kernel
theorem dX9_flakiest_70 : decode cX9_flakiest 70 = .ok (.iload_n 1, 1) := by decide +kernel
theorem dX9_flakiest_71 : decode cX9_flakiest 71 = .ok (.ireturn, 1) := by decide +kernel
theorem dX9_canPublish_0 : decode cX9_canPublish 0 = .ok (.aload_n 0, 1) := by decide +kernel
theorem dX9_canPublish_1 : decode cX9_canPublish 1 = .ok (.iload_n 1, 1) := by decide +kernel
theorem dX9_canPublish_2 : decode cX9_canPublish 2 = .ok (.invokevirtual 63, 3) := by decide +kernel
theorem dX9_canPublish_5 : decode cX9_canPublish 5 = .ok (.astore_n 2, 1) := by decide +kernel
theorem dX9_canPublish_6 : decode cX9_canPublish 6 = .ok (.aload_n 2, 1) := by decide +kernel
theorem dX9_canPublish_7 : decode cX9_canPublish 7 = .ok (.aload_n 0, 1) := by decide +kernel
theorem dX9_canPublish_8 : decode cX9_canPublish 8 = .ok (.getfield 25, 3) := by decide +kernel
theorem dX9_canPublish_11 : decode cX9_canPublish 11 = .ok (.aload_n 0, 1) := by decide +kernel
theorem dX9_canPublish_12 : decode cX9_canPublish 12 = .ok (.getfield 10, 3) := by decide +kernel
theorem dX9_canPublish_15 : decode cX9_canPublish 15 = .ok (.iload_n 1, 1) := by decide +kernel
theorem dX9_canPublish_16 : decode cX9_canPublish 16 = .ok (.aload_n 2, 1) := by decide +kernel
theorem dX9_canPublish_17 : decode cX9_canPublish 17 = .ok (.getfield 67, 3) := by decide +kernel
theorem dX9_canPublish_20 : decode cX9_canPublish 20 = .ok (.getfield 88, 3) := by decide +kernel
theorem dX9_canPublish_23 : decode cX9_canPublish 23 = .ok (.invokevirtual 120, 3) := by decide +kernel
theorem dX9_canPublish_26 : decode cX9_canPublish 26 = .ok (.invokevirtual 235, 3) := by decide +kernel
theorem dX9_canPublish_29 : decode cX9_canPublish 29 = .ok (.ireturn, 1) := by decide +kernel
theorem dX9_nextVersion_0 : decode cX9_nextVersion 0 = .ok (.aload_n 0, 1) := by decide +kernel
theorem dX9_nextVersion_1 : decode cX9_nextVersion 1 = .ok (.iload_n 1, 1) := by decide +kernel
theorem dX9_nextVersion_2 : decode cX9_nextVersion 2 = .ok (.invokevirtual 63, 3) := by decide +kernel
theorem dX9_nextVersion_5 : decode cX9_nextVersion 5 = .ok (.invokevirtual 239, 3) := by decide +kernel
theorem dX9_nextVersion_8 : decode cX9_nextVersion 8 = .ok (.ireturn, 1) := by decide +kernel
theorem dX9_publish_0 : decode cX9_publish 0 = .ok (.aload_n 0, 1) := by decide +kernel
theorem dX9_publish_1 : decode cX9_publish 1 = .ok (.iload_n 1, 1) := by decide +kernel
theorem dX9_publish_2 : decode cX9_publish 2 = .ok (.invokevirtual 63, 3) := by decide +kernel
theorem dX9_publish_5 : decode cX9_publish 5 = .ok (.astore_n 2, 1) := by decide +kernel
theorem dX9_publish_6 : decode cX9_publish 6 = .ok (.aload_n 0, 1) := by decide +kernel
theorem dX9_publish_7 : decode cX9_publish 7 = .ok (.getfield 25, 3) := by decide +kernel
theorem dX9_publish_10 : decode cX9_publish 10 = .ok (.aload_n 0, 1) := by decide +kernel
theorem dX9_publish_11 : decode cX9_publish 11 = .ok (.getfield 10, 3) := by decide +kernel
theorem dX9_publish_14 : decode cX9_publish 14 = .ok (.iload_n 1, 1) := by decide +kernel
theorem dX9_publish_15 : decode cX9_publish 15 = .ok (.aload_n 2, 1) := by decide +kernel
theorem dX9_publish_16 : decode cX9_publish 16 = .ok (.getfield 67, 3) := by decide +kernel
theorem dX9_publish_19 : decode cX9_publish 19 = .ok (.getfield 88, 3) := by decide +kernel
theorem dX9_publish_22 : decode cX9_publish 22 = .ok (.invokevirtual 120, 3) := by decide +kernel
theorem dX9_publish_25 : decode cX9_publish 25 = .ok (.invokestatic 124, 3) := by decide +kernel
theorem dX9_publish_28 : decode cX9_publish 28 = .ok (.astore_n 3, 1) := by decide +kernel
theorem dX9_publish_29 : decode cX9_publish 29 = .ok (.aload_n 2, 1) := by decide +kernel
theorem dX9_publish_30 : decode cX9_publish 30 = .ok (.aload_n 3, 1) := by decide +kernel
theorem dX9_publish_31 : decode cX9_publish 31 = .ok (.invokevirtual 235, 3) := by decide +kernel
theorem dX9_publish_34 : decode cX9_publish 34 = .ok (.ifCond .ne 13, 3) := by decide +kernel
theorem dX9_publish_37 : decode cX9_publish 37 = .ok (.new 242, 3) := by decide +kernel
theorem dX9_publish_40 : decode cX9_publish 40 = .ok (.dup, 1) := by decide +kernel
theorem dX9_publish_41 : decode cX9_publish 41 = .ok (.ldc 244, 2) := by decide +kernel
theorem dX9_publish_43 : decode cX9_publish 43 = .ok (.invokespecial 246, 3) := by decide +kernel
theorem dX9_publish_46 : decode cX9_publish 46 = .ok (.athrow, 1) := by decide +kernel
theorem dX9_publish_47 : decode cX9_publish 47 = .ok (.aload_n 2, 1) := by decide +kernel
theorem dX9_publish_48 : decode cX9_publish 48 = .ok (.invokevirtual 239, 3) := by decide +kernel
theorem dX9_publish_51 : decode cX9_publish 51 = .ok (.istore 4, 2) := by decide +kernel
theorem dX9_publish_53 : decode cX9_publish 53 = .ok (.iload 4, 2) := by decide +kernel
theorem dX9_publish_55 : decode cX9_publish 55 = .ok (.sipush 999, 3) := by decide +kernel
theorem dX9_publish_58 : decode cX9_publish 58 = .ok (.if_icmp .le 13, 3) := by decide +kernel
theorem dX9_publish_61 : decode cX9_publish 61 = .ok (.new 242, 3) := by decide +kernel
theorem dX9_publish_64 : decode cX9_publish 64 = .ok (.dup, 1) := by decide +kernel
theorem dX9_publish_65 : decode cX9_publish 65 = .ok (.ldc 247, 2) := by decide +kernel
theorem dX9_publish_67 : decode cX9_publish 67 = .ok (.invokespecial 246, 3) := by decide +kernel
theorem dX9_publish_70 : decode cX9_publish 70 = .ok (.athrow, 1) := by decide +kernel
theorem dX9_publish_71 : decode cX9_publish 71 = .ok (.aload_n 0, 1) := by decide +kernel
theorem dX9_publish_72 : decode cX9_publish 72 = .ok (.getfield 19, 3) := by decide +kernel
theorem dX9_publish_75 : decode cX9_publish 75 = .ok (.invokevirtual 44, 3) := by decide +kernel
theorem dX9_publish_78 : decode cX9_publish 78 = .ok (.bipush 20, 2) := by decide +kernel
theorem dX9_publish_80 : decode cX9_publish 80 = .ok (.if_icmp .lt 13, 3) := by decide +kernel
theorem dX9_publish_83 : decode cX9_publish 83 = .ok (.new 48, 3) := by decide +kernel
theorem dX9_publish_86 : decode cX9_publish 86 = .ok (.dup, 1) := by decide +kernel
theorem dX9_publish_87 : decode cX9_publish 87 = .ok (.ldc 249, 2) := by decide +kernel
theorem dX9_publish_89 : decode cX9_publish 89 = .ok (.invokespecial 52, 3) := by decide +kernel
theorem dX9_publish_92 : decode cX9_publish 92 = .ok (.athrow, 1) := by decide +kernel
theorem dX9_publish_93 : decode cX9_publish 93 = .ok (.new 251, 3) := by decide +kernel
theorem dX9_publish_96 : decode cX9_publish 96 = .ok (.dup, 1) := by decide +kernel
theorem dX9_publish_97 : decode cX9_publish 97 = .ok (.iload 4, 2) := by decide +kernel
theorem dX9_publish_99 : decode cX9_publish 99 = .ok (.aload_n 2, 1) := by decide +kernel
theorem dX9_publish_100 : decode cX9_publish 100 = .ok (.getfield 67, 3) := by decide +kernel
theorem dX9_publish_103 : decode cX9_publish 103 = .ok (.aload_n 3, 1) := by decide +kernel
theorem dX9_publish_104 : decode cX9_publish 104 = .ok (.invokespecial 253, 3) := by decide +kernel
theorem dX9_publish_107 : decode cX9_publish 107 = .ok (.astore 5, 2) := by decide +kernel
theorem dX9_publish_109 : decode cX9_publish 109 = .ok (.aload_n 2, 1) := by decide +kernel
theorem dX9_publish_110 : decode cX9_publish 110 = .ok (.getfield 256, 3) := by decide +kernel
theorem dX9_publish_113 : decode cX9_publish 113 = .ok (.aload 5, 2) := by decide +kernel
theorem dX9_publish_115 : decode cX9_publish 115 = .ok (.invokevirtual 59, 3) := by decide +kernel
theorem dX9_publish_118 : decode cX9_publish 118 = .ok (.pop, 1) := by decide +kernel
theorem dX9_publish_119 : decode cX9_publish 119 = .ok (.aload_n 0, 1) := by decide +kernel
theorem dX9_publish_120 : decode cX9_publish 120 = .ok (.getfield 19, 3) := by decide +kernel
theorem dX9_publish_123 : decode cX9_publish 123 = .ok (.aload 5, 2) := by decide +kernel
theorem dX9_publish_125 : decode cX9_publish 125 = .ok (.invokevirtual 59, 3) := by decide +kernel
theorem dX9_publish_128 : decode cX9_publish 128 = .ok (.pop, 1) := by decide +kernel
theorem dX9_publish_129 : decode cX9_publish 129 = .ok (.iload 4, 2) := by decide +kernel
theorem dX9_publish_131 : decode cX9_publish 131 = .ok (.ireturn, 1) := by decide +kernel
theorem dX9_yank_0 : decode cX9_yank 0 = .ok (.aload_n 0, 1) := by decide +kernel
theorem dX9_yank_1 : decode cX9_yank 1 = .ok (.iload_n 1, 1) := by decide +kernel
theorem dX9_yank_2 : decode cX9_yank 2 = .ok (.iload_n 2, 1) := by decide +kernel
theorem dX9_yank_3 : decode cX9_yank 3 = .ok (.invokevirtual 257, 3) := by decide +kernel
theorem dX9_yank_6 : decode cX9_yank 6 = .ok (.astore_n 3, 1) := by decide +kernel
theorem dX9_yank_7 : decode cX9_yank 7 = .ok (.aload_n 3, 1) := by decide +kernel
theorem dX9_yank_8 : decode cX9_yank 8 = .ok (.invokestatic 261, 3) := by decide +kernel
theorem dX9_yank_11 : decode cX9_yank 11 = .ok (.aload_n 3, 1) := by decide +kernel
theorem dX9_yank_12 : decode cX9_yank 12 = .ok (.iconst 1, 1) := by decide +kernel
theorem dX9_yank_13 : decode cX9_yank 13 = .ok (.putfield 265, 3) := by decide +kernel
theorem dX9_yank_16 : decode cX9_yank 16 = .ok (.aload_n 0, 1) := by decide +kernel
theorem dX9_yank_17 : decode cX9_yank 17 = .ok (.invokevirtual 268, 3) := by decide +kernel
theorem dX9_yank_20 : decode cX9_yank 20 = .ok (.ireturn, 1) := by decide +kernel
theorem dX9_isStale_0 : decode cX9_isStale 0 = .ok (.aload_n 0, 1) := by decide +kernel
theorem dX9_isStale_1 : decode cX9_isStale 1 = .ok (.iload_n 1, 1) := by decide +kernel
theorem dX9_isStale_2 : decode cX9_isStale 2 = .ok (.iload_n 2, 1) := by decide +kernel
theorem dX9_isStale_3 : decode cX9_isStale 3 = .ok (.invokevirtual 257, 3) := by decide +kernel
theorem dX9_isStale_6 : decode cX9_isStale 6 = .ok (.invokevirtual 271, 3) := by decide +kernel
theorem dX9_isStale_9 : decode cX9_isStale 9 = .ok (.ireturn, 1) := by decide +kernel
theorem dX9_relock_0 : decode cX9_relock 0 = .ok (.aload_n 0, 1) := by decide +kernel
theorem dX9_relock_1 : decode cX9_relock 1 = .ok (.iload_n 1, 1) := by decide +kernel
theorem dX9_relock_2 : decode cX9_relock 2 = .ok (.iload_n 2, 1) := by decide +kernel
theorem dX9_relock_3 : decode cX9_relock 3 = .ok (.invokevirtual 257, 3) := by decide +kernel
theorem dX9_relock_6 : decode cX9_relock 6 = .ok (.astore_n 3, 1) := by decide +kernel
theorem dX9_relock_7 : decode cX9_relock 7 = .ok (.aload_n 3, 1) := by decide +kernel
theorem dX9_relock_8 : decode cX9_relock 8 = .ok (.invokestatic 261, 3) := by decide +kernel
theorem dX9_relock_11 : decode cX9_relock 11 = .ok (.aload_n 0, 1) := by decide +kernel
theorem dX9_relock_12 : decode cX9_relock 12 = .ok (.getfield 25, 3) := by decide +kernel
theorem dX9_relock_15 : decode cX9_relock 15 = .ok (.aload_n 0, 1) := by decide +kernel
theorem dX9_relock_16 : decode cX9_relock 16 = .ok (.getfield 10, 3) := by decide +kernel
theorem dX9_relock_19 : decode cX9_relock 19 = .ok (.iload_n 1, 1) := by decide +kernel
theorem dX9_relock_20 : decode cX9_relock 20 = .ok (.aload_n 3, 1) := by decide +kernel
theorem dX9_relock_21 : decode cX9_relock 21 = .ok (.getfield 274, 3) := by decide +kernel
theorem dX9_relock_24 : decode cX9_relock 24 = .ok (.invokevirtual 120, 3) := by decide +kernel
theorem dX9_relock_27 : decode cX9_relock 27 = .ok (.invokestatic 124, 3) := by decide +kernel
theorem dX9_relock_30 : decode cX9_relock 30 = .ok (.astore 4, 2) := by decide +kernel
theorem dX9_relock_32 : decode cX9_relock 32 = .ok (.aload_n 3, 1) := by decide +kernel
theorem dX9_relock_33 : decode cX9_relock 33 = .ok (.getfield 275, 3) := by decide +kernel
theorem dX9_relock_36 : decode cX9_relock 36 = .ok (.aload 4, 2) := by decide +kernel
theorem dX9_relock_38 : decode cX9_relock 38 = .ok (.invokevirtual 279, 3) := by decide +kernel
theorem dX9_relock_41 : decode cX9_relock 41 = .ok (.istore 5, 2) := by decide +kernel
theorem dX9_relock_43 : decode cX9_relock 43 = .ok (.aload_n 3, 1) := by decide +kernel
theorem dX9_relock_44 : decode cX9_relock 44 = .ok (.getfield 275, 3) := by decide +kernel
theorem dX9_relock_47 : decode cX9_relock 47 = .ok (.aload 4, 2) := by decide +kernel
theorem dX9_relock_49 : decode cX9_relock 49 = .ok (.invokevirtual 283, 3) := by decide +kernel
theorem dX9_relock_52 : decode cX9_relock 52 = .ok (.iload 5, 2) := by decide +kernel
theorem dX9_relock_54 : decode cX9_relock 54 = .ok (.ireturn, 1) := by decide +kernel
theorem dX9_locked_0 : decode cX9_locked 0 = .ok (.aload_n 0, 1) := by decide +kernel
theorem dX9_locked_1 : decode cX9_locked 1 = .ok (.iload_n 3, 1) := by decide +kernel
theorem dX9_locked_2 : decode cX9_locked 2 = .ok (.invokevirtual 92, 3) := by decide +kernel
theorem dX9_locked_5 : decode cX9_locked 5 = .ok (.aload_n 0, 1) := by decide +kernel
theorem dX9_locked_6 : decode cX9_locked 6 = .ok (.iload_n 1, 1) := by decide +kernel
theorem dX9_locked_7 : decode cX9_locked 7 = .ok (.iload_n 2, 1) := by decide +kernel
theorem dX9_locked_8 : decode cX9_locked 8 = .ok (.invokevirtual 257, 3) := by decide +kernel
theorem dX9_locked_11 : decode cX9_locked 11 = .ok (.getfield 275, 3) := by decide +kernel
theorem dX9_locked_14 : decode cX9_locked 14 = .ok (.iload_n 3, 1) := by decide +kernel
theorem dX9_locked_15 : decode cX9_locked 15 = .ok (.invokevirtual 128, 3) := by decide +kernel
theorem dX9_locked_18 : decode cX9_locked 18 = .ok (.ireturn, 1) := by decide +kernel
theorem dX9_goodShare_0 : decode cX9_goodShare 0 = .ok (.aload_n 0, 1) := by decide +kernel
theorem dX9_goodShare_1 : decode cX9_goodShare 1 = .ok (.getfield 19, 3) := by decide +kernel
theorem dX9_goodShare_4 : decode cX9_goodShare 4 = .ok (.invokevirtual 229, 3) := by decide +kernel
theorem dX9_goodShare_7 : decode cX9_goodShare 7 = .ok (.ifCond .eq 14, 3) := by decide +kernel
theorem dX9_goodShare_10 : decode cX9_goodShare 10 = .ok (.new 287, 3) := by decide +kernel
theorem dX9_goodShare_13 : decode cX9_goodShare 13 = .ok (.dup, 1) := by decide +kernel
theorem dX9_goodShare_14 : decode cX9_goodShare 14 = .ok (.ldc_w 289, 3) := by decide +kernel
theorem dX9_goodShare_17 : decode cX9_goodShare 17 = .ok (.invokespecial 291, 3) := by decide +kernel
theorem dX9_goodShare_20 : decode cX9_goodShare 20 = .ok (.athrow, 1) := by decide +kernel
theorem dX9_goodShare_21 : decode cX9_goodShare 21 = .ok (.iconst 0, 1) := by decide +kernel
theorem dX9_goodShare_22 : decode cX9_goodShare 22 = .ok (.istore_n 1, 1) := by decide +kernel
theorem dX9_goodShare_23 : decode cX9_goodShare 23 = .ok (.iconst 0, 1) := by decide +kernel
theorem dX9_goodShare_24 : decode cX9_goodShare 24 = .ok (.istore_n 2, 1) := by decide +kernel
theorem dX9_goodShare_25 : decode cX9_goodShare 25 = .ok (.iload_n 2, 1) := by decide +kernel
theorem dX9_goodShare_26 : decode cX9_goodShare 26 = .ok (.aload_n 0, 1) := by decide +kernel
theorem dX9_goodShare_27 : decode cX9_goodShare 27 = .ok (.getfield 19, 3) := by decide +kernel
theorem dX9_goodShare_30 : decode cX9_goodShare 30 = .ok (.invokevirtual 44, 3) := by decide +kernel
theorem dX9_goodShare_33 : decode cX9_goodShare 33 = .ok (.if_icmp .ge 38, 3) := by decide +kernel
theorem dX9_goodShare_36 : decode cX9_goodShare 36 = .ok (.aload_n 0, 1) := by decide +kernel
theorem dX9_goodShare_37 : decode cX9_goodShare 37 = .ok (.getfield 19, 3) := by decide +kernel
theorem dX9_goodShare_40 : decode cX9_goodShare 40 = .ok (.iload_n 2, 1) := by decide +kernel
theorem dX9_goodShare_41 : decode cX9_goodShare 41 = .ok (.invokevirtual 181, 3) := by decide +kernel
theorem dX9_goodShare_44 : decode cX9_goodShare 44 = .ok (.checkcast 251, 3) := by decide +kernel
theorem dX9_goodShare_47 : decode cX9_goodShare 47 = .ok (.astore_n 3, 1) := by decide +kernel
theorem dX9_goodShare_48 : decode cX9_goodShare 48 = .ok (.aload_n 3, 1) := by decide +kernel
theorem dX9_goodShare_49 : decode cX9_goodShare 49 = .ok (.getfield 265, 3) := by decide +kernel
theorem dX9_goodShare_52 : decode cX9_goodShare 52 = .ok (.ifCond .ne 13, 3) := by decide +kernel
theorem dX9_goodShare_55 : decode cX9_goodShare 55 = .ok (.aload_n 3, 1) := by decide +kernel
theorem dX9_goodShare_56 : decode cX9_goodShare 56 = .ok (.invokevirtual 271, 3) := by decide +kernel
theorem dX9_goodShare_59 : decode cX9_goodShare 59 = .ok (.ifCond .ne 6, 3) := by decide +kernel
theorem dX9_goodShare_62 : decode cX9_goodShare 62 = .ok (.iinc 1 1, 3) := by decide +kernel
theorem dX9_goodShare_65 : decode cX9_goodShare 65 = .ok (.iinc 2 1, 3) := by decide +kernel
theorem dX9_goodShare_68 : decode cX9_goodShare 68 = .ok (.goto (-43), 3) := by decide +kernel
theorem dX9_goodShare_71 : decode cX9_goodShare 71 = .ok (.iload_n 1, 1) := by decide +kernel
theorem dX9_goodShare_72 : decode cX9_goodShare 72 = .ok (.i2f, 1) := by decide +kernel
theorem dX9_goodShare_73 : decode cX9_goodShare 73 = .ok (.aload_n 0, 1) := by decide +kernel
theorem dX9_goodShare_74 : decode cX9_goodShare 74 = .ok (.getfield 19, 3) := by decide +kernel
theorem dX9_goodShare_77 : decode cX9_goodShare 77 = .ok (.invokevirtual 44, 3) := by decide +kernel
theorem dX9_goodShare_80 : decode cX9_goodShare 80 = .ok (.i2f, 1) := by decide +kernel
theorem dX9_goodShare_81 : decode cX9_goodShare 81 = .ok (.fdiv, 1) := by decide +kernel
theorem dX9_goodShare_82 : decode cX9_goodShare 82 = .ok (.freturn, 1) := by decide +kernel
theorem dX9_isWithin_0 : decode cX9_isWithin 0 = .ok (.iload_n 0, 1) := by decide +kernel
theorem dX9_isWithin_1 : decode cX9_isWithin 1 = .ok (.iload_n 1, 1) := by decide +kernel
theorem dX9_isWithin_2 : decode cX9_isWithin 2 = .ok (.if_icmp .lt 12, 3) := by decide +kernel
theorem dX9_isWithin_5 : decode cX9_isWithin 5 = .ok (.iload_n 0, 1) := by decide +kernel
theorem dX9_isWithin_6 : decode cX9_isWithin 6 = .ok (.iload_n 2, 1) := by decide +kernel
theorem dX9_isWithin_7 : decode cX9_isWithin 7 = .ok (.if_icmp .gt 7, 3) := by decide +kernel
theorem dX9_isWithin_10 : decode cX9_isWithin 10 = .ok (.iconst 1, 1) := by decide +kernel
theorem dX9_isWithin_11 : decode cX9_isWithin 11 = .ok (.goto 4, 3) := by decide +kernel
theorem dX9_isWithin_14 : decode cX9_isWithin 14 = .ok (.iconst 0, 1) := by decide +kernel
theorem dX9_isWithin_15 : decode cX9_isWithin 15 = .ok (.ireturn, 1) := by decide +kernel
theorem dX9_isPackageIndex_0 : decode cX9_isPackageIndex 0 = .ok (.iload_n 0, 1) := by decide +kernel
theorem dX9_isPackageIndex_1 : decode cX9_isPackageIndex 1 = .ok (.ifCond .lt 13, 3) := by decide +kernel
theorem dX9_isPackageIndex_4 : decode cX9_isPackageIndex 4 = .ok (.iload_n 0, 1) := by decide +kernel
theorem dX9_isPackageIndex_5 : decode cX9_isPackageIndex 5 = .ok (.bipush 6, 2) := by decide +kernel
theorem dX9_isPackageIndex_7 : decode cX9_isPackageIndex 7 = .ok (.if_icmp .ge 7, 3) := by decide +kernel
theorem dX9_isPackageIndex_10 : decode cX9_isPackageIndex 10 = .ok (.iconst 1, 1) := by decide +kernel
theorem dX9_isPackageIndex_11 : decode cX9_isPackageIndex 11 = .ok (.goto 4, 3) := by decide +kernel
theorem dX9_isPackageIndex_14 : decode cX9_isPackageIndex 14 = .ok (.iconst 0, 1) := by decide +kernel
theorem dX9_isPackageIndex_15 : decode cX9_isPackageIndex 15 = .ok (.ireturn, 1) := by decide +kernel
theorem dX9_isOwner_0 : decode cX9_isOwner 0 = .ok (.iload_n 0, 1) := by decide +kernel
theorem dX9_isOwner_1 : decode cX9_isOwner 1 = .ok (.ifCond .lt 12, 3) := by decide +kernel
theorem dX9_isOwner_4 : decode cX9_isOwner 4 = .ok (.iload_n 0, 1) := by decide +kernel
theorem dX9_isOwner_5 : decode cX9_isOwner 5 = .ok (.iconst 3, 1) := by decide +kernel
theorem dX9_isOwner_6 : decode cX9_isOwner 6 = .ok (.if_icmp .ge 7, 3) := by decide +kernel
theorem dX9_isOwner_9 : decode cX9_isOwner 9 = .ok (.iconst 1, 1) := by decide +kernel
theorem dX9_isOwner_10 : decode cX9_isOwner 10 = .ok (.goto 4, 3) := by decide +kernel
theorem dX9_isOwner_13 : decode cX9_isOwner 13 = .ok (.iconst 0, 1) := by decide +kernel
theorem dX9_isOwner_14 : decode cX9_isOwner 14 = .ok (.ireturn, 1) := by decide +kernel
theorem dX9_checkOwner_0 : decode cX9_checkOwner 0 = .ok (.iload_n 0, 1) := by decide +kernel
theorem dX9_checkOwner_1 : decode cX9_checkOwner 1 = .ok (.invokestatic 300, 3) := by decide +kernel
theorem dX9_checkOwner_4 : decode cX9_checkOwner 4 = .ok (.ifCond .ne 14, 3) := by decide +kernel
theorem dX9_checkOwner_7 : decode cX9_checkOwner 7 = .ok (.new 75, 3) := by decide +kernel
theorem dX9_checkOwner_10 : decode cX9_checkOwner 10 = .ok (.dup, 1) := by decide +kernel
theorem dX9_checkOwner_11 : decode cX9_checkOwner 11 = .ok (.ldc_w 303, 3) := by decide +kernel
theorem dX9_checkOwner_14 : decode cX9_checkOwner 14 = .ok (.invokespecial 79, 3) := by decide +kernel
theorem dX9_checkOwner_17 : decode cX9_checkOwner 17 = .ok (.athrow, 1) := by decide +kernel
theorem dX9_checkOwner_18 : decode cX9_checkOwner 18 = .ok (.return_, 1) := by decide +kernel
theorem dX9_checkPackage_0 : decode cX9_checkPackage 0 = .ok (.iload_n 1, 1) := by decide +kernel
theorem dX9_checkPackage_1 : decode cX9_checkPackage 1 = .ok (.ifCond .lt 14, 3) := by decide +kernel
theorem dX9_checkPackage_4 : decode cX9_checkPackage 4 = .ok (.iload_n 1, 1) := by decide +kernel
theorem dX9_checkPackage_5 : decode cX9_checkPackage 5 = .ok (.aload_n 0, 1) := by decide +kernel
theorem dX9_checkPackage_6 : decode cX9_checkPackage 6 = .ok (.getfield 10, 3) := by decide +kernel
theorem dX9_checkPackage_9 : decode cX9_checkPackage 9 = .ok (.invokevirtual 44, 3) := by decide +kernel
theorem dX9_checkPackage_12 : decode cX9_checkPackage 12 = .ok (.if_icmp .lt 14, 3) := by decide +kernel
theorem dX9_checkPackage_15 : decode cX9_checkPackage 15 = .ok (.new 305, 3) := by decide +kernel
theorem dX9_checkPackage_18 : decode cX9_checkPackage 18 = .ok (.dup, 1) := by decide +kernel
theorem dX9_checkPackage_19 : decode cX9_checkPackage 19 = .ok (.ldc_w 307, 3) := by decide +kernel
theorem dX9_checkPackage_22 : decode cX9_checkPackage 22 = .ok (.invokespecial 309, 3) := by decide +kernel
theorem dX9_checkPackage_25 : decode cX9_checkPackage 25 = .ok (.athrow, 1) := by decide +kernel
theorem dX9_checkPackage_26 : decode cX9_checkPackage 26 = .ok (.return_, 1) := by decide +kernel
theorem dX9_packAt_0 : decode cX9_packAt 0 = .ok (.aload_n 0, 1) := by decide +kernel
theorem dX9_packAt_1 : decode cX9_packAt 1 = .ok (.iload_n 1, 1) := by decide +kernel
theorem dX9_packAt_2 : decode cX9_packAt 2 = .ok (.invokevirtual 92, 3) := by decide +kernel
theorem dX9_packAt_5 : decode cX9_packAt 5 = .ok (.aload_n 0, 1) := by decide +kernel
theorem dX9_packAt_6 : decode cX9_packAt 6 = .ok (.getfield 10, 3) := by decide +kernel
theorem dX9_packAt_9 : decode cX9_packAt 9 = .ok (.iload_n 1, 1) := by decide +kernel
theorem dX9_packAt_10 : decode cX9_packAt 10 = .ok (.invokevirtual 181, 3) := by decide +kernel
theorem dX9_packAt_13 : decode cX9_packAt 13 = .ok (.checkcast 55, 3) := by decide +kernel
theorem dX9_packAt_16 : decode cX9_packAt 16 = .ok (.areturn, 1) := by decide +kernel
theorem dX9_testAt_0 : decode cX9_testAt 0 = .ok (.iload_n 1, 1) := by decide +kernel
theorem dX9_testAt_1 : decode cX9_testAt 1 = .ok (.ifCond .lt 14, 3) := by decide +kernel
theorem dX9_testAt_4 : decode cX9_testAt 4 = .ok (.iload_n 1, 1) := by decide +kernel
theorem dX9_testAt_5 : decode cX9_testAt 5 = .ok (.aload_n 0, 1) := by decide +kernel
theorem dX9_testAt_6 : decode cX9_testAt 6 = .ok (.getfield 16, 3) := by decide +kernel
theorem dX9_testAt_9 : decode cX9_testAt 9 = .ok (.invokevirtual 44, 3) := by decide +kernel
theorem dX9_testAt_12 : decode cX9_testAt 12 = .ok (.if_icmp .lt 14, 3) := by decide +kernel
theorem dX9_testAt_15 : decode cX9_testAt 15 = .ok (.new 305, 3) := by decide +kernel
theorem dX9_testAt_18 : decode cX9_testAt 18 = .ok (.dup, 1) := by decide +kernel
theorem dX9_testAt_19 : decode cX9_testAt 19 = .ok (.ldc_w 310, 3) := by decide +kernel
theorem dX9_testAt_22 : decode cX9_testAt 22 = .ok (.invokespecial 309, 3) := by decide +kernel
theorem dX9_testAt_25 : decode cX9_testAt 25 = .ok (.athrow, 1) := by decide +kernel
theorem dX9_testAt_26 : decode cX9_testAt 26 = .ok (.aload_n 0, 1) := by decide +kernel
theorem dX9_testAt_27 : decode cX9_testAt 27 = .ok (.getfield 16, 3) := by decide +kernel
theorem dX9_testAt_30 : decode cX9_testAt 30 = .ok (.iload_n 1, 1) := by decide +kernel
theorem dX9_testAt_31 : decode cX9_testAt 31 = .ok (.invokevirtual 181, 3) := by decide +kernel
theorem dX9_testAt_34 : decode cX9_testAt 34 = .ok (.checkcast 158, 3) := by decide +kernel
theorem dX9_testAt_37 : decode cX9_testAt 37 = .ok (.areturn, 1) := by decide +kernel
theorem dX9_releaseAt_0 : decode cX9_releaseAt 0 = .ok (.aload_n 0, 1) := by decide +kernel
theorem dX9_releaseAt_1 : decode cX9_releaseAt 1 = .ok (.iload_n 1, 1) := by decide +kernel
theorem dX9_releaseAt_2 : decode cX9_releaseAt 2 = .ok (.invokevirtual 63, 3) := by decide +kernel
theorem dX9_releaseAt_5 : decode cX9_releaseAt 5 = .ok (.iload_n 2, 1) := by decide +kernel
theorem dX9_releaseAt_6 : decode cX9_releaseAt 6 = .ok (.invokevirtual 312, 3) := by decide +kernel
theorem dX9_releaseAt_9 : decode cX9_releaseAt 9 = .ok (.astore_n 3, 1) := by decide +kernel
theorem dX9_releaseAt_10 : decode cX9_releaseAt 10 = .ok (.aload_n 3, 1) := by decide +kernel
theorem dX9_releaseAt_11 : decode cX9_releaseAt 11 = .ok (.ifnonnull 14, 3) := by decide +kernel
theorem dX9_releaseAt_14 : decode cX9_releaseAt 14 = .ok (.new 112, 3) := by decide +kernel
theorem dX9_releaseAt_17 : decode cX9_releaseAt 17 = .ok (.dup, 1) := by decide +kernel
theorem dX9_releaseAt_18 : decode cX9_releaseAt 18 = .ok (.ldc_w 316, 3) := by decide +kernel
theorem dX9_releaseAt_21 : decode cX9_releaseAt 21 = .ok (.invokespecial 116, 3) := by decide +kernel
theorem dX9_releaseAt_24 : decode cX9_releaseAt 24 = .ok (.athrow, 1) := by decide +kernel
theorem dX9_releaseAt_25 : decode cX9_releaseAt 25 = .ok (.aload_n 3, 1) := by decide +kernel
theorem dX9_releaseAt_26 : decode cX9_releaseAt 26 = .ok (.areturn, 1) := by decide +kernel
theorem dX9_checkNotYanked_0 : decode cX9_checkNotYanked 0 = .ok (.aload_n 0, 1) := by decide +kernel
theorem dX9_checkNotYanked_1 : decode cX9_checkNotYanked 1 = .ok (.getfield 265, 3) := by decide +kernel
theorem dX9_checkNotYanked_4 : decode cX9_checkNotYanked 4 = .ok (.ifCond .eq 14, 3) := by decide +kernel
theorem dX9_checkNotYanked_7 : decode cX9_checkNotYanked 7 = .ok (.new 48, 3) := by decide +kernel
theorem dX9_checkNotYanked_10 : decode cX9_checkNotYanked 10 = .ok (.dup, 1) := by decide +kernel
theorem dX9_checkNotYanked_11 : decode cX9_checkNotYanked 11 = .ok (.ldc_w 318, 3) := by decide +kernel
theorem dX9_checkNotYanked_14 : decode cX9_checkNotYanked 14 = .ok (.invokespecial 52, 3) := by decide +kernel
theorem dX9_checkNotYanked_17 : decode cX9_checkNotYanked 17 = .ok (.athrow, 1) := by decide +kernel
theorem dX9_checkNotYanked_18 : decode cX9_checkNotYanked 18 = .ok (.return_, 1) := by decide +kernel
theorem dX9_requireChoice_0 : decode cX9_requireChoice 0 = .ok (.aload_n 0, 1) := by decide +kernel
theorem dX9_requireChoice_1 : decode cX9_requireChoice 1 = .ok (.ifnonnull 14, 3) := by decide +kernel
theorem dX9_requireChoice_4 : decode cX9_requireChoice 4 = .ok (.new 242, 3) := by decide +kernel
theorem dX9_requireChoice_7 : decode cX9_requireChoice 7 = .ok (.dup, 1) := by decide +kernel
theorem dX9_requireChoice_8 : decode cX9_requireChoice 8 = .ok (.ldc_w 320, 3) := by decide +kernel
theorem dX9_requireChoice_11 : decode cX9_requireChoice 11 = .ok (.invokespecial 246, 3) := by decide +kernel
theorem dX9_requireChoice_14 : decode cX9_requireChoice 14 = .ok (.athrow, 1) := by decide +kernel
theorem dX9_requireChoice_15 : decode cX9_requireChoice 15 = .ok (.aload_n 0, 1) := by decide +kernel
theorem dX9_requireChoice_16 : decode cX9_requireChoice 16 = .ok (.areturn, 1) := by decide +kernel
theorem dX9_placeOnFirstFree_0 : decode cX9_placeOnFirstFree 0 = .ok (.iconst 0, 1) := by decide +kernel
theorem dX9_placeOnFirstFree_1 : decode cX9_placeOnFirstFree 1 = .ok (.istore_n 2, 1) := by decide +kernel
theorem dX9_placeOnFirstFree_2 : decode cX9_placeOnFirstFree 2 = .ok (.iconst 1, 1) := by decide +kernel
theorem dX9_placeOnFirstFree_3 : decode cX9_placeOnFirstFree 3 = .ok (.istore_n 3, 1) := by decide +kernel
theorem dX9_placeOnFirstFree_4 : decode cX9_placeOnFirstFree 4 = .ok (.iload_n 3, 1) := by decide +kernel
theorem dX9_placeOnFirstFree_5 : decode cX9_placeOnFirstFree 5 = .ok (.aload_n 0, 1) := by decide +kernel
theorem dX9_placeOnFirstFree_6 : decode cX9_placeOnFirstFree 6 = .ok (.getfield 36, 3) := by decide +kernel
theorem dX9_placeOnFirstFree_9 : decode cX9_placeOnFirstFree 9 = .ok (.if_icmp .ge 35, 3) := by decide +kernel
theorem dX9_placeOnFirstFree_12 : decode cX9_placeOnFirstFree 12 = .ok (.iload_n 3, 1) := by decide +kernel
theorem dX9_placeOnFirstFree_13 : decode cX9_placeOnFirstFree 13 = .ok (.aload_n 0, 1) := by decide +kernel
theorem dX9_placeOnFirstFree_14 : decode cX9_placeOnFirstFree 14 = .ok (.getfield 33, 3) := by decide +kernel
theorem dX9_placeOnFirstFree_17 : decode cX9_placeOnFirstFree 17 = .ok (.arraylength, 1) := by decide +kernel
theorem dX9_placeOnFirstFree_18 : decode cX9_placeOnFirstFree 18 = .ok (.if_icmp .ge 26, 3) := by decide +kernel
theorem dX9_placeOnFirstFree_21 : decode cX9_placeOnFirstFree 21 = .ok (.aload_n 0, 1) := by decide +kernel
theorem dX9_placeOnFirstFree_22 : decode cX9_placeOnFirstFree 22 = .ok (.getfield 33, 3) := by decide +kernel
theorem dX9_placeOnFirstFree_25 : decode cX9_placeOnFirstFree 25 = .ok (.iload_n 3, 1) := by decide +kernel
theorem dX9_placeOnFirstFree_26 : decode cX9_placeOnFirstFree 26 = .ok (.iaload, 1) := by decide +kernel
theorem dX9_placeOnFirstFree_27 : decode cX9_placeOnFirstFree 27 = .ok (.aload_n 0, 1) := by decide +kernel
theorem dX9_placeOnFirstFree_28 : decode cX9_placeOnFirstFree 28 = .ok (.getfield 33, 3) := by decide +kernel
theorem dX9_placeOnFirstFree_31 : decode cX9_placeOnFirstFree 31 = .ok (.iload_n 2, 1) := by decide +kernel
theorem dX9_placeOnFirstFree_32 : decode cX9_placeOnFirstFree 32 = .ok (.iaload, 1) := by decide +kernel
theorem dX9_placeOnFirstFree_33 : decode cX9_placeOnFirstFree 33 = .ok (.if_icmp .ge 5, 3) := by decide +kernel
theorem dX9_placeOnFirstFree_36 : decode cX9_placeOnFirstFree 36 = .ok (.iload_n 3, 1) := by decide +kernel
theorem dX9_placeOnFirstFree_37 : decode cX9_placeOnFirstFree 37 = .ok (.istore_n 2, 1) := by decide +kernel
theorem dX9_placeOnFirstFree_38 : decode cX9_placeOnFirstFree 38 = .ok (.iinc 3 1, 3) := by decide +kernel
theorem dX9_placeOnFirstFree_41 : decode cX9_placeOnFirstFree 41 = .ok (.goto (-37), 3) := by decide +kernel
theorem dX9_placeOnFirstFree_44 : decode cX9_placeOnFirstFree 44 = .ok (.aload_n 0, 1) := by decide +kernel
theorem dX9_placeOnFirstFree_45 : decode cX9_placeOnFirstFree 45 = .ok (.getfield 33, 3) := by decide +kernel
theorem dX9_placeOnFirstFree_48 : decode cX9_placeOnFirstFree 48 = .ok (.iload_n 2, 1) := by decide +kernel
theorem dX9_placeOnFirstFree_49 : decode cX9_placeOnFirstFree 49 = .ok (.dup2, 1) := by decide +kernel
theorem dX9_placeOnFirstFree_50 : decode cX9_placeOnFirstFree 50 = .ok (.iaload, 1) := by decide +kernel
theorem dX9_placeOnFirstFree_51 : decode cX9_placeOnFirstFree 51 = .ok (.iload_n 1, 1) := by decide +kernel
theorem dX9_placeOnFirstFree_52 : decode cX9_placeOnFirstFree 52 = .ok (.iadd, 1) := by decide +kernel
theorem dX9_placeOnFirstFree_53 : decode cX9_placeOnFirstFree 53 = .ok (.iastore, 1) := by decide +kernel
theorem dX9_placeOnFirstFree_54 : decode cX9_placeOnFirstFree 54 = .ok (.aload_n 0, 1) := by decide +kernel
theorem dX9_placeOnFirstFree_55 : decode cX9_placeOnFirstFree 55 = .ok (.getfield 33, 3) := by decide +kernel
theorem dX9_placeOnFirstFree_58 : decode cX9_placeOnFirstFree 58 = .ok (.iload_n 2, 1) := by decide +kernel
theorem dX9_placeOnFirstFree_59 : decode cX9_placeOnFirstFree 59 = .ok (.iaload, 1) := by decide +kernel
theorem dX9_placeOnFirstFree_60 : decode cX9_placeOnFirstFree 60 = .ok (.ireturn, 1) := by decide +kernel
theorem dX9_costOfTests_0 : decode cX9_costOfTests 0 = .ok (.iconst 0, 1) := by decide +kernel
theorem dX9_costOfTests_1 : decode cX9_costOfTests 1 = .ok (.istore_n 2, 1) := by decide +kernel
theorem dX9_costOfTests_2 : decode cX9_costOfTests 2 = .ok (.iconst 0, 1) := by decide +kernel
theorem dX9_costOfTests_3 : decode cX9_costOfTests 3 = .ok (.istore_n 3, 1) := by decide +kernel
theorem dX9_costOfTests_4 : decode cX9_costOfTests 4 = .ok (.iload_n 3, 1) := by decide +kernel
theorem dX9_costOfTests_5 : decode cX9_costOfTests 5 = .ok (.aload_n 0, 1) := by decide +kernel
theorem dX9_costOfTests_6 : decode cX9_costOfTests 6 = .ok (.getfield 16, 3) := by decide +kernel
theorem dX9_costOfTests_9 : decode cX9_costOfTests 9 = .ok (.invokevirtual 44, 3) := by decide +kernel
theorem dX9_costOfTests_12 : decode cX9_costOfTests 12 = .ok (.if_icmp .ge 39, 3) := by decide +kernel
theorem dX9_costOfTests_15 : decode cX9_costOfTests 15 = .ok (.aload_n 0, 1) := by decide +kernel
theorem dX9_costOfTests_16 : decode cX9_costOfTests 16 = .ok (.getfield 16, 3) := by decide +kernel
theorem dX9_costOfTests_19 : decode cX9_costOfTests 19 = .ok (.iload_n 3, 1) := by decide +kernel
theorem dX9_costOfTests_20 : decode cX9_costOfTests 20 = .ok (.invokevirtual 181, 3) := by decide +kernel
theorem dX9_costOfTests_23 : decode cX9_costOfTests 23 = .ok (.checkcast 158, 3) := by decide +kernel
theorem dX9_costOfTests_26 : decode cX9_costOfTests 26 = .ok (.astore 4, 2) := by decide +kernel
theorem dX9_costOfTests_28 : decode cX9_costOfTests 28 = .ok (.aload 4, 2) := by decide +kernel
theorem dX9_costOfTests_30 : decode cX9_costOfTests 30 = .ok (.getfield 185, 3) := by decide +kernel
theorem dX9_costOfTests_33 : decode cX9_costOfTests 33 = .ok (.iload_n 1, 1) := by decide +kernel
theorem dX9_costOfTests_34 : decode cX9_costOfTests 34 = .ok (.if_icmp .ne 11, 3) := by decide +kernel
theorem dX9_costOfTests_37 : decode cX9_costOfTests 37 = .ok (.iload_n 2, 1) := by decide +kernel
theorem dX9_costOfTests_38 : decode cX9_costOfTests 38 = .ok (.aload 4, 2) := by decide +kernel
theorem dX9_costOfTests_40 : decode cX9_costOfTests 40 = .ok (.getfield 188, 3) := by decide +kernel
theorem dX9_costOfTests_43 : decode cX9_costOfTests 43 = .ok (.iadd, 1) := by decide +kernel
theorem dX9_costOfTests_44 : decode cX9_costOfTests 44 = .ok (.istore_n 2, 1) := by decide +kernel
theorem dX9_costOfTests_45 : decode cX9_costOfTests 45 = .ok (.iinc 3 1, 3) := by decide +kernel
theorem dX9_costOfTests_48 : decode cX9_costOfTests 48 = .ok (.goto (-44), 3) := by decide +kernel
theorem dX9_costOfTests_51 : decode cX9_costOfTests 51 = .ok (.iload_n 2, 1) := by decide +kernel
theorem dX9_costOfTests_52 : decode cX9_costOfTests 52 = .ok (.ireturn, 1) := by decide +kernel
theorem dX9_payFrom_0 : decode cX9_payFrom 0 = .ok (.iload_n 1, 1) := by decide +kernel
theorem dX9_payFrom_1 : decode cX9_payFrom 1 = .ok (.invokestatic 300, 3) := by decide +kernel
theorem dX9_payFrom_4 : decode cX9_payFrom 4 = .ok (.ifCond .eq 13, 3) := by decide +kernel
theorem dX9_payFrom_7 : decode cX9_payFrom 7 = .ok (.aload_n 0, 1) := by decide +kernel
theorem dX9_payFrom_8 : decode cX9_payFrom 8 = .ok (.getfield 29, 3) := by decide +kernel
theorem dX9_payFrom_11 : decode cX9_payFrom 11 = .ok (.iload_n 1, 1) := by decide +kernel
theorem dX9_payFrom_12 : decode cX9_payFrom 12 = .ok (.iaload, 1) := by decide +kernel
theorem dX9_payFrom_13 : decode cX9_payFrom 13 = .ok (.iload_n 2, 1) := by decide +kernel
theorem dX9_payFrom_14 : decode cX9_payFrom 14 = .ok (.if_icmp .ge 5, 3) := by decide +kernel
theorem dX9_payFrom_17 : decode cX9_payFrom 17 = .ok (.iconst 0, 1) := by decide +kernel
theorem dX9_payFrom_18 : decode cX9_payFrom 18 = .ok (.ireturn, 1) := by decide +kernel
theorem dX9_payFrom_19 : decode cX9_payFrom 19 = .ok (.aload_n 0, 1) := by decide +kernel
theorem dX9_payFrom_20 : decode cX9_payFrom 20 = .ok (.getfield 29, 3) := by decide +kernel
theorem dX9_payFrom_23 : decode cX9_payFrom 23 = .ok (.iload_n 1, 1) := by decide +kernel
theorem dX9_payFrom_24 : decode cX9_payFrom 24 = .ok (.dup2, 1) := by decide +kernel
theorem dX9_payFrom_25 : decode cX9_payFrom 25 = .ok (.iaload, 1) := by decide +kernel
theorem dX9_payFrom_26 : decode cX9_payFrom 26 = .ok (.iload_n 2, 1) := by decide +kernel
theorem dX9_payFrom_27 : decode cX9_payFrom 27 = .ok (.isub, 1) := by decide +kernel
theorem dX9_payFrom_28 : decode cX9_payFrom 28 = .ok (.iastore, 1) := by decide +kernel
theorem dX9_payFrom_29 : decode cX9_payFrom 29 = .ok (.aload_n 0, 1) := by decide +kernel
theorem dX9_payFrom_30 : decode cX9_payFrom 30 = .ok (.dup, 1) := by decide +kernel
theorem dX9_payFrom_31 : decode cX9_payFrom 31 = .ok (.getfield 297, 3) := by decide +kernel
theorem dX9_payFrom_34 : decode cX9_payFrom 34 = .ok (.iload_n 2, 1) := by decide +kernel
theorem dX9_payFrom_35 : decode cX9_payFrom 35 = .ok (.iadd, 1) := by decide +kernel
theorem dX9_payFrom_36 : decode cX9_payFrom 36 = .ok (.putfield 297, 3) := by decide +kernel
theorem dX9_payFrom_39 : decode cX9_payFrom 39 = .ok (.iconst 1, 1) := by decide +kernel
theorem dX9_payFrom_40 : decode cX9_payFrom 40 = .ok (.ireturn, 1) := by decide +kernel
theorem dX9_runTests_0 : decode cX9_runTests 0 = .ok (.aload_n 0, 1) := by decide +kernel
theorem dX9_runTests_1 : decode cX9_runTests 1 = .ok (.dup, 1) := by decide +kernel
theorem dX9_runTests_2 : decode cX9_runTests 2 = .ok (.getfield 292, 3) := by decide +kernel
theorem dX9_runTests_5 : decode cX9_runTests 5 = .ok (.iconst 1, 1) := by decide +kernel
theorem dX9_runTests_6 : decode cX9_runTests 6 = .ok (.iadd, 1) := by decide +kernel
theorem dX9_runTests_7 : decode cX9_runTests 7 = .ok (.putfield 292, 3) := by decide +kernel
theorem dX9_runTests_10 : decode cX9_runTests 10 = .ok (.iconst 0, 1) := by decide +kernel
theorem dX9_runTests_11 : decode cX9_runTests 11 = .ok (.istore_n 2, 1) := by decide +kernel
theorem dX9_runTests_12 : decode cX9_runTests 12 = .ok (.iconst 0, 1) := by decide +kernel
theorem dX9_runTests_13 : decode cX9_runTests 13 = .ok (.istore_n 3, 1) := by decide +kernel
theorem dX9_runTests_14 : decode cX9_runTests 14 = .ok (.iload_n 3, 1) := by decide +kernel
theorem dX9_runTests_15 : decode cX9_runTests 15 = .ok (.aload_n 0, 1) := by decide +kernel
theorem dX9_runTests_16 : decode cX9_runTests 16 = .ok (.getfield 16, 3) := by decide +kernel
theorem dX9_runTests_19 : decode cX9_runTests 19 = .ok (.invokevirtual 44, 3) := by decide +kernel
theorem dX9_runTests_22 : decode cX9_runTests 22 = .ok (.if_icmp .ge 57, 3) := by decide +kernel
theorem dX9_runTests_25 : decode cX9_runTests 25 = .ok (.aload_n 0, 1) := by decide +kernel
theorem dX9_runTests_26 : decode cX9_runTests 26 = .ok (.getfield 16, 3) := by decide +kernel
theorem dX9_runTests_29 : decode cX9_runTests 29 = .ok (.iload_n 3, 1) := by decide +kernel
theorem dX9_runTests_30 : decode cX9_runTests 30 = .ok (.invokevirtual 181, 3) := by decide +kernel
theorem dX9_runTests_33 : decode cX9_runTests 33 = .ok (.checkcast 158, 3) := by decide +kernel
theorem dX9_runTests_36 : decode cX9_runTests 36 = .ok (.astore 4, 2) := by decide +kernel
theorem dX9_runTests_38 : decode cX9_runTests 38 = .ok (.aload 4, 2) := by decide +kernel
theorem dX9_runTests_40 : decode cX9_runTests 40 = .ok (.getfield 185, 3) := by decide +kernel
theorem dX9_runTests_43 : decode cX9_runTests 43 = .ok (.iload_n 1, 1) := by decide +kernel
theorem dX9_runTests_44 : decode cX9_runTests 44 = .ok (.if_icmp .ne 29, 3) := by decide +kernel
theorem dX9_runTests_47 : decode cX9_runTests 47 = .ok (.aload 4, 2) := by decide +kernel
theorem dX9_runTests_49 : decode cX9_runTests 49 = .ok (.aload 4, 2) := by decide +kernel
theorem dX9_runTests_51 : decode cX9_runTests 51 = .ok (.getfield 167, 3) := by decide +kernel
theorem dX9_runTests_54 : decode cX9_runTests 54 = .ok (.invokevirtual 322, 3) := by decide +kernel
theorem dX9_runTests_57 : decode cX9_runTests 57 = .ok (.iload_n 2, 1) := by decide +kernel
theorem dX9_runTests_58 : decode cX9_runTests 58 = .ok (.aload 4, 2) := by decide +kernel
theorem dX9_runTests_60 : decode cX9_runTests 60 = .ok (.getfield 167, 3) := by decide +kernel
theorem dX9_runTests_63 : decode cX9_runTests 63 = .ok (.ifCond .eq 7, 3) := by decide +kernel
theorem dX9_runTests_66 : decode cX9_runTests 66 = .ok (.iconst 1, 1) := by decide +kernel
theorem dX9_runTests_67 : decode cX9_runTests 67 = .ok (.goto 4, 3) := by decide +kernel
theorem dX9_runTests_70 : decode cX9_runTests 70 = .ok (.iconst 0, 1) := by decide +kernel
theorem dX9_runTests_71 : decode cX9_runTests 71 = .ok (.iadd, 1) := by decide +kernel
theorem dX9_runTests_72 : decode cX9_runTests 72 = .ok (.istore_n 2, 1) := by decide +kernel
theorem dX9_runTests_73 : decode cX9_runTests 73 = .ok (.iinc 3 1, 3) := by decide +kernel
theorem dX9_runTests_76 : decode cX9_runTests 76 = .ok (.goto (-62), 3) := by decide +kernel
theorem dX9_runTests_79 : decode cX9_runTests 79 = .ok (.iload_n 2, 1) := by decide +kernel
theorem dX9_runTests_80 : decode cX9_runTests 80 = .ok (.ireturn, 1) := by decide +kernel
theorem dX9_countStale_0 : decode cX9_countStale 0 = .ok (.iconst 0, 1) := by decide +kernel
theorem dX9_countStale_1 : decode cX9_countStale 1 = .ok (.istore_n 1, 1) := by decide +kernel
theorem dX9_countStale_2 : decode cX9_countStale 2 = .ok (.iconst 0, 1) := by decide +kernel
theorem dX9_countStale_3 : decode cX9_countStale 3 = .ok (.istore_n 2, 1) := by decide +kernel
theorem dX9_countStale_4 : decode cX9_countStale 4 = .ok (.iload_n 2, 1) := by decide +kernel
theorem dX9_countStale_5 : decode cX9_countStale 5 = .ok (.aload_n 0, 1) := by decide +kernel
theorem dX9_countStale_6 : decode cX9_countStale 6 = .ok (.getfield 19, 3) := by decide +kernel
theorem dX9_countStale_9 : decode cX9_countStale 9 = .ok (.invokevirtual 44, 3) := by decide +kernel
theorem dX9_countStale_12 : decode cX9_countStale 12 = .ok (.if_icmp .ge 34, 3) := by decide +kernel
theorem dX9_countStale_15 : decode cX9_countStale 15 = .ok (.iload_n 1, 1) := by decide +kernel
theorem dX9_countStale_16 : decode cX9_countStale 16 = .ok (.aload_n 0, 1) := by decide +kernel
theorem dX9_countStale_17 : decode cX9_countStale 17 = .ok (.getfield 19, 3) := by decide +kernel
theorem dX9_countStale_20 : decode cX9_countStale 20 = .ok (.iload_n 2, 1) := by decide +kernel
theorem dX9_countStale_21 : decode cX9_countStale 21 = .ok (.invokevirtual 181, 3) := by decide +kernel
theorem dX9_countStale_24 : decode cX9_countStale 24 = .ok (.checkcast 251, 3) := by decide +kernel
theorem dX9_countStale_27 : decode cX9_countStale 27 = .ok (.invokevirtual 271, 3) := by decide +kernel
theorem dX9_countStale_30 : decode cX9_countStale 30 = .ok (.ifCond .eq 7, 3) := by decide +kernel
theorem dX9_countStale_33 : decode cX9_countStale 33 = .ok (.iconst 1, 1) := by decide +kernel
theorem dX9_countStale_34 : decode cX9_countStale 34 = .ok (.goto 4, 3) := by decide +kernel
theorem dX9_countStale_37 : decode cX9_countStale 37 = .ok (.iconst 0, 1) := by decide +kernel
theorem dX9_countStale_38 : decode cX9_countStale 38 = .ok (.iadd, 1) := by decide +kernel
theorem dX9_countStale_39 : decode cX9_countStale 39 = .ok (.istore_n 1, 1) := by decide +kernel
theorem dX9_countStale_40 : decode cX9_countStale 40 = .ok (.iinc 2 1, 3) := by decide +kernel
theorem dX9_countStale_43 : decode cX9_countStale 43 = .ok (.goto (-39), 3) := by decide +kernel
theorem dX9_countStale_46 : decode cX9_countStale 46 = .ok (.iload_n 1, 1) := by decide +kernel
theorem dX9_countStale_47 : decode cX9_countStale 47 = .ok (.ireturn, 1) := by decide +kernel
theorem dJx00060_init_a7421_0 : decode cJx00060_init_a7421 0 = .ok (.aload_n 0, 1) := by decide +kernel
theorem dJx00060_init_a7421_1 : decode cJx00060_init_a7421 1 = .ok (.aload_n 1, 1) := by decide +kernel
theorem dJx00060_init_a7421_2 : decode cJx00060_init_a7421 2 = .ok (.invokespecial 7, 3) := by decide +kernel
theorem dJx00060_init_a7421_5 : decode cJx00060_init_a7421 5 = .ok (.return_, 1) := by decide +kernel
theorem dJxf58ca_isNaN_12338_0 : decode cJxf58ca_isNaN_12338 0 = .ok (.fload_n 0, 1) := by decide +kernel
theorem dJxf58ca_isNaN_12338_1 : decode cJxf58ca_isNaN_12338 1 = .ok (.fload_n 0, 1) := by decide +kernel
theorem dJxf58ca_isNaN_12338_2 : decode cJxf58ca_isNaN_12338 2 = .ok (.fcmp .l, 1) := by decide +kernel
theorem dJxf58ca_isNaN_12338_3 : decode cJxf58ca_isNaN_12338 3 = .ok (.ifCond .eq 7, 3) := by decide +kernel
theorem dJxf58ca_isNaN_12338_6 : decode cJxf58ca_isNaN_12338 6 = .ok (.iconst 1, 1) := by decide +kernel
theorem dJxf58ca_isNaN_12338_7 : decode cJxf58ca_isNaN_12338 7 = .ok (.goto 4, 3) := by decide +kernel
theorem dJxf58ca_isNaN_12338_10 : decode cJxf58ca_isNaN_12338 10 = .ok (.iconst 0, 1) := by decide +kernel
theorem dJxf58ca_isNaN_12338_11 : decode cJxf58ca_isNaN_12338 11 = .ok (.ireturn, 1) := by decide +kernel
theorem dJxf58ca_floatToIntBits_5c35a_0 : decode cJxf58ca_floatToIntBits_5c35a 0 = .ok (.fload_n 0, 1) := by decide +kernel
theorem dJxf58ca_floatToIntBits_5c35a_1 : decode cJxf58ca_floatToIntBits_5c35a 1 = .ok (.invokestatic 59, 3) := by decide +kernel
theorem dJxf58ca_floatToIntBits_5c35a_4 : decode cJxf58ca_floatToIntBits_5c35a 4 = .ok (.ifCond .ne 8, 3) := by decide +kernel
theorem dJxf58ca_floatToIntBits_5c35a_7 : decode cJxf58ca_floatToIntBits_5c35a 7 = .ok (.fload_n 0, 1) := by decide +kernel
theorem dJxf58ca_floatToIntBits_5c35a_8 : decode cJxf58ca_floatToIntBits_5c35a 8 = .ok (.invokestatic 74, 3) := by decide +kernel
theorem dJxf58ca_floatToIntBits_5c35a_11 : decode cJxf58ca_floatToIntBits_5c35a 11 = .ok (.ireturn, 1) := by decide +kernel
theorem dJxf58ca_floatToIntBits_5c35a_12 : decode cJxf58ca_floatToIntBits_5c35a 12 = .ok (.ldc 77, 2) := by decide +kernel
theorem dJxf58ca_floatToIntBits_5c35a_14 : decode cJxf58ca_floatToIntBits_5c35a 14 = .ok (.ireturn, 1) := by decide +kernel
theorem dJ9_max_7cf53_0 : decode cJ9_max_7cf53 0 = .ok (.iload_n 0, 1) := by decide +kernel
theorem dJ9_max_7cf53_1 : decode cJ9_max_7cf53 1 = .ok (.iload_n 1, 1) := by decide +kernel
theorem dJ9_max_7cf53_2 : decode cJ9_max_7cf53 2 = .ok (.if_icmp .lt 7, 3) := by decide +kernel
theorem dJ9_max_7cf53_5 : decode cJ9_max_7cf53 5 = .ok (.iload_n 0, 1) := by decide +kernel
theorem dJ9_max_7cf53_6 : decode cJ9_max_7cf53 6 = .ok (.goto 4, 3) := by decide +kernel
theorem dJ9_max_7cf53_9 : decode cJ9_max_7cf53 9 = .ok (.iload_n 1, 1) := by decide +kernel
theorem dJ9_max_7cf53_10 : decode cJ9_max_7cf53 10 = .ok (.ireturn, 1) := by decide +kernel
theorem dJ9_min_7cf53_0 : decode cJ9_min_7cf53 0 = .ok (.iload_n 0, 1) := by decide +kernel
theorem dJ9_min_7cf53_1 : decode cJ9_min_7cf53 1 = .ok (.iload_n 1, 1) := by decide +kernel
theorem dJ9_min_7cf53_2 : decode cJ9_min_7cf53 2 = .ok (.if_icmp .gt 7, 3) := by decide +kernel
theorem dJ9_min_7cf53_5 : decode cJ9_min_7cf53 5 = .ok (.iload_n 0, 1) := by decide +kernel
theorem dJ9_min_7cf53_6 : decode cJ9_min_7cf53 6 = .ok (.goto 4, 3) := by decide +kernel
theorem dJ9_min_7cf53_9 : decode cJ9_min_7cf53 9 = .ok (.iload_n 1, 1) := by decide +kernel
theorem dJ9_min_7cf53_10 : decode cJ9_min_7cf53 10 = .ok (.ireturn, 1) := by decide +kernel
theorem dJxa1e45_init_da8c8_0 : decode cJxa1e45_init_da8c8 0 = .ok (.aload_n 0, 1) := by decide +kernel
theorem dJxa1e45_init_da8c8_1 : decode cJxa1e45_init_da8c8 1 = .ok (.invokespecial 1, 3) := by decide +kernel
theorem dJxa1e45_init_da8c8_4 : decode cJxa1e45_init_da8c8 4 = .ok (.return_, 1) := by decide +kernel
theorem dJxc12de_init_da8c8_0 : decode cJxc12de_init_da8c8 0 = .ok (.aload_n 0, 1) := by decide +kernel
theorem dJxc12de_init_da8c8_1 : decode cJxc12de_init_da8c8 1 = .ok (.invokespecial 1, 3) := by decide +kernel
theorem dJxc12de_init_da8c8_4 : decode cJxc12de_init_da8c8 4 = .ok (.aload_n 0, 1) := by decide +kernel
theorem dJxc12de_init_da8c8_5 : decode cJxc12de_init_da8c8 5 = .ok (.iconst 0, 1) := by decide +kernel
theorem dJxc12de_init_da8c8_6 : decode cJxc12de_init_da8c8 6 = .ok (.putfield 7, 3) := by decide +kernel
theorem dJxc12de_init_da8c8_9 : decode cJxc12de_init_da8c8 9 = .ok (.return_, 1) := by decide +kernel
theorem dJx4a65c_init_da8c8_0 : decode cJx4a65c_init_da8c8 0 = .ok (.aload_n 0, 1) := by decide +kernel
theorem dJx4a65c_init_da8c8_1 : decode cJx4a65c_init_da8c8 1 = .ok (.invokespecial 1, 3) := by decide +kernel
theorem dJx4a65c_init_da8c8_4 : decode cJx4a65c_init_da8c8 4 = .ok (.aload_n 0, 1) := by decide +kernel
theorem dJx4a65c_init_da8c8_5 : decode cJx4a65c_init_da8c8 5 = .ok (.getstatic 39, 3) := by decide +kernel
theorem dJx4a65c_init_da8c8_8 : decode cJx4a65c_init_da8c8 8 = .ok (.putfield 9, 3) := by decide +kernel
theorem dJx4a65c_init_da8c8_11 : decode cJx4a65c_init_da8c8 11 = .ok (.return_, 1) := by decide +kernel
theorem dJx4a65c_grow_92f84_0 : decode cJx4a65c_grow_92f84 0 = .ok (.aload_n 0, 1) := by decide +kernel
theorem dJx4a65c_grow_92f84_1 : decode cJx4a65c_grow_92f84 1 = .ok (.getfield 9, 3) := by decide +kernel
theorem dJx4a65c_grow_92f84_4 : decode cJx4a65c_grow_92f84 4 = .ok (.arraylength, 1) := by decide +kernel
theorem dJx4a65c_grow_92f84_5 : decode cJx4a65c_grow_92f84 5 = .ok (.istore_n 2, 1) := by decide +kernel
theorem dJx4a65c_grow_92f84_6 : decode cJx4a65c_grow_92f84 6 = .ok (.iload_n 2, 1) := by decide +kernel
theorem dJx4a65c_grow_92f84_7 : decode cJx4a65c_grow_92f84 7 = .ok (.ifCond .gt 13, 3) := by decide +kernel
theorem dJx4a65c_grow_92f84_10 : decode cJx4a65c_grow_92f84 10 = .ok (.aload_n 0, 1) := by decide +kernel
theorem dJx4a65c_grow_92f84_11 : decode cJx4a65c_grow_92f84 11 = .ok (.getfield 9, 3) := by decide +kernel
theorem dJx4a65c_grow_92f84_14 : decode cJx4a65c_grow_92f84 14 = .ok (.getstatic 39, 3) := by decide +kernel
theorem dJx4a65c_grow_92f84_17 : decode cJx4a65c_grow_92f84 17 = .ok (.if_acmp .eq 28, 3) := by decide +kernel
theorem dJx4a65c_grow_92f84_20 : decode cJx4a65c_grow_92f84 20 = .ok (.iload_n 2, 1) := by decide +kernel
theorem dJx4a65c_grow_92f84_21 : decode cJx4a65c_grow_92f84 21 = .ok (.iload_n 1, 1) := by decide +kernel
theorem dJx4a65c_grow_92f84_22 : decode cJx4a65c_grow_92f84 22 = .ok (.iload_n 2, 1) := by decide +kernel
theorem dJx4a65c_grow_92f84_23 : decode cJx4a65c_grow_92f84 23 = .ok (.isub, 1) := by decide +kernel
theorem dJx4a65c_grow_92f84_24 : decode cJx4a65c_grow_92f84 24 = .ok (.iload_n 2, 1) := by decide +kernel
theorem dJx4a65c_grow_92f84_25 : decode cJx4a65c_grow_92f84 25 = .ok (.iconst 1, 1) := by decide +kernel
theorem dJx4a65c_grow_92f84_26 : decode cJx4a65c_grow_92f84 26 = .ok (.ishr, 1) := by decide +kernel
theorem dJx4a65c_grow_92f84_27 : decode cJx4a65c_grow_92f84 27 = .ok (.invokestatic 73, 3) := by decide +kernel
theorem dJx4a65c_grow_92f84_30 : decode cJx4a65c_grow_92f84 30 = .ok (.istore_n 3, 1) := by decide +kernel
theorem dJx4a65c_grow_92f84_31 : decode cJx4a65c_grow_92f84 31 = .ok (.aload_n 0, 1) := by decide +kernel
theorem dJx4a65c_grow_92f84_32 : decode cJx4a65c_grow_92f84 32 = .ok (.aload_n 0, 1) := by decide +kernel
theorem dJx4a65c_grow_92f84_33 : decode cJx4a65c_grow_92f84 33 = .ok (.getfield 9, 3) := by decide +kernel
theorem dJx4a65c_grow_92f84_36 : decode cJx4a65c_grow_92f84 36 = .ok (.iload_n 3, 1) := by decide +kernel
theorem dJx4a65c_grow_92f84_37 : decode cJx4a65c_grow_92f84 37 = .ok (.invokestatic 66, 3) := by decide +kernel
theorem dJx4a65c_grow_92f84_40 : decode cJx4a65c_grow_92f84 40 = .ok (.dup_x1, 1) := by decide +kernel
theorem dJx4a65c_grow_92f84_41 : decode cJx4a65c_grow_92f84 41 = .ok (.putfield 9, 3) := by decide +kernel
theorem dJx4a65c_grow_92f84_44 : decode cJx4a65c_grow_92f84 44 = .ok (.areturn, 1) := by decide +kernel
theorem dJx4a65c_grow_92f84_45 : decode cJx4a65c_grow_92f84 45 = .ok (.aload_n 0, 1) := by decide +kernel
theorem dJx4a65c_grow_92f84_46 : decode cJx4a65c_grow_92f84 46 = .ok (.bipush 10, 2) := by decide +kernel
theorem dJx4a65c_grow_92f84_48 : decode cJx4a65c_grow_92f84 48 = .ok (.iload_n 1, 1) := by decide +kernel
theorem dJx4a65c_grow_92f84_49 : decode cJx4a65c_grow_92f84 49 = .ok (.invokestatic 79, 3) := by decide +kernel
theorem dJx4a65c_grow_92f84_52 : decode cJx4a65c_grow_92f84 52 = .ok (.anewarray 7, 3) := by decide +kernel
theorem dJx4a65c_grow_92f84_55 : decode cJx4a65c_grow_92f84 55 = .ok (.dup_x1, 1) := by decide +kernel
theorem dJx4a65c_grow_92f84_56 : decode cJx4a65c_grow_92f84 56 = .ok (.putfield 9, 3) := by decide +kernel
theorem dJx4a65c_grow_92f84_59 : decode cJx4a65c_grow_92f84 59 = .ok (.areturn, 1) := by decide +kernel
theorem dJx4a65c_grow_d5877_0 : decode cJx4a65c_grow_d5877 0 = .ok (.aload_n 0, 1) := by decide +kernel
theorem dJx4a65c_grow_d5877_1 : decode cJx4a65c_grow_d5877 1 = .ok (.aload_n 0, 1) := by decide +kernel
theorem dJx4a65c_grow_d5877_2 : decode cJx4a65c_grow_d5877 2 = .ok (.getfield 48, 3) := by decide +kernel
theorem dJx4a65c_grow_d5877_5 : decode cJx4a65c_grow_d5877 5 = .ok (.iconst 1, 1) := by decide +kernel
theorem dJx4a65c_grow_d5877_6 : decode cJx4a65c_grow_d5877 6 = .ok (.iadd, 1) := by decide +kernel
theorem dJx4a65c_grow_d5877_7 : decode cJx4a65c_grow_d5877 7 = .ok (.invokevirtual 69, 3) := by decide +kernel
theorem dJx4a65c_grow_d5877_10 : decode cJx4a65c_grow_d5877 10 = .ok (.areturn, 1) := by decide +kernel
theorem dJx4a65c_size_8abf5_0 : decode cJx4a65c_size_8abf5 0 = .ok (.aload_n 0, 1) := by decide +kernel
theorem dJx4a65c_size_8abf5_1 : decode cJx4a65c_size_8abf5 1 = .ok (.getfield 48, 3) := by decide +kernel
theorem dJx4a65c_size_8abf5_4 : decode cJx4a65c_size_8abf5 4 = .ok (.ireturn, 1) := by decide +kernel
theorem dJx4a65c_isEmpty_aae02_0 : decode cJx4a65c_isEmpty_aae02 0 = .ok (.aload_n 0, 1) := by decide +kernel
theorem dJx4a65c_isEmpty_aae02_1 : decode cJx4a65c_isEmpty_aae02 1 = .ok (.getfield 48, 3) := by decide +kernel
theorem dJx4a65c_isEmpty_aae02_4 : decode cJx4a65c_isEmpty_aae02 4 = .ok (.ifCond .ne 7, 3) := by decide +kernel
theorem dJx4a65c_isEmpty_aae02_7 : decode cJx4a65c_isEmpty_aae02 7 = .ok (.iconst 1, 1) := by decide +kernel
theorem dJx4a65c_isEmpty_aae02_8 : decode cJx4a65c_isEmpty_aae02 8 = .ok (.goto 4, 3) := by decide +kernel
theorem dJx4a65c_isEmpty_aae02_11 : decode cJx4a65c_isEmpty_aae02 11 = .ok (.iconst 0, 1) := by decide +kernel
theorem dJx4a65c_isEmpty_aae02_12 : decode cJx4a65c_isEmpty_aae02 12 = .ok (.ireturn, 1) := by decide +kernel
theorem dJx4a65c_elementData_915e3_0 : decode cJx4a65c_elementData_915e3 0 = .ok (.aload_n 0, 1) := by decide +kernel
theorem dJx4a65c_elementData_915e3_1 : decode cJx4a65c_elementData_915e3 1 = .ok (.getfield 9, 3) := by decide +kernel
theorem dJx4a65c_elementData_915e3_4 : decode cJx4a65c_elementData_915e3 4 = .ok (.iload_n 1, 1) := by decide +kernel
theorem dJx4a65c_elementData_915e3_5 : decode cJx4a65c_elementData_915e3 5 = .ok (.aaload, 1) := by decide +kernel
theorem dJx4a65c_elementData_915e3_6 : decode cJx4a65c_elementData_915e3 6 = .ok (.areturn, 1) := by decide +kernel
theorem dJx4a65c_get_915e3_0 : decode cJx4a65c_get_915e3 0 = .ok (.iload_n 1, 1) := by decide +kernel
theorem dJx4a65c_get_915e3_1 : decode cJx4a65c_get_915e3 1 = .ok (.aload_n 0, 1) := by decide +kernel
theorem dJx4a65c_get_915e3_2 : decode cJx4a65c_get_915e3 2 = .ok (.getfield 48, 3) := by decide +kernel
theorem dJx4a65c_get_915e3_5 : decode cJx4a65c_get_915e3 5 = .ok (.invokestatic 118, 3) := by decide +kernel
theorem dJx4a65c_get_915e3_8 : decode cJx4a65c_get_915e3 8 = .ok (.pop, 1) := by decide +kernel
theorem dJx4a65c_get_915e3_9 : decode cJx4a65c_get_915e3 9 = .ok (.aload_n 0, 1) := by decide +kernel
theorem dJx4a65c_get_915e3_10 : decode cJx4a65c_get_915e3 10 = .ok (.iload_n 1, 1) := by decide +kernel
theorem dJx4a65c_get_915e3_11 : decode cJx4a65c_get_915e3 11 = .ok (.invokevirtual 123, 3) := by decide +kernel
theorem dJx4a65c_get_915e3_14 : decode cJx4a65c_get_915e3 14 = .ok (.areturn, 1) := by decide +kernel
theorem dJx4a65c_add_72be8_0 : decode cJx4a65c_add_72be8 0 = .ok (.iload_n 3, 1) := by decide +kernel
theorem dJx4a65c_add_72be8_1 : decode cJx4a65c_add_72be8 1 = .ok (.aload_n 2, 1) := by decide +kernel
theorem dJx4a65c_add_72be8_2 : decode cJx4a65c_add_72be8 2 = .ok (.arraylength, 1) := by decide +kernel
theorem dJx4a65c_add_72be8_3 : decode cJx4a65c_add_72be8 3 = .ok (.if_icmp .ne 8, 3) := by decide +kernel
theorem dJx4a65c_add_72be8_6 : decode cJx4a65c_add_72be8 6 = .ok (.aload_n 0, 1) := by decide +kernel
theorem dJx4a65c_add_72be8_7 : decode cJx4a65c_add_72be8 7 = .ok (.invokevirtual 129, 3) := by decide +kernel
theorem dJx4a65c_add_72be8_10 : decode cJx4a65c_add_72be8 10 = .ok (.astore_n 2, 1) := by decide +kernel
theorem dJx4a65c_add_72be8_11 : decode cJx4a65c_add_72be8 11 = .ok (.aload_n 2, 1) := by decide +kernel
theorem dJx4a65c_add_72be8_12 : decode cJx4a65c_add_72be8 12 = .ok (.iload_n 3, 1) := by decide +kernel
theorem dJx4a65c_add_72be8_13 : decode cJx4a65c_add_72be8 13 = .ok (.aload_n 1, 1) := by decide +kernel
theorem dJx4a65c_add_72be8_14 : decode cJx4a65c_add_72be8 14 = .ok (.aastore, 1) := by decide +kernel
theorem dJx4a65c_add_72be8_15 : decode cJx4a65c_add_72be8 15 = .ok (.aload_n 0, 1) := by decide +kernel
theorem dJx4a65c_add_72be8_16 : decode cJx4a65c_add_72be8 16 = .ok (.iload_n 3, 1) := by decide +kernel
theorem dJx4a65c_add_72be8_17 : decode cJx4a65c_add_72be8 17 = .ok (.iconst 1, 1) := by decide +kernel
theorem dJx4a65c_add_72be8_18 : decode cJx4a65c_add_72be8 18 = .ok (.iadd, 1) := by decide +kernel
theorem dJx4a65c_add_72be8_19 : decode cJx4a65c_add_72be8 19 = .ok (.putfield 48, 3) := by decide +kernel
theorem dJx4a65c_add_72be8_22 : decode cJx4a65c_add_72be8 22 = .ok (.return_, 1) := by decide +kernel
theorem dJx4a65c_add_9ea2d_0 : decode cJx4a65c_add_9ea2d 0 = .ok (.aload_n 0, 1) := by decide +kernel
theorem dJx4a65c_add_9ea2d_1 : decode cJx4a65c_add_9ea2d 1 = .ok (.dup, 1) := by decide +kernel
theorem dJx4a65c_add_9ea2d_2 : decode cJx4a65c_add_9ea2d 2 = .ok (.getfield 63, 3) := by decide +kernel
theorem dJx4a65c_add_9ea2d_5 : decode cJx4a65c_add_9ea2d 5 = .ok (.iconst 1, 1) := by decide +kernel
theorem dJx4a65c_add_9ea2d_6 : decode cJx4a65c_add_9ea2d 6 = .ok (.iadd, 1) := by decide +kernel
theorem dJx4a65c_add_9ea2d_7 : decode cJx4a65c_add_9ea2d 7 = .ok (.putfield 63, 3) := by decide +kernel
theorem dJx4a65c_add_9ea2d_10 : decode cJx4a65c_add_9ea2d 10 = .ok (.aload_n 0, 1) := by decide +kernel
theorem dJx4a65c_add_9ea2d_11 : decode cJx4a65c_add_9ea2d 11 = .ok (.aload_n 1, 1) := by decide +kernel
theorem dJx4a65c_add_9ea2d_12 : decode cJx4a65c_add_9ea2d 12 = .ok (.aload_n 0, 1) := by decide +kernel
theorem dJx4a65c_add_9ea2d_13 : decode cJx4a65c_add_9ea2d 13 = .ok (.getfield 9, 3) := by decide +kernel
theorem dJx4a65c_add_9ea2d_16 : decode cJx4a65c_add_9ea2d 16 = .ok (.aload_n 0, 1) := by decide +kernel
theorem dJx4a65c_add_9ea2d_17 : decode cJx4a65c_add_9ea2d 17 = .ok (.getfield 48, 3) := by decide +kernel
theorem dJx4a65c_add_9ea2d_20 : decode cJx4a65c_add_9ea2d 20 = .ok (.invokevirtual 131, 3) := by decide +kernel
theorem dJx4a65c_add_9ea2d_23 : decode cJx4a65c_add_9ea2d 23 = .ok (.iconst 1, 1) := by decide +kernel
theorem dJx4a65c_add_9ea2d_24 : decode cJx4a65c_add_9ea2d 24 = .ok (.ireturn, 1) := by decide +kernel
theorem dJ7_fill_53178_0 : decode cJ7_fill_53178 0 = .ok (.iconst 0, 1) := by decide +kernel
theorem dJ7_fill_53178_1 : decode cJ7_fill_53178 1 = .ok (.istore_n 2, 1) := by decide +kernel
theorem dJ7_fill_53178_2 : decode cJ7_fill_53178 2 = .ok (.aload_n 0, 1) := by decide +kernel
theorem dJ7_fill_53178_3 : decode cJ7_fill_53178 3 = .ok (.arraylength, 1) := by decide +kernel
theorem dJ7_fill_53178_4 : decode cJ7_fill_53178 4 = .ok (.istore_n 3, 1) := by decide +kernel
theorem dJ7_fill_53178_5 : decode cJ7_fill_53178 5 = .ok (.iload_n 2, 1) := by decide +kernel
theorem dJ7_fill_53178_6 : decode cJ7_fill_53178 6 = .ok (.iload_n 3, 1) := by decide +kernel
theorem dJ7_fill_53178_7 : decode cJ7_fill_53178 7 = .ok (.if_icmp .ge 13, 3) := by decide +kernel
theorem dJ7_fill_53178_10 : decode cJ7_fill_53178 10 = .ok (.aload_n 0, 1) := by decide +kernel
theorem dJ7_fill_53178_11 : decode cJ7_fill_53178 11 = .ok (.iload_n 2, 1) := by decide +kernel
theorem dJ7_fill_53178_12 : decode cJ7_fill_53178 12 = .ok (.iload_n 1, 1) := by decide +kernel
theorem dJ7_fill_53178_13 : decode cJ7_fill_53178 13 = .ok (.iastore, 1) := by decide +kernel
theorem dJ7_fill_53178_14 : decode cJ7_fill_53178 14 = .ok (.iinc 2 1, 3) := by decide +kernel
theorem dJ7_fill_53178_17 : decode cJ7_fill_53178 17 = .ok (.goto (-12), 3) := by decide +kernel
theorem dJ7_fill_53178_20 : decode cJ7_fill_53178 20 = .ok (.return_, 1) := by decide +kernel
theorem dJ7_copyOf_1904c_0 : decode cJ7_copyOf_1904c 0 = .ok (.aload_n 0, 1) := by decide +kernel
theorem dJ7_copyOf_1904c_1 : decode cJ7_copyOf_1904c 1 = .ok (.iload_n 1, 1) := by decide +kernel
theorem dJ7_copyOf_1904c_2 : decode cJ7_copyOf_1904c 2 = .ok (.aload_n 0, 1) := by decide +kernel
theorem dJ7_copyOf_1904c_3 : decode cJ7_copyOf_1904c 3 = .ok (.invokevirtual 86, 3) := by decide +kernel
theorem dJ7_copyOf_1904c_6 : decode cJ7_copyOf_1904c 6 = .ok (.invokestatic 300, 3) := by decide +kernel
theorem dJ7_copyOf_1904c_9 : decode cJ7_copyOf_1904c 9 = .ok (.areturn, 1) := by decide +kernel
theorem dJ7_copyOf_6403c_0 : decode cJ7_copyOf_6403c 0 = .ok (.aload_n 2, 1) := by decide +kernel
theorem dJ7_copyOf_6403c_1 : decode cJ7_copyOf_6403c 1 = .ok (.ldc 110, 2) := by decide +kernel
theorem dJ7_copyOf_6403c_3 : decode cJ7_copyOf_6403c 3 = .ok (.if_acmp .ne 10, 3) := by decide +kernel
theorem dJ7_copyOf_6403c_6 : decode cJ7_copyOf_6403c 6 = .ok (.iload_n 1, 1) := by decide +kernel
theorem dJ7_copyOf_6403c_7 : decode cJ7_copyOf_6403c 7 = .ok (.anewarray 2, 3) := by decide +kernel
theorem dJ7_copyOf_6403c_10 : decode cJ7_copyOf_6403c 10 = .ok (.goto 14, 3) := by decide +kernel
theorem dJ7_copyOf_6403c_13 : decode cJ7_copyOf_6403c 13 = .ok (.aload_n 2, 1) := by decide +kernel
theorem dJ7_copyOf_6403c_14 : decode cJ7_copyOf_6403c 14 = .ok (.invokevirtual 90, 3) := by decide +kernel
theorem dJ7_copyOf_6403c_17 : decode cJ7_copyOf_6403c 17 = .ok (.iload_n 1, 1) := by decide +kernel
theorem dJ7_copyOf_6403c_18 : decode cJ7_copyOf_6403c 18 = .ok (.invokestatic 95, 3) := by decide +kernel
theorem dJ7_copyOf_6403c_21 : decode cJ7_copyOf_6403c 21 = .ok (.checkcast 110, 3) := by decide +kernel
theorem dJ7_copyOf_6403c_24 : decode cJ7_copyOf_6403c 24 = .ok (.astore_n 3, 1) := by decide +kernel
theorem dJ7_copyOf_6403c_25 : decode cJ7_copyOf_6403c 25 = .ok (.aload_n 0, 1) := by decide +kernel
theorem dJ7_copyOf_6403c_26 : decode cJ7_copyOf_6403c 26 = .ok (.iconst 0, 1) := by decide +kernel
theorem dJ7_copyOf_6403c_27 : decode cJ7_copyOf_6403c 27 = .ok (.aload_n 3, 1) := by decide +kernel
theorem dJ7_copyOf_6403c_28 : decode cJ7_copyOf_6403c 28 = .ok (.iconst 0, 1) := by decide +kernel
theorem dJ7_copyOf_6403c_29 : decode cJ7_copyOf_6403c 29 = .ok (.aload_n 0, 1) := by decide +kernel
theorem dJ7_copyOf_6403c_30 : decode cJ7_copyOf_6403c 30 = .ok (.arraylength, 1) := by decide +kernel
theorem dJ7_copyOf_6403c_31 : decode cJ7_copyOf_6403c 31 = .ok (.iload_n 1, 1) := by decide +kernel
theorem dJ7_copyOf_6403c_32 : decode cJ7_copyOf_6403c 32 = .ok (.invokestatic 304, 3) := by decide +kernel
theorem dJ7_copyOf_6403c_35 : decode cJ7_copyOf_6403c 35 = .ok (.invokestatic 150, 3) := by decide +kernel
theorem dJ7_copyOf_6403c_38 : decode cJ7_copyOf_6403c 38 = .ok (.aload_n 3, 1) := by decide +kernel
theorem dJ7_copyOf_6403c_39 : decode cJ7_copyOf_6403c 39 = .ok (.areturn, 1) := by decide +kernel
theorem dJ15_checkIndex_7cf53_0 : decode cJ15_checkIndex_7cf53 0 = .ok (.iload_n 0, 1) := by decide +kernel
theorem dJ15_checkIndex_7cf53_1 : decode cJ15_checkIndex_7cf53 1 = .ok (.iload_n 1, 1) := by decide +kernel
theorem dJ15_checkIndex_7cf53_2 : decode cJ15_checkIndex_7cf53 2 = .ok (.aconst_null, 1) := by decide +kernel
theorem dJ15_checkIndex_7cf53_3 : decode cJ15_checkIndex_7cf53 3 = .ok (.invokestatic 105, 3) := by decide +kernel
theorem dJ15_checkIndex_7cf53_6 : decode cJ15_checkIndex_7cf53 6 = .ok (.ireturn, 1) := by decide +kernel
theorem dJ8_newLength_cabcc_0 : decode cJ8_newLength_cabcc 0 = .ok (.iload_n 0, 1) := by decide +kernel
theorem dJ8_newLength_cabcc_1 : decode cJ8_newLength_cabcc 1 = .ok (.iload_n 1, 1) := by decide +kernel
theorem dJ8_newLength_cabcc_2 : decode cJ8_newLength_cabcc 2 = .ok (.iload_n 2, 1) := by decide +kernel
theorem dJ8_newLength_cabcc_3 : decode cJ8_newLength_cabcc 3 = .ok (.invokestatic 194, 3) := by decide +kernel
theorem dJ8_newLength_cabcc_6 : decode cJ8_newLength_cabcc 6 = .ok (.iadd, 1) := by decide +kernel
theorem dJ8_newLength_cabcc_7 : decode cJ8_newLength_cabcc 7 = .ok (.istore_n 3, 1) := by decide +kernel
theorem dJ8_newLength_cabcc_8 : decode cJ8_newLength_cabcc 8 = .ok (.iconst 0, 1) := by decide +kernel
theorem dJ8_newLength_cabcc_9 : decode cJ8_newLength_cabcc 9 = .ok (.iload_n 3, 1) := by decide +kernel
theorem dJ8_newLength_cabcc_10 : decode cJ8_newLength_cabcc 10 = .ok (.if_icmp .ge 11, 3) := by decide +kernel
theorem dJ8_newLength_cabcc_13 : decode cJ8_newLength_cabcc 13 = .ok (.iload_n 3, 1) := by decide +kernel
theorem dJ8_newLength_cabcc_14 : decode cJ8_newLength_cabcc 14 = .ok (.ldc 200, 2) := by decide +kernel
theorem dJ8_newLength_cabcc_16 : decode cJ8_newLength_cabcc 16 = .ok (.if_icmp .gt 5, 3) := by decide +kernel
theorem dJ8_newLength_cabcc_19 : decode cJ8_newLength_cabcc 19 = .ok (.iload_n 3, 1) := by decide +kernel
theorem dJ8_newLength_cabcc_20 : decode cJ8_newLength_cabcc 20 = .ok (.ireturn, 1) := by decide +kernel
theorem dJ8_newLength_cabcc_21 : decode cJ8_newLength_cabcc 21 = .ok (.iload_n 0, 1) := by decide +kernel
theorem dJ8_newLength_cabcc_22 : decode cJ8_newLength_cabcc 22 = .ok (.iload_n 1, 1) := by decide +kernel
theorem dJ8_newLength_cabcc_23 : decode cJ8_newLength_cabcc 23 = .ok (.invokestatic 201, 3) := by decide +kernel
theorem dJ8_newLength_cabcc_26 : decode cJ8_newLength_cabcc 26 = .ok (.ireturn, 1) := by decide +kernel
theorem dJ8_hugeLength_7cf53_0 : decode cJ8_hugeLength_7cf53 0 = .ok (.iload_n 0, 1) := by decide +kernel
theorem dJ8_hugeLength_7cf53_1 : decode cJ8_hugeLength_7cf53 1 = .ok (.iload_n 1, 1) := by decide +kernel
theorem dJ8_hugeLength_7cf53_2 : decode cJ8_hugeLength_7cf53 2 = .ok (.iadd, 1) := by decide +kernel
theorem dJ8_hugeLength_7cf53_3 : decode cJ8_hugeLength_7cf53 3 = .ok (.istore_n 2, 1) := by decide +kernel
theorem dJ8_hugeLength_7cf53_4 : decode cJ8_hugeLength_7cf53 4 = .ok (.iload_n 2, 1) := by decide +kernel
theorem dJ8_hugeLength_7cf53_5 : decode cJ8_hugeLength_7cf53 5 = .ok (.ifCond .ge 44, 3) := by decide +kernel
theorem dJ8_hugeLength_7cf53_8 : decode cJ8_hugeLength_7cf53 8 = .ok (.new 204, 3) := by decide +kernel
theorem dJ8_hugeLength_7cf53_11 : decode cJ8_hugeLength_7cf53 11 = .ok (.dup, 1) := by decide +kernel
theorem dJ8_hugeLength_7cf53_12 : decode cJ8_hugeLength_7cf53 12 = .ok (.new 89, 3) := by decide +kernel
theorem dJ8_hugeLength_7cf53_15 : decode cJ8_hugeLength_7cf53 15 = .ok (.dup, 1) := by decide +kernel
theorem dJ8_hugeLength_7cf53_16 : decode cJ8_hugeLength_7cf53 16 = .ok (.invokespecial 91, 3) := by decide +kernel
theorem dJ8_hugeLength_7cf53_19 : decode cJ8_hugeLength_7cf53 19 = .ok (.ldc 206, 2) := by decide +kernel
theorem dJ8_hugeLength_7cf53_21 : decode cJ8_hugeLength_7cf53 21 = .ok (.invokevirtual 94, 3) := by decide +kernel
theorem dJ8_hugeLength_7cf53_24 : decode cJ8_hugeLength_7cf53 24 = .ok (.iload_n 0, 1) := by decide +kernel
theorem dJ8_hugeLength_7cf53_25 : decode cJ8_hugeLength_7cf53 25 = .ok (.invokevirtual 98, 3) := by decide +kernel
theorem dJ8_hugeLength_7cf53_28 : decode cJ8_hugeLength_7cf53 28 = .ok (.ldc 208, 2) := by decide +kernel
theorem dJ8_hugeLength_7cf53_30 : decode cJ8_hugeLength_7cf53 30 = .ok (.invokevirtual 94, 3) := by decide +kernel
theorem dJ8_hugeLength_7cf53_33 : decode cJ8_hugeLength_7cf53 33 = .ok (.iload_n 1, 1) := by decide +kernel
theorem dJ8_hugeLength_7cf53_34 : decode cJ8_hugeLength_7cf53 34 = .ok (.invokevirtual 98, 3) := by decide +kernel
theorem dJ8_hugeLength_7cf53_37 : decode cJ8_hugeLength_7cf53 37 = .ok (.ldc 210, 2) := by decide +kernel
theorem dJ8_hugeLength_7cf53_39 : decode cJ8_hugeLength_7cf53 39 = .ok (.invokevirtual 94, 3) := by decide +kernel
theorem dJ8_hugeLength_7cf53_42 : decode cJ8_hugeLength_7cf53 42 = .ok (.invokevirtual 101, 3) := by decide +kernel
theorem dJ8_hugeLength_7cf53_45 : decode cJ8_hugeLength_7cf53 45 = .ok (.invokespecial 212, 3) := by decide +kernel
theorem dJ8_hugeLength_7cf53_48 : decode cJ8_hugeLength_7cf53 48 = .ok (.athrow, 1) := by decide +kernel
theorem dJ8_hugeLength_7cf53_49 : decode cJ8_hugeLength_7cf53 49 = .ok (.iload_n 2, 1) := by decide +kernel
theorem dJ8_hugeLength_7cf53_50 : decode cJ8_hugeLength_7cf53 50 = .ok (.ldc 200, 2) := by decide +kernel
theorem dJ8_hugeLength_7cf53_52 : decode cJ8_hugeLength_7cf53 52 = .ok (.if_icmp .gt 6, 3) := by decide +kernel
theorem dJ8_hugeLength_7cf53_55 : decode cJ8_hugeLength_7cf53 55 = .ok (.ldc 200, 2) := by decide +kernel
theorem dJ8_hugeLength_7cf53_57 : decode cJ8_hugeLength_7cf53 57 = .ok (.ireturn, 1) := by decide +kernel
theorem dJ8_hugeLength_7cf53_58 : decode cJ8_hugeLength_7cf53 58 = .ok (.iload_n 2, 1) := by decide +kernel
theorem dJ8_hugeLength_7cf53_59 : decode cJ8_hugeLength_7cf53 59 = .ok (.ireturn, 1) := by decide +kernel
theorem dJ3_checkIndex_8e157_0 : decode cJ3_checkIndex_8e157 0 = .ok (.iload_n 0, 1) := by decide +kernel
theorem dJ3_checkIndex_8e157_1 : decode cJ3_checkIndex_8e157 1 = .ok (.ifCond .lt 8, 3) := by decide +kernel
theorem dJ3_checkIndex_8e157_4 : decode cJ3_checkIndex_8e157 4 = .ok (.iload_n 0, 1) := by decide +kernel
theorem dJ3_checkIndex_8e157_5 : decode cJ3_checkIndex_8e157 5 = .ok (.iload_n 1, 1) := by decide +kernel
theorem dJ3_checkIndex_8e157_6 : decode cJ3_checkIndex_8e157 6 = .ok (.if_icmp .lt 10, 3) := by decide +kernel
theorem dJ3_checkIndex_8e157_9 : decode cJ3_checkIndex_8e157 9 = .ok (.aload_n 2, 1) := by decide +kernel
theorem dJ3_checkIndex_8e157_10 : decode cJ3_checkIndex_8e157 10 = .ok (.iload_n 0, 1) := by decide +kernel
theorem dJ3_checkIndex_8e157_11 : decode cJ3_checkIndex_8e157 11 = .ok (.iload_n 1, 1) := by decide +kernel
theorem dJ3_checkIndex_8e157_12 : decode cJ3_checkIndex_8e157 12 = .ok (.invokestatic 95, 3) := by decide +kernel
theorem dJ3_checkIndex_8e157_15 : decode cJ3_checkIndex_8e157 15 = .ok (.athrow, 1) := by decide +kernel
theorem dJ3_checkIndex_8e157_16 : decode cJ3_checkIndex_8e157 16 = .ok (.iload_n 0, 1) := by decide +kernel
theorem dJ3_checkIndex_8e157_17 : decode cJ3_checkIndex_8e157 17 = .ok (.ireturn, 1) := by decide +kernel
theorem dL_at_0 : decode cL_at 0 = .ok (.iload_n 1, 1) := by decide +kernel
theorem dL_at_1 : decode cL_at 1 = .ok (.aload_n 0, 1) := by decide +kernel
theorem dL_at_2 : decode cL_at 2 = .ok (.arraylength, 1) := by decide +kernel
theorem dL_at_3 : decode cL_at 3 = .ok (.if_icmp .ge 9, 3) := by decide +kernel
theorem dL_at_6 : decode cL_at 6 = .ok (.aload_n 0, 1) := by decide +kernel
theorem dL_at_7 : decode cL_at 7 = .ok (.iload_n 1, 1) := by decide +kernel
theorem dL_at_8 : decode cL_at 8 = .ok (.iaload, 1) := by decide +kernel
theorem dL_at_9 : decode cL_at 9 = .ok (.goto 4, 3) := by decide +kernel
theorem dL_at_12 : decode cL_at 12 = .ok (.iconst 0, 1) := by decide +kernel
theorem dL_at_13 : decode cL_at 13 = .ok (.ireturn, 1) := by decide +kernel
theorem dL_some_0 : decode cL_some 0 = .ok (.iload_n 0, 1) := by decide +kernel
theorem dL_some_1 : decode cL_some 1 = .ok (.iload_n 1, 1) := by decide +kernel
theorem dL_some_2 : decode cL_some 2 = .ok (.irem, 1) := by decide +kernel
theorem dL_some_3 : decode cL_some 3 = .ok (.istore_n 2, 1) := by decide +kernel
theorem dL_some_4 : decode cL_some 4 = .ok (.iload_n 2, 1) := by decide +kernel
theorem dL_some_5 : decode cL_some 5 = .ok (.ifCond .ge 9, 3) := by decide +kernel
theorem dL_some_8 : decode cL_some 8 = .ok (.iload_n 2, 1) := by decide +kernel
theorem dL_some_9 : decode cL_some 9 = .ok (.iload_n 1, 1) := by decide +kernel
theorem dL_some_10 : decode cL_some 10 = .ok (.iadd, 1) := by decide +kernel
theorem dL_some_11 : decode cL_some 11 = .ok (.goto 4, 3) := by decide +kernel
theorem dL_some_14 : decode cL_some 14 = .ok (.iload_n 2, 1) := by decide +kernel
theorem dL_some_15 : decode cL_some 15 = .ok (.ireturn, 1) := by decide +kernel
theorem dL_pack_0 : decode cL_pack 0 = .ok (.aload_n 0, 1) := by decide +kernel
theorem dL_pack_1 : decode cL_pack 1 = .ok (.iload_n 1, 1) := by decide +kernel
theorem dL_pack_2 : decode cL_pack 2 = .ok (.invokevirtual 7, 3) := by decide +kernel
theorem dL_pack_5 : decode cL_pack 5 = .ok (.ireturn, 1) := by decide +kernel
theorem dL_pack_6 : decode cL_pack 6 = .ok (.astore_n 2, 1) := by decide +kernel
theorem dL_pack_7 : decode cL_pack 7 = .ok (.sipush (-1001), 3) := by decide +kernel
theorem dL_pack_10 : decode cL_pack 10 = .ok (.ireturn, 1) := by decide +kernel
theorem dL_pack_11 : decode cL_pack 11 = .ok (.astore_n 2, 1) := by decide +kernel
theorem dL_pack_12 : decode cL_pack 12 = .ok (.sipush (-1002), 3) := by decide +kernel
theorem dL_pack_15 : decode cL_pack 15 = .ok (.ireturn, 1) := by decide +kernel
theorem dL_source_0 : decode cL_source 0 = .ok (.aload_n 0, 1) := by decide +kernel
theorem dL_source_1 : decode cL_source 1 = .ok (.iload_n 1, 1) := by decide +kernel
theorem dL_source_2 : decode cL_source 2 = .ok (.iload_n 2, 1) := by decide +kernel
theorem dL_source_3 : decode cL_source 3 = .ok (.iload_n 3, 1) := by decide +kernel
theorem dL_source_4 : decode cL_source 4 = .ok (.invokevirtual 17, 3) := by decide +kernel
theorem dL_source_7 : decode cL_source 7 = .ok (.ireturn, 1) := by decide +kernel
theorem dL_source_8 : decode cL_source 8 = .ok (.astore 4, 2) := by decide +kernel
theorem dL_source_10 : decode cL_source 10 = .ok (.sipush (-1001), 3) := by decide +kernel
theorem dL_source_13 : decode cL_source 13 = .ok (.ireturn, 1) := by decide +kernel
theorem dL_source_14 : decode cL_source 14 = .ok (.astore 4, 2) := by decide +kernel
theorem dL_source_16 : decode cL_source 16 = .ok (.sipush (-1002), 3) := by decide +kernel
theorem dL_source_19 : decode cL_source 19 = .ok (.ireturn, 1) := by decide +kernel
theorem dL_need_0 : decode cL_need 0 = .ok (.iload_n 3, 1) := by decide +kernel
theorem dL_need_1 : decode cL_need 1 = .ok (.iconst (-1), 1) := by decide +kernel
theorem dL_need_2 : decode cL_need 2 = .ok (.if_icmp .ne 12, 3) := by decide +kernel
theorem dL_need_5 : decode cL_need 5 = .ok (.aload_n 0, 1) := by decide +kernel
theorem dL_need_6 : decode cL_need 6 = .ok (.iload_n 1, 1) := by decide +kernel
theorem dL_need_7 : decode cL_need 7 = .ok (.iload_n 2, 1) := by decide +kernel
theorem dL_need_8 : decode cL_need 8 = .ok (.invokevirtual 23, 3) := by decide +kernel
theorem dL_need_11 : decode cL_need 11 = .ok (.goto 12, 3) := by decide +kernel
theorem dL_need_14 : decode cL_need 14 = .ok (.aload_n 0, 1) := by decide +kernel
theorem dL_need_15 : decode cL_need 15 = .ok (.iload_n 1, 1) := by decide +kernel
theorem dL_need_16 : decode cL_need 16 = .ok (.iload_n 2, 1) := by decide +kernel
theorem dL_need_17 : decode cL_need 17 = .ok (.iload_n 3, 1) := by decide +kernel
theorem dL_need_18 : decode cL_need 18 = .ok (.iload 4, 2) := by decide +kernel
theorem dL_need_20 : decode cL_need 20 = .ok (.invokevirtual 27, 3) := by decide +kernel
theorem dL_need_23 : decode cL_need 23 = .ok (.ireturn, 1) := by decide +kernel
theorem dL_need_24 : decode cL_need 24 = .ok (.astore 5, 2) := by decide +kernel
theorem dL_need_26 : decode cL_need 26 = .ok (.sipush (-1001), 3) := by decide +kernel
theorem dL_need_29 : decode cL_need 29 = .ok (.ireturn, 1) := by decide +kernel
theorem dL_need_30 : decode cL_need 30 = .ok (.astore 5, 2) := by decide +kernel
theorem dL_need_32 : decode cL_need 32 = .ok (.sipush (-1002), 3) := by decide +kernel
theorem dL_need_35 : decode cL_need 35 = .ok (.ireturn, 1) := by decide +kernel
theorem dL_need_36 : decode cL_need 36 = .ok (.astore 5, 2) := by decide +kernel
theorem dL_need_38 : decode cL_need 38 = .ok (.sipush (-1002), 3) := by decide +kernel
theorem dL_need_41 : decode cL_need 41 = .ok (.ireturn, 1) := by decide +kernel
theorem dL_chosen_0 : decode cL_chosen 0 = .ok (.iload_n 3, 1) := by decide +kernel
theorem dL_chosen_1 : decode cL_chosen 1 = .ok (.ifCond .eq 12, 3) := by decide +kernel
theorem dL_chosen_4 : decode cL_chosen 4 = .ok (.aload_n 0, 1) := by decide +kernel
theorem dL_chosen_5 : decode cL_chosen 5 = .ok (.iload_n 1, 1) := by decide +kernel
theorem dL_chosen_6 : decode cL_chosen 6 = .ok (.iload_n 2, 1) := by decide +kernel
theorem dL_chosen_7 : decode cL_chosen 7 = .ok (.invokevirtual 33, 3) := by decide +kernel
theorem dL_chosen_10 : decode cL_chosen 10 = .ok (.goto 9, 3) := by decide +kernel
theorem dL_chosen_13 : decode cL_chosen 13 = .ok (.aload_n 0, 1) := by decide +kernel
theorem dL_chosen_14 : decode cL_chosen 14 = .ok (.iload_n 1, 1) := by decide +kernel
theorem dL_chosen_15 : decode cL_chosen 15 = .ok (.iload_n 2, 1) := by decide +kernel
theorem dL_chosen_16 : decode cL_chosen 16 = .ok (.invokevirtual 36, 3) := by decide +kernel
theorem dL_chosen_19 : decode cL_chosen 19 = .ok (.ireturn, 1) := by decide +kernel
theorem dL_chosen_20 : decode cL_chosen 20 = .ok (.astore 4, 2) := by decide +kernel
theorem dL_chosen_22 : decode cL_chosen 22 = .ok (.sipush (-1001), 3) := by decide +kernel
theorem dL_chosen_25 : decode cL_chosen 25 = .ok (.ireturn, 1) := by decide +kernel
theorem dL_chosen_26 : decode cL_chosen 26 = .ok (.astore 4, 2) := by decide +kernel
theorem dL_chosen_28 : decode cL_chosen 28 = .ok (.sipush (-1002), 3) := by decide +kernel
theorem dL_chosen_31 : decode cL_chosen 31 = .ok (.ireturn, 1) := by decide +kernel
theorem dL_addTest_0 : decode cL_addTest 0 = .ok (.aload_n 0, 1) := by decide +kernel
theorem dL_addTest_1 : decode cL_addTest 1 = .ok (.iload_n 1, 1) := by decide +kernel
theorem dL_addTest_2 : decode cL_addTest 2 = .ok (.iload_n 2, 1) := by decide +kernel
theorem dL_addTest_3 : decode cL_addTest 3 = .ok (.invokevirtual 41, 3) := by decide +kernel
theorem dL_addTest_6 : decode cL_addTest 6 = .ok (.ireturn, 1) := by decide +kernel
theorem dL_addTest_7 : decode cL_addTest 7 = .ok (.astore_n 3, 1) := by decide +kernel
theorem dL_addTest_8 : decode cL_addTest 8 = .ok (.sipush (-1001), 3) := by decide +kernel
theorem dL_addTest_11 : decode cL_addTest 11 = .ok (.ireturn, 1) := by decide +kernel
theorem dL_addTest_12 : decode cL_addTest 12 = .ok (.astore_n 3, 1) := by decide +kernel
theorem dL_addTest_13 : decode cL_addTest 13 = .ok (.sipush (-1002), 3) := by decide +kernel
theorem dL_addTest_16 : decode cL_addTest 16 = .ok (.ireturn, 1) := by decide +kernel
theorem dL_addTest_17 : decode cL_addTest 17 = .ok (.astore_n 3, 1) := by decide +kernel
theorem dL_addTest_18 : decode cL_addTest 18 = .ok (.sipush (-1003), 3) := by decide +kernel
theorem dL_addTest_21 : decode cL_addTest 21 = .ok (.ireturn, 1) := by decide +kernel
theorem dL_of_0 : decode cL_of 0 = .ok (.iload_n 2, 1) := by decide +kernel
theorem dL_of_1 : decode cL_of 1 = .ok (.tableswitch 81 0 4 #[35, 49, 55, 61, 75], 35) := by decide +kernel
theorem dL_of_36 : decode cL_of 36 = .ok (.aload_n 0, 1) := by decide +kernel
theorem dL_of_37 : decode cL_of 37 = .ok (.iload_n 1, 1) := by decide +kernel
theorem dL_of_38 : decode cL_of 38 = .ok (.invokevirtual 44, 3) := by decide +kernel
theorem dL_of_41 : decode cL_of 41 = .ok (.ifCond .eq 7, 3) := by decide +kernel
theorem dL_of_44 : decode cL_of 44 = .ok (.iconst 1, 1) := by decide +kernel
theorem dL_of_45 : decode cL_of 45 = .ok (.goto 4, 3) := by decide +kernel
theorem dL_of_48 : decode cL_of 48 = .ok (.iconst 0, 1) := by decide +kernel
theorem dL_of_49 : decode cL_of 49 = .ok (.ireturn, 1) := by decide +kernel
theorem dL_of_50 : decode cL_of 50 = .ok (.aload_n 0, 1) := by decide +kernel
theorem dL_of_51 : decode cL_of 51 = .ok (.iload_n 1, 1) := by decide +kernel
theorem dL_of_52 : decode cL_of 52 = .ok (.invokevirtual 48, 3) := by decide +kernel
theorem dL_of_55 : decode cL_of 55 = .ok (.ireturn, 1) := by decide +kernel
theorem dL_of_56 : decode cL_of 56 = .ok (.aload_n 0, 1) := by decide +kernel
theorem dL_of_57 : decode cL_of 57 = .ok (.iload_n 1, 1) := by decide +kernel
theorem dL_of_58 : decode cL_of 58 = .ok (.invokevirtual 51, 3) := by decide +kernel
theorem dL_of_61 : decode cL_of 61 = .ok (.ireturn, 1) := by decide +kernel
theorem dL_of_62 : decode cL_of 62 = .ok (.aload_n 0, 1) := by decide +kernel
theorem dL_of_63 : decode cL_of 63 = .ok (.iload_n 1, 1) := by decide +kernel
theorem dL_of_64 : decode cL_of 64 = .ok (.invokevirtual 54, 3) := by decide +kernel
theorem dL_of_67 : decode cL_of 67 = .ok (.ifCond .eq 7, 3) := by decide +kernel
theorem dL_of_70 : decode cL_of 70 = .ok (.iconst 1, 1) := by decide +kernel
theorem dL_of_71 : decode cL_of 71 = .ok (.goto 4, 3) := by decide +kernel
theorem dL_of_74 : decode cL_of 74 = .ok (.iconst 0, 1) := by decide +kernel
theorem dL_of_75 : decode cL_of 75 = .ok (.ireturn, 1) := by decide +kernel
theorem dL_of_76 : decode cL_of 76 = .ok (.aload_n 0, 1) := by decide +kernel
theorem dL_of_77 : decode cL_of 77 = .ok (.iload_n 1, 1) := by decide +kernel
theorem dL_of_78 : decode cL_of 78 = .ok (.invokevirtual 57, 3) := by decide +kernel
theorem dL_of_81 : decode cL_of 81 = .ok (.ireturn, 1) := by decide +kernel
theorem dL_of_82 : decode cL_of 82 = .ok (.aload_n 0, 1) := by decide +kernel
theorem dL_of_83 : decode cL_of 83 = .ok (.iload_n 1, 1) := by decide +kernel
theorem dL_of_84 : decode cL_of 84 = .ok (.invokevirtual 60, 3) := by decide +kernel
theorem dL_of_87 : decode cL_of 87 = .ok (.ireturn, 1) := by decide +kernel
theorem dL_of_88 : decode cL_of 88 = .ok (.astore_n 3, 1) := by decide +kernel
theorem dL_of_89 : decode cL_of 89 = .ok (.sipush (-1001), 3) := by decide +kernel
theorem dL_of_92 : decode cL_of 92 = .ok (.ireturn, 1) := by decide +kernel
theorem dL_of_93 : decode cL_of 93 = .ok (.astore_n 3, 1) := by decide +kernel
theorem dL_of_94 : decode cL_of 94 = .ok (.sipush (-1003), 3) := by decide +kernel
theorem dL_of_97 : decode cL_of 97 = .ok (.ireturn, 1) := by decide +kernel
theorem dL_of_98 : decode cL_of 98 = .ok (.astore_n 3, 1) := by decide +kernel
theorem dL_of_99 : decode cL_of 99 = .ok (.sipush (-1002), 3) := by decide +kernel
theorem dL_of_102 : decode cL_of 102 = .ok (.ireturn, 1) := by decide +kernel
theorem dL_tests_0 : decode cL_tests 0 = .ok (.iload_n 2, 1) := by decide +kernel
theorem dL_tests_1 : decode cL_tests 1 = .ok (.ifCond .ne 11, 3) := by decide +kernel
theorem dL_tests_4 : decode cL_tests 4 = .ok (.aload_n 0, 1) := by decide +kernel
theorem dL_tests_5 : decode cL_tests 5 = .ok (.iload_n 1, 1) := by decide +kernel
theorem dL_tests_6 : decode cL_tests 6 = .ok (.invokevirtual 63, 3) := by decide +kernel
theorem dL_tests_9 : decode cL_tests 9 = .ok (.goto 26, 3) := by decide +kernel
theorem dL_tests_12 : decode cL_tests 12 = .ok (.aload_n 0, 1) := by decide +kernel
theorem dL_tests_13 : decode cL_tests 13 = .ok (.iload_n 1, 1) := by decide +kernel
theorem dL_tests_14 : decode cL_tests 14 = .ok (.iload_n 2, 1) := by decide +kernel
theorem dL_tests_15 : decode cL_tests 15 = .ok (.iconst 1, 1) := by decide +kernel
theorem dL_tests_16 : decode cL_tests 16 = .ok (.if_icmp .ne 7, 3) := by decide +kernel
theorem dL_tests_19 : decode cL_tests 19 = .ok (.iconst 1, 1) := by decide +kernel
theorem dL_tests_20 : decode cL_tests 20 = .ok (.goto 4, 3) := by decide +kernel
theorem dL_tests_23 : decode cL_tests 23 = .ok (.iconst 0, 1) := by decide +kernel
theorem dL_tests_24 : decode cL_tests 24 = .ok (.invokevirtual 66, 3) := by decide +kernel
theorem dL_tests_27 : decode cL_tests 27 = .ok (.ifCond .eq 7, 3) := by decide +kernel
theorem dL_tests_30 : decode cL_tests 30 = .ok (.iconst 1, 1) := by decide +kernel
theorem dL_tests_31 : decode cL_tests 31 = .ok (.goto 4, 3) := by decide +kernel
theorem dL_tests_34 : decode cL_tests 34 = .ok (.iconst 0, 1) := by decide +kernel
theorem dL_tests_35 : decode cL_tests 35 = .ok (.ireturn, 1) := by decide +kernel
theorem dL_tests_36 : decode cL_tests 36 = .ok (.astore_n 3, 1) := by decide +kernel
theorem dL_tests_37 : decode cL_tests 37 = .ok (.sipush (-1001), 3) := by decide +kernel
theorem dL_tests_40 : decode cL_tests 40 = .ok (.ireturn, 1) := by decide +kernel
theorem dL_flakiest_0 : decode cL_flakiest 0 = .ok (.aload_n 0, 1) := by decide +kernel
theorem dL_flakiest_1 : decode cL_flakiest 1 = .ok (.invokevirtual 70, 3) := by decide +kernel
theorem dL_flakiest_4 : decode cL_flakiest 4 = .ok (.ireturn, 1) := by decide +kernel
theorem dL_flakiest_5 : decode cL_flakiest 5 = .ok (.astore_n 1, 1) := by decide +kernel
theorem dL_flakiest_6 : decode cL_flakiest 6 = .ok (.sipush (-1001), 3) := by decide +kernel
theorem dL_flakiest_9 : decode cL_flakiest 9 = .ok (.ireturn, 1) := by decide +kernel
theorem dL_money_0 : decode cL_money 0 = .ok (.iload_n 1, 1) := by decide +kernel
theorem dL_money_1 : decode cL_money 1 = .ok (.bipush 109, 2) := by decide +kernel
theorem dL_money_3 : decode cL_money 3 = .ok (.if_icmp .ne 11, 3) := by decide +kernel
theorem dL_money_6 : decode cL_money 6 = .ok (.aload_n 0, 1) := by decide +kernel
theorem dL_money_7 : decode cL_money 7 = .ok (.iload_n 2, 1) := by decide +kernel
theorem dL_money_8 : decode cL_money 8 = .ok (.invokevirtual 74, 3) := by decide +kernel
theorem dL_money_11 : decode cL_money 11 = .ok (.goto 23, 3) := by decide +kernel
theorem dL_money_14 : decode cL_money 14 = .ok (.iload_n 1, 1) := by decide +kernel
theorem dL_money_15 : decode cL_money 15 = .ok (.bipush 98, 2) := by decide +kernel
theorem dL_money_17 : decode cL_money 17 = .ok (.if_icmp .ne 11, 3) := by decide +kernel
theorem dL_money_20 : decode cL_money 20 = .ok (.aload_n 0, 1) := by decide +kernel
theorem dL_money_21 : decode cL_money 21 = .ok (.iload_n 2, 1) := by decide +kernel
theorem dL_money_22 : decode cL_money 22 = .ok (.invokevirtual 77, 3) := by decide +kernel
theorem dL_money_25 : decode cL_money 25 = .ok (.goto 9, 3) := by decide +kernel
theorem dL_money_28 : decode cL_money 28 = .ok (.aload_n 0, 1) := by decide +kernel
theorem dL_money_29 : decode cL_money 29 = .ok (.iload_n 2, 1) := by decide +kernel
theorem dL_money_30 : decode cL_money 30 = .ok (.iload_n 3, 1) := by decide +kernel
theorem dL_money_31 : decode cL_money 31 = .ok (.invokevirtual 80, 3) := by decide +kernel
theorem dL_money_34 : decode cL_money 34 = .ok (.ireturn, 1) := by decide +kernel
theorem dL_money_35 : decode cL_money 35 = .ok (.astore 4, 2) := by decide +kernel
theorem dL_money_37 : decode cL_money 37 = .ok (.sipush (-1001), 3) := by decide +kernel
theorem dL_money_40 : decode cL_money 40 = .ok (.ireturn, 1) := by decide +kernel
theorem dL_release_0 : decode cL_release 0 = .ok (.iload_n 3, 1) := by decide +kernel
theorem dL_release_1 : decode cL_release 1 = .ok (.ifCond .ne 12, 3) := by decide +kernel
theorem dL_release_4 : decode cL_release 4 = .ok (.aload_n 0, 1) := by decide +kernel
theorem dL_release_5 : decode cL_release 5 = .ok (.iload_n 1, 1) := by decide +kernel
theorem dL_release_6 : decode cL_release 6 = .ok (.iload_n 2, 1) := by decide +kernel
theorem dL_release_7 : decode cL_release 7 = .ok (.invokevirtual 83, 3) := by decide +kernel

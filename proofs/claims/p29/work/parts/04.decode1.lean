theorem dX0_init_0 : decode cX0_init 0 = .ok (.aload_n 0, 1) := by decide +kernel
theorem dX0_init_1 : decode cX0_init 1 = .ok (.invokespecial 3, 3) := by decide +kernel
theorem dX0_init_4 : decode cX0_init 4 = .ok (.aload_n 0, 1) := by decide +kernel
theorem dX0_init_5 : decode cX0_init 5 = .ok (.bipush 6, 2) := by decide +kernel
theorem dX0_init_7 : decode cX0_init 7 = .ok (.newarray .int, 2) := by decide +kernel
theorem dX0_init_9 : decode cX0_init 9 = .ok (.putfield 9, 3) := by decide +kernel
theorem dX0_init_12 : decode cX0_init 12 = .ok (.return_, 1) := by decide +kernel
theorem dX0_isOf_0 : decode cX0_isOf 0 = .ok (.aload_n 0, 1) := by decide +kernel
theorem dX0_isOf_1 : decode cX0_isOf 1 = .ok (.getfield 15, 3) := by decide +kernel
theorem dX0_isOf_4 : decode cX0_isOf 4 = .ok (.ifCond .eq 25, 3) := by decide +kernel
theorem dX0_isOf_7 : decode cX0_isOf 7 = .ok (.aload_n 0, 1) := by decide +kernel
theorem dX0_isOf_8 : decode cX0_isOf 8 = .ok (.getfield 19, 3) := by decide +kernel
theorem dX0_isOf_11 : decode cX0_isOf 11 = .ok (.aload_n 1, 1) := by decide +kernel
theorem dX0_isOf_12 : decode cX0_isOf 12 = .ok (.getfield 23, 3) := by decide +kernel
theorem dX0_isOf_15 : decode cX0_isOf 15 = .ok (.if_icmp .ne 14, 3) := by decide +kernel
theorem dX0_isOf_18 : decode cX0_isOf 18 = .ok (.aload_n 0, 1) := by decide +kernel
theorem dX0_isOf_19 : decode cX0_isOf 19 = .ok (.getfield 26, 3) := by decide +kernel
theorem dX0_isOf_22 : decode cX0_isOf 22 = .ok (.aload_n 1, 1) := by decide +kernel
theorem dX0_isOf_23 : decode cX0_isOf 23 = .ok (.getfield 29, 3) := by decide +kernel
theorem dX0_isOf_26 : decode cX0_isOf 26 = .ok (.if_icmp .eq 5, 3) := by decide +kernel
theorem dX0_isOf_29 : decode cX0_isOf 29 = .ok (.iconst 0, 1) := by decide +kernel
theorem dX0_isOf_30 : decode cX0_isOf 30 = .ok (.ireturn, 1) := by decide +kernel
theorem dX0_isOf_31 : decode cX0_isOf 31 = .ok (.iconst 0, 1) := by decide +kernel
theorem dX0_isOf_32 : decode cX0_isOf 32 = .ok (.istore_n 3, 1) := by decide +kernel
theorem dX0_isOf_33 : decode cX0_isOf 33 = .ok (.iload_n 3, 1) := by decide +kernel
theorem dX0_isOf_34 : decode cX0_isOf 34 = .ok (.bipush 6, 2) := by decide +kernel
theorem dX0_isOf_36 : decode cX0_isOf 36 = .ok (.if_icmp .ge 26, 3) := by decide +kernel
theorem dX0_isOf_39 : decode cX0_isOf 39 = .ok (.aload_n 0, 1) := by decide +kernel
theorem dX0_isOf_40 : decode cX0_isOf 40 = .ok (.getfield 9, 3) := by decide +kernel
theorem dX0_isOf_43 : decode cX0_isOf 43 = .ok (.iload_n 3, 1) := by decide +kernel
theorem dX0_isOf_44 : decode cX0_isOf 44 = .ok (.iaload, 1) := by decide +kernel
theorem dX0_isOf_45 : decode cX0_isOf 45 = .ok (.aload_n 1, 1) := by decide +kernel
theorem dX0_isOf_46 : decode cX0_isOf 46 = .ok (.aload_n 2, 1) := by decide +kernel
theorem dX0_isOf_47 : decode cX0_isOf 47 = .ok (.iload_n 3, 1) := by decide +kernel
theorem dX0_isOf_48 : decode cX0_isOf 48 = .ok (.invokestatic 30, 3) := by decide +kernel
theorem dX0_isOf_51 : decode cX0_isOf 51 = .ok (.if_icmp .eq 5, 3) := by decide +kernel
theorem dX0_isOf_54 : decode cX0_isOf 54 = .ok (.iconst 0, 1) := by decide +kernel
theorem dX0_isOf_55 : decode cX0_isOf 55 = .ok (.ireturn, 1) := by decide +kernel
theorem dX0_isOf_56 : decode cX0_isOf 56 = .ok (.iinc 3 1, 3) := by decide +kernel
theorem dX0_isOf_59 : decode cX0_isOf 59 = .ok (.goto (-26), 3) := by decide +kernel
theorem dX0_isOf_62 : decode cX0_isOf 62 = .ok (.iconst 1, 1) := by decide +kernel
theorem dX0_isOf_63 : decode cX0_isOf 63 = .ok (.ireturn, 1) := by decide +kernel
theorem dX0_remember_0 : decode cX0_remember 0 = .ok (.aload_n 0, 1) := by decide +kernel
theorem dX0_remember_1 : decode cX0_remember 1 = .ok (.iconst 1, 1) := by decide +kernel
theorem dX0_remember_2 : decode cX0_remember 2 = .ok (.putfield 15, 3) := by decide +kernel
theorem dX0_remember_5 : decode cX0_remember 5 = .ok (.aload_n 0, 1) := by decide +kernel
theorem dX0_remember_6 : decode cX0_remember 6 = .ok (.aload_n 1, 1) := by decide +kernel
theorem dX0_remember_7 : decode cX0_remember 7 = .ok (.getfield 23, 3) := by decide +kernel
theorem dX0_remember_10 : decode cX0_remember 10 = .ok (.putfield 19, 3) := by decide +kernel
theorem dX0_remember_13 : decode cX0_remember 13 = .ok (.aload_n 0, 1) := by decide +kernel
theorem dX0_remember_14 : decode cX0_remember 14 = .ok (.aload_n 1, 1) := by decide +kernel
theorem dX0_remember_15 : decode cX0_remember 15 = .ok (.getfield 29, 3) := by decide +kernel
theorem dX0_remember_18 : decode cX0_remember 18 = .ok (.putfield 26, 3) := by decide +kernel
theorem dX0_remember_21 : decode cX0_remember 21 = .ok (.iconst 0, 1) := by decide +kernel
theorem dX0_remember_22 : decode cX0_remember 22 = .ok (.istore_n 3, 1) := by decide +kernel
theorem dX0_remember_23 : decode cX0_remember 23 = .ok (.iload_n 3, 1) := by decide +kernel
theorem dX0_remember_24 : decode cX0_remember 24 = .ok (.bipush 6, 2) := by decide +kernel
theorem dX0_remember_26 : decode cX0_remember 26 = .ok (.if_icmp .ge 21, 3) := by decide +kernel
theorem dX0_remember_29 : decode cX0_remember 29 = .ok (.aload_n 0, 1) := by decide +kernel
theorem dX0_remember_30 : decode cX0_remember 30 = .ok (.getfield 9, 3) := by decide +kernel
theorem dX0_remember_33 : decode cX0_remember 33 = .ok (.iload_n 3, 1) := by decide +kernel
theorem dX0_remember_34 : decode cX0_remember 34 = .ok (.aload_n 1, 1) := by decide +kernel
theorem dX0_remember_35 : decode cX0_remember 35 = .ok (.aload_n 2, 1) := by decide +kernel
theorem dX0_remember_36 : decode cX0_remember 36 = .ok (.iload_n 3, 1) := by decide +kernel
theorem dX0_remember_37 : decode cX0_remember 37 = .ok (.invokestatic 30, 3) := by decide +kernel
theorem dX0_remember_40 : decode cX0_remember 40 = .ok (.iastore, 1) := by decide +kernel
theorem dX0_remember_41 : decode cX0_remember 41 = .ok (.iinc 3 1, 3) := by decide +kernel
theorem dX0_remember_44 : decode cX0_remember 44 = .ok (.goto (-21), 3) := by decide +kernel
theorem dX0_remember_47 : decode cX0_remember 47 = .ok (.return_, 1) := by decide +kernel
theorem dX0_neededFace_0 : decode cX0_neededFace 0 = .ok (.aload_n 1, 1) := by decide +kernel
theorem dX0_neededFace_1 : decode cX0_neededFace 1 = .ok (.iload_n 2, 1) := by decide +kernel
theorem dX0_neededFace_2 : decode cX0_neededFace 2 = .ok (.invokevirtual 34, 3) := by decide +kernel
theorem dX0_neededFace_5 : decode cX0_neededFace 5 = .ok (.astore_n 3, 1) := by decide +kernel
theorem dX0_neededFace_6 : decode cX0_neededFace 6 = .ok (.aload_n 3, 1) := by decide +kernel
theorem dX0_neededFace_7 : decode cX0_neededFace 7 = .ok (.ifnull 14, 3) := by decide +kernel
theorem dX0_neededFace_10 : decode cX0_neededFace 10 = .ok (.aload_n 0, 1) := by decide +kernel
theorem dX0_neededFace_11 : decode cX0_neededFace 11 = .ok (.getfield 40, 3) := by decide +kernel
theorem dX0_neededFace_14 : decode cX0_neededFace 14 = .ok (.iload_n 2, 1) := by decide +kernel
theorem dX0_neededFace_15 : decode cX0_neededFace 15 = .ok (.invokevirtual 44, 3) := by decide +kernel
theorem dX0_neededFace_18 : decode cX0_neededFace 18 = .ok (.ifCond .ne 7, 3) := by decide +kernel
theorem dX0_neededFace_21 : decode cX0_neededFace 21 = .ok (.iconst (-1), 1) := by decide +kernel
theorem dX0_neededFace_22 : decode cX0_neededFace 22 = .ok (.goto 7, 3) := by decide +kernel
theorem dX0_neededFace_25 : decode cX0_neededFace 25 = .ok (.aload_n 3, 1) := by decide +kernel
theorem dX0_neededFace_26 : decode cX0_neededFace 26 = .ok (.getfield 50, 3) := by decide +kernel
theorem dX0_neededFace_29 : decode cX0_neededFace 29 = .ok (.ireturn, 1) := by decide +kernel
theorem dX1_init_0 : decode cX1_init 0 = .ok (.aload_n 0, 1) := by decide +kernel
theorem dX1_init_1 : decode cX1_init 1 = .ok (.invokespecial 3, 3) := by decide +kernel
theorem dX1_init_4 : decode cX1_init 4 = .ok (.aload_n 0, 1) := by decide +kernel
theorem dX1_init_5 : decode cX1_init 5 = .ok (.bipush 6, 2) := by decide +kernel
theorem dX1_init_7 : decode cX1_init 7 = .ok (.anewarray 9, 3) := by decide +kernel
theorem dX1_init_10 : decode cX1_init 10 = .ok (.putfield 11, 3) := by decide +kernel
theorem dX1_init_13 : decode cX1_init 13 = .ok (.return_, 1) := by decide +kernel
theorem dX1_at_0 : decode cX1_at 0 = .ok (.iload_n 1, 1) := by decide +kernel
theorem dX1_at_1 : decode cX1_at 1 = .ok (.invokestatic 17, 3) := by decide +kernel
theorem dX1_at_4 : decode cX1_at 4 = .ok (.ifCond .eq 12, 3) := by decide +kernel
theorem dX1_at_7 : decode cX1_at 7 = .ok (.aload_n 0, 1) := by decide +kernel
theorem dX1_at_8 : decode cX1_at 8 = .ok (.getfield 11, 3) := by decide +kernel
theorem dX1_at_11 : decode cX1_at 11 = .ok (.iload_n 1, 1) := by decide +kernel
theorem dX1_at_12 : decode cX1_at 12 = .ok (.aaload, 1) := by decide +kernel
theorem dX1_at_13 : decode cX1_at 13 = .ok (.goto 4, 3) := by decide +kernel
theorem dX1_at_16 : decode cX1_at 16 = .ok (.aconst_null, 1) := by decide +kernel
theorem dX1_at_17 : decode cX1_at 17 = .ok (.areturn, 1) := by decide +kernel
theorem dX1_versionOf_0 : decode cX1_versionOf 0 = .ok (.aload_n 0, 1) := by decide +kernel
theorem dX1_versionOf_1 : decode cX1_versionOf 1 = .ok (.iload_n 1, 1) := by decide +kernel
theorem dX1_versionOf_2 : decode cX1_versionOf 2 = .ok (.invokevirtual 21, 3) := by decide +kernel
theorem dX1_versionOf_5 : decode cX1_versionOf 5 = .ok (.astore_n 2, 1) := by decide +kernel
theorem dX1_versionOf_6 : decode cX1_versionOf 6 = .ok (.aload_n 2, 1) := by decide +kernel
theorem dX1_versionOf_7 : decode cX1_versionOf 7 = .ok (.ifnonnull 7, 3) := by decide +kernel
theorem dX1_versionOf_10 : decode cX1_versionOf 10 = .ok (.iconst 0, 1) := by decide +kernel
theorem dX1_versionOf_11 : decode cX1_versionOf 11 = .ok (.goto 7, 3) := by decide +kernel
theorem dX1_versionOf_14 : decode cX1_versionOf 14 = .ok (.aload_n 2, 1) := by decide +kernel
theorem dX1_versionOf_15 : decode cX1_versionOf 15 = .ok (.getfield 25, 3) := by decide +kernel
theorem dX1_versionOf_18 : decode cX1_versionOf 18 = .ok (.ireturn, 1) := by decide +kernel
theorem dX1_put_0 : decode cX1_put 0 = .ok (.iload_n 1, 1) := by decide +kernel
theorem dX1_put_1 : decode cX1_put 1 = .ok (.invokestatic 17, 3) := by decide +kernel
theorem dX1_put_4 : decode cX1_put 4 = .ok (.ifCond .eq 10, 3) := by decide +kernel
theorem dX1_put_7 : decode cX1_put 7 = .ok (.aload_n 0, 1) := by decide +kernel
theorem dX1_put_8 : decode cX1_put 8 = .ok (.getfield 11, 3) := by decide +kernel
theorem dX1_put_11 : decode cX1_put 11 = .ok (.iload_n 1, 1) := by decide +kernel
theorem dX1_put_12 : decode cX1_put 12 = .ok (.aload_n 2, 1) := by decide +kernel
theorem dX1_put_13 : decode cX1_put 13 = .ok (.aastore, 1) := by decide +kernel
theorem dX1_put_14 : decode cX1_put 14 = .ok (.return_, 1) := by decide +kernel
theorem dX1_clear_0 : decode cX1_clear 0 = .ok (.iconst 0, 1) := by decide +kernel
theorem dX1_clear_1 : decode cX1_clear 1 = .ok (.istore_n 1, 1) := by decide +kernel
theorem dX1_clear_2 : decode cX1_clear 2 = .ok (.iload_n 1, 1) := by decide +kernel
theorem dX1_clear_3 : decode cX1_clear 3 = .ok (.bipush 6, 2) := by decide +kernel
theorem dX1_clear_5 : decode cX1_clear 5 = .ok (.if_icmp .ge 16, 3) := by decide +kernel
theorem dX1_clear_8 : decode cX1_clear 8 = .ok (.aload_n 0, 1) := by decide +kernel
theorem dX1_clear_9 : decode cX1_clear 9 = .ok (.getfield 11, 3) := by decide +kernel
theorem dX1_clear_12 : decode cX1_clear 12 = .ok (.iload_n 1, 1) := by decide +kernel
theorem dX1_clear_13 : decode cX1_clear 13 = .ok (.aconst_null, 1) := by decide +kernel
theorem dX1_clear_14 : decode cX1_clear 14 = .ok (.aastore, 1) := by decide +kernel
theorem dX1_clear_15 : decode cX1_clear 15 = .ok (.iinc 1 1, 3) := by decide +kernel
theorem dX1_clear_18 : decode cX1_clear 18 = .ok (.goto (-16), 3) := by decide +kernel
theorem dX1_clear_21 : decode cX1_clear 21 = .ok (.return_, 1) := by decide +kernel
theorem dX1_copyFrom_0 : decode cX1_copyFrom 0 = .ok (.iconst 0, 1) := by decide +kernel
theorem dX1_copyFrom_1 : decode cX1_copyFrom 1 = .ok (.istore_n 2, 1) := by decide +kernel
theorem dX1_copyFrom_2 : decode cX1_copyFrom 2 = .ok (.iload_n 2, 1) := by decide +kernel
theorem dX1_copyFrom_3 : decode cX1_copyFrom 3 = .ok (.bipush 6, 2) := by decide +kernel
theorem dX1_copyFrom_5 : decode cX1_copyFrom 5 = .ok (.if_icmp .ge 21, 3) := by decide +kernel
theorem dX1_copyFrom_8 : decode cX1_copyFrom 8 = .ok (.aload_n 0, 1) := by decide +kernel
theorem dX1_copyFrom_9 : decode cX1_copyFrom 9 = .ok (.getfield 11, 3) := by decide +kernel
theorem dX1_copyFrom_12 : decode cX1_copyFrom 12 = .ok (.iload_n 2, 1) := by decide +kernel
theorem dX1_copyFrom_13 : decode cX1_copyFrom 13 = .ok (.aload_n 1, 1) := by decide +kernel
theorem dX1_copyFrom_14 : decode cX1_copyFrom 14 = .ok (.getfield 11, 3) := by decide +kernel
theorem dX1_copyFrom_17 : decode cX1_copyFrom 17 = .ok (.iload_n 2, 1) := by decide +kernel
theorem dX1_copyFrom_18 : decode cX1_copyFrom 18 = .ok (.aaload, 1) := by decide +kernel
theorem dX1_copyFrom_19 : decode cX1_copyFrom 19 = .ok (.aastore, 1) := by decide +kernel
theorem dX1_copyFrom_20 : decode cX1_copyFrom 20 = .ok (.iinc 2 1, 3) := by decide +kernel
theorem dX1_copyFrom_23 : decode cX1_copyFrom 23 = .ok (.goto (-21), 3) := by decide +kernel
theorem dX1_copyFrom_26 : decode cX1_copyFrom 26 = .ok (.return_, 1) := by decide +kernel
theorem dX1_countDifferences_0 : decode cX1_countDifferences 0 = .ok (.iconst 0, 1) := by decide +kernel
theorem dX1_countDifferences_1 : decode cX1_countDifferences 1 = .ok (.istore_n 2, 1) := by decide +kernel
theorem dX1_countDifferences_2 : decode cX1_countDifferences 2 = .ok (.iconst 0, 1) := by decide +kernel
theorem dX1_countDifferences_3 : decode cX1_countDifferences 3 = .ok (.istore_n 3, 1) := by decide +kernel
theorem dX1_countDifferences_4 : decode cX1_countDifferences 4 = .ok (.iload_n 3, 1) := by decide +kernel
theorem dX1_countDifferences_5 : decode cX1_countDifferences 5 = .ok (.bipush 6, 2) := by decide +kernel
theorem dX1_countDifferences_7 : decode cX1_countDifferences 7 = .ok (.if_icmp .ge 32, 3) := by decide +kernel
theorem dX1_countDifferences_10 : decode cX1_countDifferences 10 = .ok (.iload_n 2, 1) := by decide +kernel
theorem dX1_countDifferences_11 : decode cX1_countDifferences 11 = .ok (.aload_n 0, 1) := by decide +kernel
theorem dX1_countDifferences_12 : decode cX1_countDifferences 12 = .ok (.getfield 11, 3) := by decide +kernel
theorem dX1_countDifferences_15 : decode cX1_countDifferences 15 = .ok (.iload_n 3, 1) := by decide +kernel
theorem dX1_countDifferences_16 : decode cX1_countDifferences 16 = .ok (.aaload, 1) := by decide +kernel
theorem dX1_countDifferences_17 : decode cX1_countDifferences 17 = .ok (.aload_n 1, 1) := by decide +kernel
theorem dX1_countDifferences_18 : decode cX1_countDifferences 18 = .ok (.getfield 11, 3) := by decide +kernel
theorem dX1_countDifferences_21 : decode cX1_countDifferences 21 = .ok (.iload_n 3, 1) := by decide +kernel
theorem dX1_countDifferences_22 : decode cX1_countDifferences 22 = .ok (.aaload, 1) := by decide +kernel
theorem dX1_countDifferences_23 : decode cX1_countDifferences 23 = .ok (.if_acmp .ne 7, 3) := by decide +kernel
theorem dX1_countDifferences_26 : decode cX1_countDifferences 26 = .ok (.iconst 0, 1) := by decide +kernel
theorem dX1_countDifferences_27 : decode cX1_countDifferences 27 = .ok (.goto 4, 3) := by decide +kernel
theorem dX1_countDifferences_30 : decode cX1_countDifferences 30 = .ok (.iconst 1, 1) := by decide +kernel
theorem dX1_countDifferences_31 : decode cX1_countDifferences 31 = .ok (.iadd, 1) := by decide +kernel
theorem dX1_countDifferences_32 : decode cX1_countDifferences 32 = .ok (.istore_n 2, 1) := by decide +kernel
theorem dX1_countDifferences_33 : decode cX1_countDifferences 33 = .ok (.iinc 3 1, 3) := by decide +kernel
theorem dX1_countDifferences_36 : decode cX1_countDifferences 36 = .ok (.goto (-32), 3) := by decide +kernel
theorem dX1_countDifferences_39 : decode cX1_countDifferences 39 = .ok (.iload_n 2, 1) := by decide +kernel
theorem dX1_countDifferences_40 : decode cX1_countDifferences 40 = .ok (.ireturn, 1) := by decide +kernel
theorem dX1_hasYanked_0 : decode cX1_hasYanked 0 = .ok (.iconst 0, 1) := by decide +kernel
theorem dX1_hasYanked_1 : decode cX1_hasYanked 1 = .ok (.istore_n 1, 1) := by decide +kernel
theorem dX1_hasYanked_2 : decode cX1_hasYanked 2 = .ok (.iload_n 1, 1) := by decide +kernel
theorem dX1_hasYanked_3 : decode cX1_hasYanked 3 = .ok (.bipush 6, 2) := by decide +kernel
theorem dX1_hasYanked_5 : decode cX1_hasYanked 5 = .ok (.if_icmp .ge 29, 3) := by decide +kernel
theorem dX1_hasYanked_8 : decode cX1_hasYanked 8 = .ok (.aload_n 0, 1) := by decide +kernel
theorem dX1_hasYanked_9 : decode cX1_hasYanked 9 = .ok (.getfield 11, 3) := by decide +kernel
theorem dX1_hasYanked_12 : decode cX1_hasYanked 12 = .ok (.iload_n 1, 1) := by decide +kernel
theorem dX1_hasYanked_13 : decode cX1_hasYanked 13 = .ok (.aaload, 1) := by decide +kernel
theorem dX1_hasYanked_14 : decode cX1_hasYanked 14 = .ok (.astore_n 2, 1) := by decide +kernel
theorem dX1_hasYanked_15 : decode cX1_hasYanked 15 = .ok (.aload_n 2, 1) := by decide +kernel
theorem dX1_hasYanked_16 : decode cX1_hasYanked 16 = .ok (.ifnull 12, 3) := by decide +kernel
theorem dX1_hasYanked_19 : decode cX1_hasYanked 19 = .ok (.aload_n 2, 1) := by decide +kernel
theorem dX1_hasYanked_20 : decode cX1_hasYanked 20 = .ok (.getfield 29, 3) := by decide +kernel
theorem dX1_hasYanked_23 : decode cX1_hasYanked 23 = .ok (.ifCond .eq 5, 3) := by decide +kernel
theorem dX1_hasYanked_26 : decode cX1_hasYanked 26 = .ok (.iconst 1, 1) := by decide +kernel
theorem dX1_hasYanked_27 : decode cX1_hasYanked 27 = .ok (.ireturn, 1) := by decide +kernel
theorem dX1_hasYanked_28 : decode cX1_hasYanked 28 = .ok (.iinc 1 1, 3) := by decide +kernel
theorem dX1_hasYanked_31 : decode cX1_hasYanked 31 = .ok (.goto (-29), 3) := by decide +kernel
theorem dX1_hasYanked_34 : decode cX1_hasYanked 34 = .ok (.iconst 0, 1) := by decide +kernel
theorem dX1_hasYanked_35 : decode cX1_hasYanked 35 = .ok (.ireturn, 1) := by decide +kernel
theorem dX2_init_0 : decode cX2_init 0 = .ok (.aload_n 0, 1) := by decide +kernel
theorem dX2_init_1 : decode cX2_init 1 = .ok (.invokespecial 3, 3) := by decide +kernel
theorem dX2_init_4 : decode cX2_init 4 = .ok (.aload_n 0, 1) := by decide +kernel
theorem dX2_init_5 : decode cX2_init 5 = .ok (.new 9, 3) := by decide +kernel
theorem dX2_init_8 : decode cX2_init 8 = .ok (.dup, 1) := by decide +kernel
theorem dX2_init_9 : decode cX2_init 9 = .ok (.invokespecial 11, 3) := by decide +kernel
theorem dX2_init_12 : decode cX2_init 12 = .ok (.putfield 12, 3) := by decide +kernel
theorem dX2_init_15 : decode cX2_init 15 = .ok (.aload_n 0, 1) := by decide +kernel
theorem dX2_init_16 : decode cX2_init 16 = .ok (.new 9, 3) := by decide +kernel
theorem dX2_init_19 : decode cX2_init 19 = .ok (.dup, 1) := by decide +kernel
theorem dX2_init_20 : decode cX2_init 20 = .ok (.invokespecial 11, 3) := by decide +kernel
theorem dX2_init_23 : decode cX2_init 23 = .ok (.putfield 18, 3) := by decide +kernel
theorem dX2_init_26 : decode cX2_init 26 = .ok (.aload_n 0, 1) := by decide +kernel
theorem dX2_init_27 : decode cX2_init 27 = .ok (.bipush 6, 2) := by decide +kernel
theorem dX2_init_29 : decode cX2_init 29 = .ok (.newarray .int, 2) := by decide +kernel
theorem dX2_init_31 : decode cX2_init 31 = .ok (.putfield 21, 3) := by decide +kernel
theorem dX2_init_34 : decode cX2_init 34 = .ok (.return_, 1) := by decide +kernel
theorem dX2_search_0 : decode cX2_search 0 = .ok (.aload_n 0, 1) := by decide +kernel
theorem dX2_search_1 : decode cX2_search 1 = .ok (.getfield 12, 3) := by decide +kernel
theorem dX2_search_4 : decode cX2_search 4 = .ok (.invokevirtual 25, 3) := by decide +kernel
theorem dX2_search_7 : decode cX2_search 7 = .ok (.aload_n 1, 1) := by decide +kernel
theorem dX2_search_8 : decode cX2_search 8 = .ok (.aload_n 3, 1) := by decide +kernel
theorem dX2_search_9 : decode cX2_search 9 = .ok (.aload_n 0, 1) := by decide +kernel
theorem dX2_search_10 : decode cX2_search 10 = .ok (.getfield 12, 3) := by decide +kernel
theorem dX2_search_13 : decode cX2_search 13 = .ok (.iload_n 2, 1) := by decide +kernel
theorem dX2_search_14 : decode cX2_search 14 = .ok (.iconst 1, 1) := by decide +kernel
theorem dX2_search_15 : decode cX2_search 15 = .ok (.isub, 1) := by decide +kernel
theorem dX2_search_16 : decode cX2_search 16 = .ok (.invokestatic 28, 3) := by decide +kernel
theorem dX2_search_19 : decode cX2_search 19 = .ok (.ifCond .eq 10, 3) := by decide +kernel
theorem dX2_search_22 : decode cX2_search 22 = .ok (.aload_n 0, 1) := by decide +kernel
theorem dX2_search_23 : decode cX2_search 23 = .ok (.getfield 12, 3) := by decide +kernel
theorem dX2_search_26 : decode cX2_search 26 = .ok (.goto 4, 3) := by decide +kernel
theorem dX2_search_29 : decode cX2_search 29 = .ok (.aconst_null, 1) := by decide +kernel
theorem dX2_search_30 : decode cX2_search 30 = .ok (.areturn, 1) := by decide +kernel
theorem dX2_pickDown_0 : decode cX2_pickDown 0 = .ok (.iload_n 3, 1) := by decide +kernel
theorem dX2_pickDown_1 : decode cX2_pickDown 1 = .ok (.ifCond .ge 5, 3) := by decide +kernel
theorem dX2_pickDown_4 : decode cX2_pickDown 4 = .ok (.iconst 1, 1) := by decide +kernel
theorem dX2_pickDown_5 : decode cX2_pickDown 5 = .ok (.ireturn, 1) := by decide +kernel
theorem dX2_pickDown_6 : decode cX2_pickDown 6 = .ok (.iload_n 3, 1) := by decide +kernel
theorem dX2_pickDown_7 : decode cX2_pickDown 7 = .ok (.aload_n 0, 1) := by decide +kernel
theorem dX2_pickDown_8 : decode cX2_pickDown 8 = .ok (.invokevirtual 32, 3) := by decide +kernel
theorem dX2_pickDown_11 : decode cX2_pickDown 11 = .ok (.if_icmp .lt 5, 3) := by decide +kernel
theorem dX2_pickDown_14 : decode cX2_pickDown 14 = .ok (.iconst 0, 1) := by decide +kernel
theorem dX2_pickDown_15 : decode cX2_pickDown 15 = .ok (.ireturn, 1) := by decide +kernel
theorem dX2_pickDown_16 : decode cX2_pickDown 16 = .ok (.aload_n 1, 1) := by decide +kernel
theorem dX2_pickDown_17 : decode cX2_pickDown 17 = .ok (.aload_n 2, 1) := by decide +kernel
theorem dX2_pickDown_18 : decode cX2_pickDown 18 = .ok (.iload_n 3, 1) := by decide +kernel
theorem dX2_pickDown_19 : decode cX2_pickDown 19 = .ok (.invokestatic 38, 3) := by decide +kernel
theorem dX2_pickDown_22 : decode cX2_pickDown 22 = .ok (.ifCond .ne 13, 3) := by decide +kernel
theorem dX2_pickDown_25 : decode cX2_pickDown 25 = .ok (.aload_n 0, 1) := by decide +kernel
theorem dX2_pickDown_26 : decode cX2_pickDown 26 = .ok (.aload_n 1, 1) := by decide +kernel
theorem dX2_pickDown_27 : decode cX2_pickDown 27 = .ok (.aload_n 2, 1) := by decide +kernel
theorem dX2_pickDown_28 : decode cX2_pickDown 28 = .ok (.iload_n 3, 1) := by decide +kernel
theorem dX2_pickDown_29 : decode cX2_pickDown 29 = .ok (.iconst 1, 1) := by decide +kernel
theorem dX2_pickDown_30 : decode cX2_pickDown 30 = .ok (.isub, 1) := by decide +kernel
theorem dX2_pickDown_31 : decode cX2_pickDown 31 = .ok (.invokestatic 28, 3) := by decide +kernel
theorem dX2_pickDown_34 : decode cX2_pickDown 34 = .ok (.ireturn, 1) := by decide +kernel
theorem dX2_pickDown_35 : decode cX2_pickDown 35 = .ok (.aload_n 0, 1) := by decide +kernel
theorem dX2_pickDown_36 : decode cX2_pickDown 36 = .ok (.iload_n 3, 1) := by decide +kernel
theorem dX2_pickDown_37 : decode cX2_pickDown 37 = .ok (.invokevirtual 42, 3) := by decide +kernel
theorem dX2_pickDown_40 : decode cX2_pickDown 40 = .ok (.checkcast 46, 3) := by decide +kernel
theorem dX2_pickDown_43 : decode cX2_pickDown 43 = .ok (.getfield 48, 3) := by decide +kernel
theorem dX2_pickDown_46 : decode cX2_pickDown 46 = .ok (.astore 4, 2) := by decide +kernel
theorem dX2_pickDown_48 : decode cX2_pickDown 48 = .ok (.aload 4, 2) := by decide +kernel
theorem dX2_pickDown_50 : decode cX2_pickDown 50 = .ok (.invokevirtual 32, 3) := by decide +kernel
theorem dX2_pickDown_53 : decode cX2_pickDown 53 = .ok (.iconst 1, 1) := by decide +kernel
theorem dX2_pickDown_54 : decode cX2_pickDown 54 = .ok (.isub, 1) := by decide +kernel
theorem dX2_pickDown_55 : decode cX2_pickDown 55 = .ok (.istore 5, 2) := by decide +kernel
theorem dX2_pickDown_57 : decode cX2_pickDown 57 = .ok (.iload 5, 2) := by decide +kernel
theorem dX2_pickDown_59 : decode cX2_pickDown 59 = .ok (.ifCond .lt 53, 3) := by decide +kernel
theorem dX2_pickDown_62 : decode cX2_pickDown 62 = .ok (.aload 4, 2) := by decide +kernel
theorem dX2_pickDown_64 : decode cX2_pickDown 64 = .ok (.iload 5, 2) := by decide +kernel
theorem dX2_pickDown_66 : decode cX2_pickDown 66 = .ok (.invokevirtual 42, 3) := by decide +kernel
theorem dX2_pickDown_69 : decode cX2_pickDown 69 = .ok (.checkcast 52, 3) := by decide +kernel
theorem dX2_pickDown_72 : decode cX2_pickDown 72 = .ok (.astore 6, 2) := by decide +kernel
theorem dX2_pickDown_74 : decode cX2_pickDown 74 = .ok (.aload_n 1, 1) := by decide +kernel
theorem dX2_pickDown_75 : decode cX2_pickDown 75 = .ok (.aload_n 2, 1) := by decide +kernel
theorem dX2_pickDown_76 : decode cX2_pickDown 76 = .ok (.iload_n 3, 1) := by decide +kernel
theorem dX2_pickDown_77 : decode cX2_pickDown 77 = .ok (.aload 6, 2) := by decide +kernel
theorem dX2_pickDown_79 : decode cX2_pickDown 79 = .ok (.invokestatic 54, 3) := by decide +kernel
theorem dX2_pickDown_82 : decode cX2_pickDown 82 = .ok (.ifCond .eq 24, 3) := by decide +kernel
theorem dX2_pickDown_85 : decode cX2_pickDown 85 = .ok (.aload_n 2, 1) := by decide +kernel
theorem dX2_pickDown_86 : decode cX2_pickDown 86 = .ok (.iload_n 3, 1) := by decide +kernel
theorem dX2_pickDown_87 : decode cX2_pickDown 87 = .ok (.aload 6, 2) := by decide +kernel
theorem dX2_pickDown_89 : decode cX2_pickDown 89 = .ok (.invokevirtual 58, 3) := by decide +kernel
theorem dX2_pickDown_92 : decode cX2_pickDown 92 = .ok (.aload_n 0, 1) := by decide +kernel
theorem dX2_pickDown_93 : decode cX2_pickDown 93 = .ok (.aload_n 1, 1) := by decide +kernel
theorem dX2_pickDown_94 : decode cX2_pickDown 94 = .ok (.aload_n 2, 1) := by decide +kernel
theorem dX2_pickDown_95 : decode cX2_pickDown 95 = .ok (.iload_n 3, 1) := by decide +kernel
theorem dX2_pickDown_96 : decode cX2_pickDown 96 = .ok (.iconst 1, 1) := by decide +kernel
theorem dX2_pickDown_97 : decode cX2_pickDown 97 = .ok (.isub, 1) := by decide +kernel
theorem dX2_pickDown_98 : decode cX2_pickDown 98 = .ok (.invokestatic 28, 3) := by decide +kernel
theorem dX2_pickDown_101 : decode cX2_pickDown 101 = .ok (.ifCond .eq 5, 3) := by decide +kernel
theorem dX2_pickDown_104 : decode cX2_pickDown 104 = .ok (.iconst 1, 1) := by decide +kernel
theorem dX2_pickDown_105 : decode cX2_pickDown 105 = .ok (.ireturn, 1) := by decide +kernel
theorem dX2_pickDown_106 : decode cX2_pickDown 106 = .ok (.iinc 5 (-1), 3) := by decide +kernel
theorem dX2_pickDown_109 : decode cX2_pickDown 109 = .ok (.goto (-52), 3) := by decide +kernel
theorem dX2_pickDown_112 : decode cX2_pickDown 112 = .ok (.aload_n 2, 1) := by decide +kernel
theorem dX2_pickDown_113 : decode cX2_pickDown 113 = .ok (.iload_n 3, 1) := by decide +kernel
theorem dX2_pickDown_114 : decode cX2_pickDown 114 = .ok (.aconst_null, 1) := by decide +kernel
theorem dX2_pickDown_115 : decode cX2_pickDown 115 = .ok (.invokevirtual 58, 3) := by decide +kernel
theorem dX2_pickDown_118 : decode cX2_pickDown 118 = .ok (.iconst 0, 1) := by decide +kernel
theorem dX2_pickDown_119 : decode cX2_pickDown 119 = .ok (.ireturn, 1) := by decide +kernel
theorem dX2_goThroughAll_0 : decode cX2_goThroughAll 0 = .ok (.iconst 0, 1) := by decide +kernel
theorem dX2_goThroughAll_1 : decode cX2_goThroughAll 1 = .ok (.istore 4, 2) := by decide +kernel
theorem dX2_goThroughAll_3 : decode cX2_goThroughAll 3 = .ok (.aload_n 0, 1) := by decide +kernel
theorem dX2_goThroughAll_4 : decode cX2_goThroughAll 4 = .ok (.getfield 18, 3) := by decide +kernel
theorem dX2_goThroughAll_7 : decode cX2_goThroughAll 7 = .ok (.invokevirtual 25, 3) := by decide +kernel
theorem dX2_goThroughAll_10 : decode cX2_goThroughAll 10 = .ok (.aload_n 0, 1) := by decide +kernel
theorem dX2_goThroughAll_11 : decode cX2_goThroughAll 11 = .ok (.getfield 21, 3) := by decide +kernel
theorem dX2_goThroughAll_14 : decode cX2_goThroughAll 14 = .ok (.iconst 0, 1) := by decide +kernel
theorem dX2_goThroughAll_15 : decode cX2_goThroughAll 15 = .ok (.invokestatic 62, 3) := by decide +kernel
theorem dX2_goThroughAll_18 : decode cX2_goThroughAll 18 = .ok (.aload_n 1, 1) := by decide +kernel
theorem dX2_goThroughAll_19 : decode cX2_goThroughAll 19 = .ok (.iload_n 2, 1) := by decide +kernel
theorem dX2_goThroughAll_20 : decode cX2_goThroughAll 20 = .ok (.invokestatic 68, 3) := by decide +kernel
theorem dX2_goThroughAll_23 : decode cX2_goThroughAll 23 = .ok (.istore 5, 2) := by decide +kernel
theorem dX2_goThroughAll_25 : decode cX2_goThroughAll 25 = .ok (.iconst 0, 1) := by decide +kernel
theorem dX2_goThroughAll_26 : decode cX2_goThroughAll 26 = .ok (.istore 6, 2) := by decide +kernel
theorem dX2_goThroughAll_28 : decode cX2_goThroughAll 28 = .ok (.iload 6, 2) := by decide +kernel
theorem dX2_goThroughAll_30 : decode cX2_goThroughAll 30 = .ok (.iload 5, 2) := by decide +kernel
theorem dX2_goThroughAll_32 : decode cX2_goThroughAll 32 = .ok (.if_icmp .ge 40, 3) := by decide +kernel
theorem dX2_goThroughAll_35 : decode cX2_goThroughAll 35 = .ok (.aload_n 3, 1) := by decide +kernel
theorem dX2_goThroughAll_36 : decode cX2_goThroughAll 36 = .ok (.aload_n 0, 1) := by decide +kernel
theorem dX2_goThroughAll_37 : decode cX2_goThroughAll 37 = .ok (.getfield 18, 3) := by decide +kernel
theorem dX2_goThroughAll_40 : decode cX2_goThroughAll 40 = .ok (.invokestatic 72, 3) := by decide +kernel
theorem dX2_goThroughAll_43 : decode cX2_goThroughAll 43 = .ok (.ifCond .eq 17, 3) := by decide +kernel
theorem dX2_goThroughAll_46 : decode cX2_goThroughAll 46 = .ok (.aload_n 0, 1) := by decide +kernel
theorem dX2_goThroughAll_47 : decode cX2_goThroughAll 47 = .ok (.getfield 12, 3) := by decide +kernel
theorem dX2_goThroughAll_50 : decode cX2_goThroughAll 50 = .ok (.aload_n 0, 1) := by decide +kernel
theorem dX2_goThroughAll_51 : decode cX2_goThroughAll 51 = .ok (.getfield 18, 3) := by decide +kernel
theorem dX2_goThroughAll_54 : decode cX2_goThroughAll 54 = .ok (.invokevirtual 76, 3) := by decide +kernel
theorem dX2_goThroughAll_57 : decode cX2_goThroughAll 57 = .ok (.iconst 1, 1) := by decide +kernel
theorem dX2_goThroughAll_58 : decode cX2_goThroughAll 58 = .ok (.istore 4, 2) := by decide +kernel
theorem dX2_goThroughAll_60 : decode cX2_goThroughAll 60 = .ok (.aload_n 0, 1) := by decide +kernel
theorem dX2_goThroughAll_61 : decode cX2_goThroughAll 61 = .ok (.aload_n 1, 1) := by decide +kernel
theorem dX2_goThroughAll_62 : decode cX2_goThroughAll 62 = .ok (.iload_n 2, 1) := by decide +kernel
theorem dX2_goThroughAll_63 : decode cX2_goThroughAll 63 = .ok (.invokevirtual 80, 3) := by decide +kernel
theorem dX2_goThroughAll_66 : decode cX2_goThroughAll 66 = .ok (.iinc 6 1, 3) := by decide +kernel
theorem dX2_goThroughAll_69 : decode cX2_goThroughAll 69 = .ok (.goto (-41), 3) := by decide +kernel
theorem dX2_goThroughAll_72 : decode cX2_goThroughAll 72 = .ok (.iload 4, 2) := by decide +kernel
theorem dX2_goThroughAll_74 : decode cX2_goThroughAll 74 = .ok (.ifCond .eq 10, 3) := by decide +kernel
theorem dX2_goThroughAll_77 : decode cX2_goThroughAll 77 = .ok (.aload_n 0, 1) := by decide +kernel
theorem dX2_goThroughAll_78 : decode cX2_goThroughAll 78 = .ok (.getfield 12, 3) := by decide +kernel
theorem dX2_goThroughAll_81 : decode cX2_goThroughAll 81 = .ok (.goto 4, 3) := by decide +kernel
theorem dX2_goThroughAll_84 : decode cX2_goThroughAll 84 = .ok (.aconst_null, 1) := by decide +kernel
theorem dX2_goThroughAll_85 : decode cX2_goThroughAll 85 = .ok (.areturn, 1) := by decide +kernel
theorem dX2_countWays_0 : decode cX2_countWays 0 = .ok (.iconst 1, 1) := by decide +kernel
theorem dX2_countWays_1 : decode cX2_countWays 1 = .ok (.istore_n 2, 1) := by decide +kernel
theorem dX2_countWays_2 : decode cX2_countWays 2 = .ok (.iconst 0, 1) := by decide +kernel
theorem dX2_countWays_3 : decode cX2_countWays 3 = .ok (.istore_n 3, 1) := by decide +kernel
theorem dX2_countWays_4 : decode cX2_countWays 4 = .ok (.iload_n 3, 1) := by decide +kernel
theorem dX2_countWays_5 : decode cX2_countWays 5 = .ok (.iload_n 1, 1) := by decide +kernel
theorem dX2_countWays_6 : decode cX2_countWays 6 = .ok (.if_icmp .ge 36, 3) := by decide +kernel
theorem dX2_countWays_9 : decode cX2_countWays 9 = .ok (.iload_n 3, 1) := by decide +kernel
theorem dX2_countWays_10 : decode cX2_countWays 10 = .ok (.aload_n 0, 1) := by decide +kernel
theorem dX2_countWays_11 : decode cX2_countWays 11 = .ok (.invokevirtual 32, 3) := by decide +kernel
theorem dX2_countWays_14 : decode cX2_countWays 14 = .ok (.if_icmp .ge 28, 3) := by decide +kernel
theorem dX2_countWays_17 : decode cX2_countWays 17 = .ok (.iload_n 2, 1) := by decide +kernel
theorem dX2_countWays_18 : decode cX2_countWays 18 = .ok (.aload_n 0, 1) := by decide +kernel
theorem dX2_countWays_19 : decode cX2_countWays 19 = .ok (.iload_n 3, 1) := by decide +kernel
theorem dX2_countWays_20 : decode cX2_countWays 20 = .ok (.invokevirtual 42, 3) := by decide +kernel
theorem dX2_countWays_23 : decode cX2_countWays 23 = .ok (.checkcast 46, 3) := by decide +kernel
theorem dX2_countWays_26 : decode cX2_countWays 26 = .ok (.getfield 48, 3) := by decide +kernel
theorem dX2_countWays_29 : decode cX2_countWays 29 = .ok (.invokevirtual 32, 3) := by decide +kernel
theorem dX2_countWays_32 : decode cX2_countWays 32 = .ok (.iconst 1, 1) := by decide +kernel
theorem dX2_countWays_33 : decode cX2_countWays 33 = .ok (.iadd, 1) := by decide +kernel
theorem dX2_countWays_34 : decode cX2_countWays 34 = .ok (.imul, 1) := by decide +kernel
theorem dX2_countWays_35 : decode cX2_countWays 35 = .ok (.istore_n 2, 1) := by decide +kernel
theorem dX2_countWays_36 : decode cX2_countWays 36 = .ok (.iinc 3 1, 3) := by decide +kernel
theorem dX2_countWays_39 : decode cX2_countWays 39 = .ok (.goto (-35), 3) := by decide +kernel
theorem dX2_countWays_42 : decode cX2_countWays 42 = .ok (.iload_n 2, 1) := by decide +kernel
theorem dX2_countWays_43 : decode cX2_countWays 43 = .ok (.ireturn, 1) := by decide +kernel
theorem dX2_goToNextWay_0 : decode cX2_goToNextWay 0 = .ok (.iconst 0, 1) := by decide +kernel
theorem dX2_goToNextWay_1 : decode cX2_goToNextWay 1 = .ok (.istore_n 3, 1) := by decide +kernel
theorem dX2_goToNextWay_2 : decode cX2_goToNextWay 2 = .ok (.iload_n 3, 1) := by decide +kernel
theorem dX2_goToNextWay_3 : decode cX2_goToNextWay 3 = .ok (.iload_n 2, 1) := by decide +kernel
theorem dX2_goToNextWay_4 : decode cX2_goToNextWay 4 = .ok (.if_icmp .ge 107, 3) := by decide +kernel
theorem dX2_goToNextWay_7 : decode cX2_goToNextWay 7 = .ok (.iload_n 3, 1) := by decide +kernel
theorem dX2_goToNextWay_8 : decode cX2_goToNextWay 8 = .ok (.aload_n 1, 1) := by decide +kernel
theorem dX2_goToNextWay_9 : decode cX2_goToNextWay 9 = .ok (.invokevirtual 32, 3) := by decide +kernel
theorem dX2_goToNextWay_12 : decode cX2_goToNextWay 12 = .ok (.if_icmp .ge 99, 3) := by decide +kernel
theorem dX2_goToNextWay_15 : decode cX2_goToNextWay 15 = .ok (.iload_n 3, 1) := by decide +kernel
theorem dX2_goToNextWay_16 : decode cX2_goToNextWay 16 = .ok (.aload_n 0, 1) := by decide +kernel
theorem dX2_goToNextWay_17 : decode cX2_goToNextWay 17 = .ok (.getfield 21, 3) := by decide +kernel
theorem dX2_goToNextWay_20 : decode cX2_goToNextWay 20 = .ok (.arraylength, 1) := by decide +kernel
theorem dX2_goToNextWay_21 : decode cX2_goToNextWay 21 = .ok (.if_icmp .ge 90, 3) := by decide +kernel
theorem dX2_goToNextWay_24 : decode cX2_goToNextWay 24 = .ok (.aload_n 1, 1) := by decide +kernel
theorem dX2_goToNextWay_25 : decode cX2_goToNextWay 25 = .ok (.iload_n 3, 1) := by decide +kernel
theorem dX2_goToNextWay_26 : decode cX2_goToNextWay 26 = .ok (.invokevirtual 42, 3) := by decide +kernel
theorem dX2_goToNextWay_29 : decode cX2_goToNextWay 29 = .ok (.checkcast 46, 3) := by decide +kernel
theorem dX2_goToNextWay_32 : decode cX2_goToNextWay 32 = .ok (.getfield 48, 3) := by decide +kernel
theorem dX2_goToNextWay_35 : decode cX2_goToNextWay 35 = .ok (.astore 4, 2) := by decide +kernel
theorem dX2_goToNextWay_37 : decode cX2_goToNextWay 37 = .ok (.aload_n 0, 1) := by decide +kernel
theorem dX2_goToNextWay_38 : decode cX2_goToNextWay 38 = .ok (.getfield 21, 3) := by decide +kernel
theorem dX2_goToNextWay_41 : decode cX2_goToNextWay 41 = .ok (.iload_n 3, 1) := by decide +kernel
theorem dX2_goToNextWay_42 : decode cX2_goToNextWay 42 = .ok (.iaload, 1) := by decide +kernel
theorem dX2_goToNextWay_43 : decode cX2_goToNextWay 43 = .ok (.istore 5, 2) := by decide +kernel
theorem dX2_goToNextWay_45 : decode cX2_goToNextWay 45 = .ok (.iload 5, 2) := by decide +kernel
theorem dX2_goToNextWay_47 : decode cX2_goToNextWay 47 = .ok (.ifCond .lt 42, 3) := by decide +kernel
theorem dX2_goToNextWay_50 : decode cX2_goToNextWay 50 = .ok (.iload 5, 2) := by decide +kernel
theorem dX2_goToNextWay_52 : decode cX2_goToNextWay 52 = .ok (.aload 4, 2) := by decide +kernel
theorem dX2_goToNextWay_54 : decode cX2_goToNextWay 54 = .ok (.invokevirtual 32, 3) := by decide +kernel
theorem dX2_goToNextWay_57 : decode cX2_goToNextWay 57 = .ok (.if_icmp .ge 32, 3) := by decide +kernel
theorem dX2_goToNextWay_60 : decode cX2_goToNextWay 60 = .ok (.aload_n 0, 1) := by decide +kernel
theorem dX2_goToNextWay_61 : decode cX2_goToNextWay 61 = .ok (.getfield 18, 3) := by decide +kernel
theorem dX2_goToNextWay_64 : decode cX2_goToNextWay 64 = .ok (.iload_n 3, 1) := by decide +kernel
theorem dX2_goToNextWay_65 : decode cX2_goToNextWay 65 = .ok (.aload 4, 2) := by decide +kernel
theorem dX2_goToNextWay_67 : decode cX2_goToNextWay 67 = .ok (.iload 5, 2) := by decide +kernel
theorem dX2_goToNextWay_69 : decode cX2_goToNextWay 69 = .ok (.invokevirtual 42, 3) := by decide +kernel
theorem dX2_goToNextWay_72 : decode cX2_goToNextWay 72 = .ok (.checkcast 52, 3) := by decide +kernel
theorem dX2_goToNextWay_75 : decode cX2_goToNextWay 75 = .ok (.invokevirtual 58, 3) := by decide +kernel
theorem dX2_goToNextWay_78 : decode cX2_goToNextWay 78 = .ok (.aload_n 0, 1) := by decide +kernel
theorem dX2_goToNextWay_79 : decode cX2_goToNextWay 79 = .ok (.getfield 21, 3) := by decide +kernel
theorem dX2_goToNextWay_82 : decode cX2_goToNextWay 82 = .ok (.iload_n 3, 1) := by decide +kernel
theorem dX2_goToNextWay_83 : decode cX2_goToNextWay 83 = .ok (.iload 5, 2) := by decide +kernel
theorem dX2_goToNextWay_85 : decode cX2_goToNextWay 85 = .ok (.iconst 1, 1) := by decide +kernel
theorem dX2_goToNextWay_86 : decode cX2_goToNextWay 86 = .ok (.iadd, 1) := by decide +kernel
theorem dX2_goToNextWay_87 : decode cX2_goToNextWay 87 = .ok (.iastore, 1) := by decide +kernel
theorem dX2_goToNextWay_88 : decode cX2_goToNextWay 88 = .ok (.return_, 1) := by decide +kernel
theorem dX2_goToNextWay_89 : decode cX2_goToNextWay 89 = .ok (.aload_n 0, 1) := by decide +kernel
theorem dX2_goToNextWay_90 : decode cX2_goToNextWay 90 = .ok (.getfield 18, 3) := by decide +kernel
theorem dX2_goToNextWay_93 : decode cX2_goToNextWay 93 = .ok (.iload_n 3, 1) := by decide +kernel
theorem dX2_goToNextWay_94 : decode cX2_goToNextWay 94 = .ok (.aconst_null, 1) := by decide +kernel
theorem dX2_goToNextWay_95 : decode cX2_goToNextWay 95 = .ok (.invokevirtual 58, 3) := by decide +kernel
theorem dX2_goToNextWay_98 : decode cX2_goToNextWay 98 = .ok (.aload_n 0, 1) := by decide +kernel
theorem dX2_goToNextWay_99 : decode cX2_goToNextWay 99 = .ok (.getfield 21, 3) := by decide +kernel
theorem dX2_goToNextWay_102 : decode cX2_goToNextWay 102 = .ok (.iload_n 3, 1) := by decide +kernel
theorem dX2_goToNextWay_103 : decode cX2_goToNextWay 103 = .ok (.iconst 0, 1) := by decide +kernel
theorem dX2_goToNextWay_104 : decode cX2_goToNextWay 104 = .ok (.iastore, 1) := by decide +kernel
theorem dX2_goToNextWay_105 : decode cX2_goToNextWay 105 = .ok (.iinc 3 1, 3) := by decide +kernel
theorem dX2_goToNextWay_108 : decode cX2_goToNextWay 108 = .ok (.goto (-106), 3) := by decide +kernel
theorem dX2_goToNextWay_111 : decode cX2_goToNextWay 111 = .ok (.return_, 1) := by decide +kernel
theorem dX2_isChoice_0 : decode cX2_isChoice 0 = .ok (.iconst 5, 1) := by decide +kernel
theorem dX2_isChoice_1 : decode cX2_isChoice 1 = .ok (.istore_n 2, 1) := by decide +kernel
theorem dX2_isChoice_2 : decode cX2_isChoice 2 = .ok (.iload_n 2, 1) := by decide +kernel
theorem dX2_isChoice_3 : decode cX2_isChoice 3 = .ok (.ifCond .lt 51, 3) := by decide +kernel
theorem dX2_isChoice_6 : decode cX2_isChoice 6 = .ok (.aload_n 1, 1) := by decide +kernel
theorem dX2_isChoice_7 : decode cX2_isChoice 7 = .ok (.iload_n 2, 1) := by decide +kernel
theorem dX2_isChoice_8 : decode cX2_isChoice 8 = .ok (.invokevirtual 84, 3) := by decide +kernel
theorem dX2_isChoice_11 : decode cX2_isChoice 11 = .ok (.astore_n 3, 1) := by decide +kernel
theorem dX2_isChoice_12 : decode cX2_isChoice 12 = .ok (.aload_n 0, 1) := by decide +kernel
theorem dX2_isChoice_13 : decode cX2_isChoice 13 = .ok (.aload_n 1, 1) := by decide +kernel
theorem dX2_isChoice_14 : decode cX2_isChoice 14 = .ok (.iload_n 2, 1) := by decide +kernel
theorem dX2_isChoice_15 : decode cX2_isChoice 15 = .ok (.invokestatic 38, 3) := by decide +kernel
theorem dX2_isChoice_18 : decode cX2_isChoice 18 = .ok (.aload_n 3, 1) := by decide +kernel
theorem dX2_isChoice_19 : decode cX2_isChoice 19 = .ok (.ifnull 7, 3) := by decide +kernel
theorem dX2_isChoice_22 : decode cX2_isChoice 22 = .ok (.iconst 1, 1) := by decide +kernel
theorem dX2_isChoice_23 : decode cX2_isChoice 23 = .ok (.goto 4, 3) := by decide +kernel
theorem dX2_isChoice_26 : decode cX2_isChoice 26 = .ok (.iconst 0, 1) := by decide +kernel
theorem dX2_isChoice_27 : decode cX2_isChoice 27 = .ok (.if_icmp .eq 5, 3) := by decide +kernel
theorem dX2_isChoice_30 : decode cX2_isChoice 30 = .ok (.iconst 0, 1) := by decide +kernel
theorem dX2_isChoice_31 : decode cX2_isChoice 31 = .ok (.ireturn, 1) := by decide +kernel
theorem dX2_isChoice_32 : decode cX2_isChoice 32 = .ok (.aload_n 3, 1) := by decide +kernel
theorem dX2_isChoice_33 : decode cX2_isChoice 33 = .ok (.ifnull 15, 3) := by decide +kernel
theorem dX2_isChoice_36 : decode cX2_isChoice 36 = .ok (.aload_n 0, 1) := by decide +kernel
theorem dX2_isChoice_37 : decode cX2_isChoice 37 = .ok (.aload_n 1, 1) := by decide +kernel
theorem dX2_isChoice_38 : decode cX2_isChoice 38 = .ok (.iload_n 2, 1) := by decide +kernel
theorem dX2_isChoice_39 : decode cX2_isChoice 39 = .ok (.aload_n 3, 1) := by decide +kernel
theorem dX2_isChoice_40 : decode cX2_isChoice 40 = .ok (.invokestatic 54, 3) := by decide +kernel
theorem dX2_isChoice_43 : decode cX2_isChoice 43 = .ok (.ifCond .ne 5, 3) := by decide +kernel
theorem dX2_isChoice_46 : decode cX2_isChoice 46 = .ok (.iconst 0, 1) := by decide +kernel
theorem dX2_isChoice_47 : decode cX2_isChoice 47 = .ok (.ireturn, 1) := by decide +kernel
theorem dX2_isChoice_48 : decode cX2_isChoice 48 = .ok (.iinc 2 (-1), 3) := by decide +kernel
theorem dX2_isChoice_51 : decode cX2_isChoice 51 = .ok (.goto (-49), 3) := by decide +kernel
theorem dX2_isChoice_54 : decode cX2_isChoice 54 = .ok (.iconst 1, 1) := by decide +kernel
theorem dX2_isChoice_55 : decode cX2_isChoice 55 = .ok (.ireturn, 1) := by decide +kernel
theorem dX2_isReached_0 : decode cX2_isReached 0 = .ok (.aload_n 0, 1) := by decide +kernel
theorem dX2_isReached_1 : decode cX2_isReached 1 = .ok (.iload_n 2, 1) := by decide +kernel
theorem dX2_isReached_2 : decode cX2_isReached 2 = .ok (.invokevirtual 88, 3) := by decide +kernel
theorem dX2_isReached_5 : decode cX2_isReached 5 = .ok (.ifCond .eq 5, 3) := by decide +kernel
theorem dX2_isReached_8 : decode cX2_isReached 8 = .ok (.iconst 1, 1) := by decide +kernel
theorem dX2_isReached_9 : decode cX2_isReached 9 = .ok (.ireturn, 1) := by decide +kernel
theorem dX2_isReached_10 : decode cX2_isReached 10 = .ok (.iload_n 2, 1) := by decide +kernel
theorem dX2_isReached_11 : decode cX2_isReached 11 = .ok (.iconst 1, 1) := by decide +kernel
theorem dX2_isReached_12 : decode cX2_isReached 12 = .ok (.iadd, 1) := by decide +kernel
theorem dX2_isReached_13 : decode cX2_isReached 13 = .ok (.istore_n 3, 1) := by decide +kernel
theorem dX2_isReached_14 : decode cX2_isReached 14 = .ok (.iload_n 3, 1) := by decide +kernel
theorem dX2_isReached_15 : decode cX2_isReached 15 = .ok (.bipush 6, 2) := by decide +kernel
theorem dX2_isReached_17 : decode cX2_isReached 17 = .ok (.if_icmp .ge 35, 3) := by decide +kernel
theorem dX2_isReached_20 : decode cX2_isReached 20 = .ok (.aload_n 1, 1) := by decide +kernel
theorem dX2_isReached_21 : decode cX2_isReached 21 = .ok (.iload_n 3, 1) := by decide +kernel
theorem dX2_isReached_22 : decode cX2_isReached 22 = .ok (.invokevirtual 84, 3) := by decide +kernel
theorem dX2_isReached_25 : decode cX2_isReached 25 = .ok (.astore 4, 2) := by decide +kernel
theorem dX2_isReached_27 : decode cX2_isReached 27 = .ok (.aload 4, 2) := by decide +kernel
theorem dX2_isReached_29 : decode cX2_isReached 29 = .ok (.ifnull 17, 3) := by decide +kernel
theorem dX2_isReached_32 : decode cX2_isReached 32 = .ok (.aload 4, 2) := by decide +kernel
theorem dX2_isReached_34 : decode cX2_isReached 34 = .ok (.getfield 94, 3) := by decide +kernel
theorem dX2_isReached_37 : decode cX2_isReached 37 = .ok (.iload_n 2, 1) := by decide +kernel
theorem dX2_isReached_38 : decode cX2_isReached 38 = .ok (.invokevirtual 88, 3) := by decide +kernel
theorem dX2_isReached_41 : decode cX2_isReached 41 = .ok (.ifCond .eq 5, 3) := by decide +kernel
theorem dX2_isReached_44 : decode cX2_isReached 44 = .ok (.iconst 1, 1) := by decide +kernel
theorem dX2_isReached_45 : decode cX2_isReached 45 = .ok (.ireturn, 1) := by decide +kernel
theorem dX2_isReached_46 : decode cX2_isReached 46 = .ok (.iinc 3 1, 3) := by decide +kernel
theorem dX2_isReached_49 : decode cX2_isReached 49 = .ok (.goto (-35), 3) := by decide +kernel
theorem dX2_isReached_52 : decode cX2_isReached 52 = .ok (.iconst 0, 1) := by decide +kernel
theorem dX2_isReached_53 : decode cX2_isReached 53 = .ok (.ireturn, 1) := by decide +kernel
theorem dX2_isAdmitted_0 : decode cX2_isAdmitted 0 = .ok (.aload_n 3, 1) := by decide +kernel
theorem dX2_isAdmitted_1 : decode cX2_isAdmitted 1 = .ok (.getfield 98, 3) := by decide +kernel
theorem dX2_isAdmitted_4 : decode cX2_isAdmitted 4 = .ok (.ifCond .ne 15, 3) := by decide +kernel
theorem dX2_isAdmitted_7 : decode cX2_isAdmitted 7 = .ok (.aload_n 0, 1) := by decide +kernel
theorem dX2_isAdmitted_8 : decode cX2_isAdmitted 8 = .ok (.iload_n 2, 1) := by decide +kernel
theorem dX2_isAdmitted_9 : decode cX2_isAdmitted 9 = .ok (.aload_n 3, 1) := by decide +kernel
theorem dX2_isAdmitted_10 : decode cX2_isAdmitted 10 = .ok (.getfield 102, 3) := by decide +kernel
theorem dX2_isAdmitted_13 : decode cX2_isAdmitted 13 = .ok (.invokevirtual 106, 3) := by decide +kernel
theorem dX2_isAdmitted_16 : decode cX2_isAdmitted 16 = .ok (.ifCond .ne 5, 3) := by decide +kernel
theorem dX2_isAdmitted_19 : decode cX2_isAdmitted 19 = .ok (.iconst 0, 1) := by decide +kernel
theorem dX2_isAdmitted_20 : decode cX2_isAdmitted 20 = .ok (.ireturn, 1) := by decide +kernel
theorem dX2_isAdmitted_21 : decode cX2_isAdmitted 21 = .ok (.iload_n 2, 1) := by decide +kernel
theorem dX2_isAdmitted_22 : decode cX2_isAdmitted 22 = .ok (.iconst 1, 1) := by decide +kernel
theorem dX2_isAdmitted_23 : decode cX2_isAdmitted 23 = .ok (.iadd, 1) := by decide +kernel
theorem dX2_isAdmitted_24 : decode cX2_isAdmitted 24 = .ok (.istore 4, 2) := by decide +kernel
theorem dX2_isAdmitted_26 : decode cX2_isAdmitted 26 = .ok (.iload 4, 2) := by decide +kernel
theorem dX2_isAdmitted_28 : decode cX2_isAdmitted 28 = .ok (.bipush 6, 2) := by decide +kernel
theorem dX2_isAdmitted_30 : decode cX2_isAdmitted 30 = .ok (.if_icmp .ge 40, 3) := by decide +kernel
theorem dX2_isAdmitted_33 : decode cX2_isAdmitted 33 = .ok (.aload_n 1, 1) := by decide +kernel
theorem dX2_isAdmitted_34 : decode cX2_isAdmitted 34 = .ok (.iload 4, 2) := by decide +kernel
theorem dX2_isAdmitted_36 : decode cX2_isAdmitted 36 = .ok (.invokevirtual 84, 3) := by decide +kernel
theorem dX2_isAdmitted_39 : decode cX2_isAdmitted 39 = .ok (.astore 5, 2) := by decide +kernel
theorem dX2_isAdmitted_41 : decode cX2_isAdmitted 41 = .ok (.aload 5, 2) := by decide +kernel
theorem dX2_isAdmitted_43 : decode cX2_isAdmitted 43 = .ok (.ifnull 21, 3) := by decide +kernel
theorem dX2_isAdmitted_46 : decode cX2_isAdmitted 46 = .ok (.aload 5, 2) := by decide +kernel
theorem dX2_isAdmitted_48 : decode cX2_isAdmitted 48 = .ok (.getfield 94, 3) := by decide +kernel
theorem dX2_isAdmitted_51 : decode cX2_isAdmitted 51 = .ok (.iload_n 2, 1) := by decide +kernel
theorem dX2_isAdmitted_52 : decode cX2_isAdmitted 52 = .ok (.aload_n 3, 1) := by decide +kernel
theorem dX2_isAdmitted_53 : decode cX2_isAdmitted 53 = .ok (.getfield 102, 3) := by decide +kernel
theorem dX2_isAdmitted_56 : decode cX2_isAdmitted 56 = .ok (.invokevirtual 106, 3) := by decide +kernel
theorem dX2_isAdmitted_59 : decode cX2_isAdmitted 59 = .ok (.ifCond .ne 5, 3) := by decide +kernel
theorem dX2_isAdmitted_62 : decode cX2_isAdmitted 62 = .ok (.iconst 0, 1) := by decide +kernel
theorem dX2_isAdmitted_63 : decode cX2_isAdmitted 63 = .ok (.ireturn, 1) := by decide +kernel
theorem dX2_isAdmitted_64 : decode cX2_isAdmitted 64 = .ok (.iinc 4 1, 3) := by decide +kernel
theorem dX2_isAdmitted_67 : decode cX2_isAdmitted 67 = .ok (.goto (-41), 3) := by decide +kernel
theorem dX2_isAdmitted_70 : decode cX2_isAdmitted 70 = .ok (.iconst 1, 1) := by decide +kernel
theorem dX2_isAdmitted_71 : decode cX2_isAdmitted 71 = .ok (.ireturn, 1) := by decide +kernel
theorem dX3_init_0 : decode cX3_init 0 = .ok (.aload_n 0, 1) := by decide +kernel
theorem dX3_init_1 : decode cX3_init 1 = .ok (.invokespecial 3, 3) := by decide +kernel
theorem dX3_init_4 : decode cX3_init 4 = .ok (.aload_n 0, 1) := by decide +kernel
theorem dX3_init_5 : decode cX3_init 5 = .ok (.bipush 6, 2) := by decide +kernel
theorem dX3_init_7 : decode cX3_init 7 = .ok (.newarray .int, 2) := by decide +kernel
theorem dX3_init_9 : decode cX3_init 9 = .ok (.putfield 9, 3) := by decide +kernel
theorem dX3_init_12 : decode cX3_init 12 = .ok (.aload_n 0, 1) := by decide +kernel
theorem dX3_init_13 : decode cX3_init 13 = .ok (.bipush 6, 2) := by decide +kernel
theorem dX3_init_15 : decode cX3_init 15 = .ok (.newarray .int, 2) := by decide +kernel
theorem dX3_init_17 : decode cX3_init 17 = .ok (.putfield 15, 3) := by decide +kernel
theorem dX3_init_20 : decode cX3_init 20 = .ok (.return_, 1) := by decide +kernel
theorem dX3_has_0 : decode cX3_has 0 = .ok (.iload_n 1, 1) := by decide +kernel
theorem dX3_has_1 : decode cX3_has 1 = .ok (.invokestatic 18, 3) := by decide +kernel
theorem dX3_has_4 : decode cX3_has 4 = .ok (.ifCond .eq 16, 3) := by decide +kernel
theorem dX3_has_7 : decode cX3_has 7 = .ok (.aload_n 0, 1) := by decide +kernel
theorem dX3_has_8 : decode cX3_has 8 = .ok (.getfield 15, 3) := by decide +kernel
theorem dX3_has_11 : decode cX3_has 11 = .ok (.iload_n 1, 1) := by decide +kernel
theorem dX3_has_12 : decode cX3_has 12 = .ok (.iaload, 1) := by decide +kernel
theorem dX3_has_13 : decode cX3_has 13 = .ok (.ifCond .eq 7, 3) := by decide +kernel
theorem dX3_has_16 : decode cX3_has 16 = .ok (.iconst 1, 1) := by decide +kernel
theorem dX3_has_17 : decode cX3_has 17 = .ok (.goto 4, 3) := by decide +kernel
theorem dX3_has_20 : decode cX3_has 20 = .ok (.iconst 0, 1) := by decide +kernel
theorem dX3_has_21 : decode cX3_has 21 = .ok (.ireturn, 1) := by decide +kernel
theorem dX3_admits_0 : decode cX3_admits 0 = .ok (.aload_n 0, 1) := by decide +kernel
theorem dX3_admits_1 : decode cX3_admits 1 = .ok (.iload_n 1, 1) := by decide +kernel
theorem dX3_admits_2 : decode cX3_admits 2 = .ok (.invokevirtual 22, 3) := by decide +kernel
theorem dX3_admits_5 : decode cX3_admits 5 = .ok (.ifCond .eq 22, 3) := by decide +kernel
theorem dX3_admits_8 : decode cX3_admits 8 = .ok (.iload_n 2, 1) := by decide +kernel
theorem dX3_admits_9 : decode cX3_admits 9 = .ok (.aload_n 0, 1) := by decide +kernel
theorem dX3_admits_10 : decode cX3_admits 10 = .ok (.getfield 9, 3) := by decide +kernel
theorem dX3_admits_13 : decode cX3_admits 13 = .ok (.iload_n 1, 1) := by decide +kernel
theorem dX3_admits_14 : decode cX3_admits 14 = .ok (.iaload, 1) := by decide +kernel
theorem dX3_admits_15 : decode cX3_admits 15 = .ok (.aload_n 0, 1) := by decide +kernel
theorem dX3_admits_16 : decode cX3_admits 16 = .ok (.getfield 15, 3) := by decide +kernel
theorem dX3_admits_19 : decode cX3_admits 19 = .ok (.iload_n 1, 1) := by decide +kernel
theorem dX3_admits_20 : decode cX3_admits 20 = .ok (.iaload, 1) := by decide +kernel
theorem dX3_admits_21 : decode cX3_admits 21 = .ok (.invokestatic 25, 3) := by decide +kernel
theorem dX3_admits_24 : decode cX3_admits 24 = .ok (.ifCond .eq 7, 3) := by decide +kernel
theorem dX3_admits_27 : decode cX3_admits 27 = .ok (.iconst 1, 1) := by decide +kernel
theorem dX3_admits_28 : decode cX3_admits 28 = .ok (.goto 4, 3) := by decide +kernel
theorem dX3_admits_31 : decode cX3_admits 31 = .ok (.iconst 0, 1) := by decide +kernel
theorem dX3_admits_32 : decode cX3_admits 32 = .ok (.ireturn, 1) := by decide +kernel
theorem dX3_put_0 : decode cX3_put 0 = .ok (.iload_n 1, 1) := by decide +kernel
theorem dX3_put_1 : decode cX3_put 1 = .ok (.invokestatic 18, 3) := by decide +kernel
theorem dX3_put_4 : decode cX3_put 4 = .ok (.ifCond .eq 17, 3) := by decide +kernel
theorem dX3_put_7 : decode cX3_put 7 = .ok (.aload_n 0, 1) := by decide +kernel
theorem dX3_put_8 : decode cX3_put 8 = .ok (.getfield 9, 3) := by decide +kernel
theorem dX3_put_11 : decode cX3_put 11 = .ok (.iload_n 1, 1) := by decide +kernel
theorem dX3_put_12 : decode cX3_put 12 = .ok (.iload_n 2, 1) := by decide +kernel
theorem dX3_put_13 : decode cX3_put 13 = .ok (.iastore, 1) := by decide +kernel
theorem dX3_put_14 : decode cX3_put 14 = .ok (.aload_n 0, 1) := by decide +kernel
theorem dX3_put_15 : decode cX3_put 15 = .ok (.getfield 15, 3) := by decide +kernel
theorem dX3_put_18 : decode cX3_put 18 = .ok (.iload_n 1, 1) := by decide +kernel
theorem dX3_put_19 : decode cX3_put 19 = .ok (.iload_n 3, 1) := by decide +kernel
theorem dX3_put_20 : decode cX3_put 20 = .ok (.iastore, 1) := by decide +kernel
theorem dX3_put_21 : decode cX3_put 21 = .ok (.return_, 1) := by decide +kernel
theorem dX3_drop_0 : decode cX3_drop 0 = .ok (.aload_n 0, 1) := by decide +kernel
theorem dX3_drop_1 : decode cX3_drop 1 = .ok (.iload_n 1, 1) := by decide +kernel
theorem dX3_drop_2 : decode cX3_drop 2 = .ok (.iconst 0, 1) := by decide +kernel
theorem dX3_drop_3 : decode cX3_drop 3 = .ok (.iconst 0, 1) := by decide +kernel
theorem dX3_drop_4 : decode cX3_drop 4 = .ok (.invokevirtual 29, 3) := by decide +kernel
theorem dX3_drop_7 : decode cX3_drop 7 = .ok (.return_, 1) := by decide +kernel
theorem dX3_count_0 : decode cX3_count 0 = .ok (.iconst 0, 1) := by decide +kernel
theorem dX3_count_1 : decode cX3_count 1 = .ok (.istore_n 1, 1) := by decide +kernel
theorem dX3_count_2 : decode cX3_count 2 = .ok (.iconst 0, 1) := by decide +kernel
theorem dX3_count_3 : decode cX3_count 3 = .ok (.istore_n 2, 1) := by decide +kernel
theorem dX3_count_4 : decode cX3_count 4 = .ok (.iload_n 2, 1) := by decide +kernel
theorem dX3_count_5 : decode cX3_count 5 = .ok (.bipush 6, 2) := by decide +kernel
theorem dX3_count_7 : decode cX3_count 7 = .ok (.if_icmp .ge 25, 3) := by decide +kernel
theorem dX3_count_10 : decode cX3_count 10 = .ok (.iload_n 1, 1) := by decide +kernel
theorem dX3_count_11 : decode cX3_count 11 = .ok (.aload_n 0, 1) := by decide +kernel
theorem dX3_count_12 : decode cX3_count 12 = .ok (.iload_n 2, 1) := by decide +kernel
theorem dX3_count_13 : decode cX3_count 13 = .ok (.invokevirtual 22, 3) := by decide +kernel
theorem dX3_count_16 : decode cX3_count 16 = .ok (.ifCond .eq 7, 3) := by decide +kernel
theorem dX3_count_19 : decode cX3_count 19 = .ok (.iconst 1, 1) := by decide +kernel
theorem dX3_count_20 : decode cX3_count 20 = .ok (.goto 4, 3) := by decide +kernel
theorem dX3_count_23 : decode cX3_count 23 = .ok (.iconst 0, 1) := by decide +kernel
theorem dX3_count_24 : decode cX3_count 24 = .ok (.iadd, 1) := by decide +kernel
theorem dX3_count_25 : decode cX3_count 25 = .ok (.istore_n 1, 1) := by decide +kernel
theorem dX3_count_26 : decode cX3_count 26 = .ok (.iinc 2 1, 3) := by decide +kernel
theorem dX3_count_29 : decode cX3_count 29 = .ok (.goto (-25), 3) := by decide +kernel
theorem dX3_count_32 : decode cX3_count 32 = .ok (.iload_n 1, 1) := by decide +kernel
theorem dX3_count_33 : decode cX3_count 33 = .ok (.ireturn, 1) := by decide +kernel
theorem dX3_sameAs_0 : decode cX3_sameAs 0 = .ok (.iconst 0, 1) := by decide +kernel
theorem dX3_sameAs_1 : decode cX3_sameAs 1 = .ok (.istore_n 2, 1) := by decide +kernel
theorem dX3_sameAs_2 : decode cX3_sameAs 2 = .ok (.iload_n 2, 1) := by decide +kernel
theorem dX3_sameAs_3 : decode cX3_sameAs 3 = .ok (.bipush 6, 2) := by decide +kernel
theorem dX3_sameAs_5 : decode cX3_sameAs 5 = .ok (.if_icmp .ge 41, 3) := by decide +kernel
theorem dX3_sameAs_8 : decode cX3_sameAs 8 = .ok (.aload_n 0, 1) := by decide +kernel
theorem dX3_sameAs_9 : decode cX3_sameAs 9 = .ok (.getfield 9, 3) := by decide +kernel
theorem dX3_sameAs_12 : decode cX3_sameAs 12 = .ok (.iload_n 2, 1) := by decide +kernel
theorem dX3_sameAs_13 : decode cX3_sameAs 13 = .ok (.iaload, 1) := by decide +kernel
theorem dX3_sameAs_14 : decode cX3_sameAs 14 = .ok (.aload_n 1, 1) := by decide +kernel
theorem dX3_sameAs_15 : decode cX3_sameAs 15 = .ok (.getfield 9, 3) := by decide +kernel
theorem dX3_sameAs_18 : decode cX3_sameAs 18 = .ok (.iload_n 2, 1) := by decide +kernel
theorem dX3_sameAs_19 : decode cX3_sameAs 19 = .ok (.iaload, 1) := by decide +kernel
theorem dX3_sameAs_20 : decode cX3_sameAs 20 = .ok (.if_icmp .ne 18, 3) := by decide +kernel
theorem dX3_sameAs_23 : decode cX3_sameAs 23 = .ok (.aload_n 0, 1) := by decide +kernel
theorem dX3_sameAs_24 : decode cX3_sameAs 24 = .ok (.getfield 15, 3) := by decide +kernel
theorem dX3_sameAs_27 : decode cX3_sameAs 27 = .ok (.iload_n 2, 1) := by decide +kernel
theorem dX3_sameAs_28 : decode cX3_sameAs 28 = .ok (.iaload, 1) := by decide +kernel
theorem dX3_sameAs_29 : decode cX3_sameAs 29 = .ok (.aload_n 1, 1) := by decide +kernel
theorem dX3_sameAs_30 : decode cX3_sameAs 30 = .ok (.getfield 15, 3) := by decide +kernel
theorem dX3_sameAs_33 : decode cX3_sameAs 33 = .ok (.iload_n 2, 1) := by decide +kernel
theorem dX3_sameAs_34 : decode cX3_sameAs 34 = .ok (.iaload, 1) := by decide +kernel
theorem dX3_sameAs_35 : decode cX3_sameAs 35 = .ok (.if_icmp .eq 5, 3) := by decide +kernel
theorem dX3_sameAs_38 : decode cX3_sameAs 38 = .ok (.iconst 0, 1) := by decide +kernel
theorem dX3_sameAs_39 : decode cX3_sameAs 39 = .ok (.ireturn, 1) := by decide +kernel
theorem dX3_sameAs_40 : decode cX3_sameAs 40 = .ok (.iinc 2 1, 3) := by decide +kernel
theorem dX3_sameAs_43 : decode cX3_sameAs 43 = .ok (.goto (-41), 3) := by decide +kernel
theorem dX3_sameAs_46 : decode cX3_sameAs 46 = .ok (.iconst 1, 1) := by decide +kernel
theorem dX3_sameAs_47 : decode cX3_sameAs 47 = .ok (.ireturn, 1) := by decide +kernel
theorem dX3_copyFrom_0 : decode cX3_copyFrom 0 = .ok (.iconst 0, 1) := by decide +kernel
theorem dX3_copyFrom_1 : decode cX3_copyFrom 1 = .ok (.istore_n 2, 1) := by decide +kernel
theorem dX3_copyFrom_2 : decode cX3_copyFrom 2 = .ok (.iload_n 2, 1) := by decide +kernel
theorem dX3_copyFrom_3 : decode cX3_copyFrom 3 = .ok (.bipush 6, 2) := by decide +kernel
theorem dX3_copyFrom_5 : decode cX3_copyFrom 5 = .ok (.if_icmp .ge 26, 3) := by decide +kernel
theorem dX3_copyFrom_8 : decode cX3_copyFrom 8 = .ok (.aload_n 0, 1) := by decide +kernel
theorem dX3_copyFrom_9 : decode cX3_copyFrom 9 = .ok (.iload_n 2, 1) := by decide +kernel
theorem dX3_copyFrom_10 : decode cX3_copyFrom 10 = .ok (.aload_n 1, 1) := by decide +kernel
theorem dX3_copyFrom_11 : decode cX3_copyFrom 11 = .ok (.getfield 9, 3) := by decide +kernel
theorem dX3_copyFrom_14 : decode cX3_copyFrom 14 = .ok (.iload_n 2, 1) := by decide +kernel
theorem dX3_copyFrom_15 : decode cX3_copyFrom 15 = .ok (.iaload, 1) := by decide +kernel
theorem dX3_copyFrom_16 : decode cX3_copyFrom 16 = .ok (.aload_n 1, 1) := by decide +kernel
theorem dX3_copyFrom_17 : decode cX3_copyFrom 17 = .ok (.getfield 15, 3) := by decide +kernel
theorem dX3_copyFrom_20 : decode cX3_copyFrom 20 = .ok (.iload_n 2, 1) := by decide +kernel
theorem dX3_copyFrom_21 : decode cX3_copyFrom 21 = .ok (.iaload, 1) := by decide +kernel
theorem dX3_copyFrom_22 : decode cX3_copyFrom 22 = .ok (.invokevirtual 29, 3) := by decide +kernel
theorem dX3_copyFrom_25 : decode cX3_copyFrom 25 = .ok (.iinc 2 1, 3) := by decide +kernel
theorem dX3_copyFrom_28 : decode cX3_copyFrom 28 = .ok (.goto (-26), 3) := by decide +kernel
theorem dX3_copyFrom_31 : decode cX3_copyFrom 31 = .ok (.return_, 1) := by decide +kernel
theorem dX4_init_0 : decode cX4_init 0 = .ok (.aload_n 0, 1) := by decide +kernel
theorem dX4_init_1 : decode cX4_init 1 = .ok (.invokespecial 3, 3) := by decide +kernel
theorem dX4_init_4 : decode cX4_init 4 = .ok (.aload_n 0, 1) := by decide +kernel
theorem dX4_init_5 : decode cX4_init 5 = .ok (.iload_n 1, 1) := by decide +kernel
theorem dX4_init_6 : decode cX4_init 6 = .ok (.putfield 9, 3) := by decide +kernel
theorem dX4_init_9 : decode cX4_init 9 = .ok (.aload_n 0, 1) := by decide +kernel
theorem dX4_init_10 : decode cX4_init 10 = .ok (.new 15, 3) := by decide +kernel
theorem dX4_init_13 : decode cX4_init 13 = .ok (.dup, 1) := by decide +kernel
theorem dX4_init_14 : decode cX4_init 14 = .ok (.invokespecial 17, 3) := by decide +kernel
theorem dX4_init_17 : decode cX4_init 17 = .ok (.putfield 18, 3) := by decide +kernel
theorem dX4_init_20 : decode cX4_init 20 = .ok (.aload_n 0, 1) := by decide +kernel
theorem dX4_init_21 : decode cX4_init 21 = .ok (.new 22, 3) := by decide +kernel
theorem dX4_init_24 : decode cX4_init 24 = .ok (.dup, 1) := by decide +kernel
theorem dX4_init_25 : decode cX4_init 25 = .ok (.invokespecial 24, 3) := by decide +kernel
theorem dX4_init_28 : decode cX4_init 28 = .ok (.putfield 25, 3) := by decide +kernel
theorem dX4_init_31 : decode cX4_init 31 = .ok (.aload_n 0, 1) := by decide +kernel
theorem dX4_init_32 : decode cX4_init 32 = .ok (.new 29, 3) := by decide +kernel
theorem dX4_init_35 : decode cX4_init 35 = .ok (.dup, 1) := by decide +kernel
theorem dX4_init_36 : decode cX4_init 36 = .ok (.invokespecial 31, 3) := by decide +kernel
theorem dX4_init_39 : decode cX4_init 39 = .ok (.putfield 32, 3) := by decide +kernel
theorem dX4_init_42 : decode cX4_init 42 = .ok (.aload_n 0, 1) := by decide +kernel
theorem dX4_init_43 : decode cX4_init 43 = .ok (.new 36, 3) := by decide +kernel
theorem dX4_init_46 : decode cX4_init 46 = .ok (.dup, 1) := by decide +kernel
theorem dX4_init_47 : decode cX4_init 47 = .ok (.invokespecial 38, 3) := by decide +kernel
theorem dX4_init_50 : decode cX4_init 50 = .ok (.putfield 39, 3) := by decide +kernel
theorem dX4_init_53 : decode cX4_init 53 = .ok (.return_, 1) := by decide +kernel
theorem dX4_isPassedWith_0 : decode cX4_isPassedWith 0 = .ok (.aload_n 1, 1) := by decide +kernel
theorem dX4_isPassedWith_1 : decode cX4_isPassedWith 1 = .ok (.ifnull 48, 3) := by decide +kernel
theorem dX4_isPassedWith_4 : decode cX4_isPassedWith 4 = .ok (.aload_n 0, 1) := by decide +kernel
theorem dX4_isPassedWith_5 : decode cX4_isPassedWith 5 = .ok (.getfield 32, 3) := by decide +kernel
theorem dX4_isPassedWith_8 : decode cX4_isPassedWith 8 = .ok (.getfield 43, 3) := by decide +kernel
theorem dX4_isPassedWith_11 : decode cX4_isPassedWith 11 = .ok (.ifCond .eq 38, 3) := by decide +kernel
theorem dX4_isPassedWith_14 : decode cX4_isPassedWith 14 = .ok (.aload_n 0, 1) := by decide +kernel
theorem dX4_isPassedWith_15 : decode cX4_isPassedWith 15 = .ok (.getfield 32, 3) := by decide +kernel
theorem dX4_isPassedWith_18 : decode cX4_isPassedWith 18 = .ok (.getfield 47, 3) := by decide +kernel
theorem dX4_isPassedWith_21 : decode cX4_isPassedWith 21 = .ok (.aload_n 0, 1) := by decide +kernel
theorem dX4_isPassedWith_22 : decode cX4_isPassedWith 22 = .ok (.getfield 18, 3) := by decide +kernel
theorem dX4_isPassedWith_25 : decode cX4_isPassedWith 25 = .ok (.invokevirtual 48, 3) := by decide +kernel
theorem dX4_isPassedWith_28 : decode cX4_isPassedWith 28 = .ok (.ifCond .eq 21, 3) := by decide +kernel
theorem dX4_isPassedWith_31 : decode cX4_isPassedWith 31 = .ok (.aload_n 0, 1) := by decide +kernel
theorem dX4_isPassedWith_32 : decode cX4_isPassedWith 32 = .ok (.getfield 32, 3) := by decide +kernel
theorem dX4_isPassedWith_35 : decode cX4_isPassedWith 35 = .ok (.getfield 52, 3) := by decide +kernel
theorem dX4_isPassedWith_38 : decode cX4_isPassedWith 38 = .ok (.aload_n 1, 1) := by decide +kernel
theorem dX4_isPassedWith_39 : decode cX4_isPassedWith 39 = .ok (.invokevirtual 56, 3) := by decide +kernel
theorem dX4_isPassedWith_42 : decode cX4_isPassedWith 42 = .ok (.ifCond .ne 7, 3) := by decide +kernel
theorem dX4_isPassedWith_45 : decode cX4_isPassedWith 45 = .ok (.iconst 1, 1) := by decide +kernel
theorem dX4_isPassedWith_46 : decode cX4_isPassedWith 46 = .ok (.goto 4, 3) := by decide +kernel
theorem dX4_isPassedWith_49 : decode cX4_isPassedWith 49 = .ok (.iconst 0, 1) := by decide +kernel
theorem dX4_isPassedWith_50 : decode cX4_isPassedWith 50 = .ok (.ireturn, 1) := by decide +kernel
theorem dX4_versionAhead_0 : decode cX4_versionAhead 0 = .ok (.aload_n 0, 1) := by decide +kernel
theorem dX4_versionAhead_1 : decode cX4_versionAhead 1 = .ok (.getfield 39, 3) := by decide +kernel
theorem dX4_versionAhead_4 : decode cX4_versionAhead 4 = .ok (.invokevirtual 62, 3) := by decide +kernel
theorem dX4_versionAhead_7 : decode cX4_versionAhead 7 = .ok (.ifCond .eq 6, 3) := by decide +kernel
theorem dX4_versionAhead_10 : decode cX4_versionAhead 10 = .ok (.bipush 100, 2) := by decide +kernel
theorem dX4_versionAhead_12 : decode cX4_versionAhead 12 = .ok (.ireturn, 1) := by decide +kernel
theorem dX4_versionAhead_13 : decode cX4_versionAhead 13 = .ok (.aload_n 0, 1) := by decide +kernel
theorem dX4_versionAhead_14 : decode cX4_versionAhead 14 = .ok (.getfield 39, 3) := by decide +kernel
theorem dX4_versionAhead_17 : decode cX4_versionAhead 17 = .ok (.aload_n 0, 1) := by decide +kernel
theorem dX4_versionAhead_18 : decode cX4_versionAhead 18 = .ok (.getfield 39, 3) := by decide +kernel
theorem dX4_versionAhead_21 : decode cX4_versionAhead 21 = .ok (.invokevirtual 66, 3) := by decide +kernel
theorem dX4_versionAhead_24 : decode cX4_versionAhead 24 = .ok (.iconst 1, 1) := by decide +kernel
theorem dX4_versionAhead_25 : decode cX4_versionAhead 25 = .ok (.isub, 1) := by decide +kernel
theorem dX4_versionAhead_26 : decode cX4_versionAhead 26 = .ok (.invokevirtual 70, 3) := by decide +kernel
theorem dX4_versionAhead_29 : decode cX4_versionAhead 29 = .ok (.checkcast 74, 3) := by decide +kernel
theorem dX4_versionAhead_32 : decode cX4_versionAhead 32 = .ok (.astore_n 1, 1) := by decide +kernel
theorem dX4_versionAhead_33 : decode cX4_versionAhead 33 = .ok (.aload_n 1, 1) := by decide +kernel
theorem dX4_versionAhead_34 : decode cX4_versionAhead 34 = .ok (.getfield 76, 3) := by decide +kernel
theorem dX4_versionAhead_37 : decode cX4_versionAhead 37 = .ok (.aload_n 0, 1) := by decide +kernel
theorem dX4_versionAhead_38 : decode cX4_versionAhead 38 = .ok (.getfield 18, 3) := by decide +kernel
theorem dX4_versionAhead_41 : decode cX4_versionAhead 41 = .ok (.getfield 79, 3) := by decide +kernel
theorem dX4_versionAhead_44 : decode cX4_versionAhead 44 = .ok (.if_icmp .ne 10, 3) := by decide +kernel
theorem dX4_versionAhead_47 : decode cX4_versionAhead 47 = .ok (.aload_n 1, 1) := by decide +kernel
theorem dX4_versionAhead_48 : decode cX4_versionAhead 48 = .ok (.getfield 80, 3) := by decide +kernel
theorem dX4_versionAhead_51 : decode cX4_versionAhead 51 = .ok (.iconst 1, 1) := by decide +kernel
theorem dX4_versionAhead_52 : decode cX4_versionAhead 52 = .ok (.iadd, 1) := by decide +kernel
theorem dX4_versionAhead_53 : decode cX4_versionAhead 53 = .ok (.ireturn, 1) := by decide +kernel
theorem dX4_versionAhead_54 : decode cX4_versionAhead 54 = .ok (.aload_n 1, 1) := by decide +kernel
theorem dX4_versionAhead_55 : decode cX4_versionAhead 55 = .ok (.getfield 80, 3) := by decide +kernel
theorem dX4_versionAhead_58 : decode cX4_versionAhead 58 = .ok (.bipush 100, 2) := by decide +kernel
theorem dX4_versionAhead_60 : decode cX4_versionAhead 60 = .ok (.idiv, 1) := by decide +kernel
theorem dX4_versionAhead_61 : decode cX4_versionAhead 61 = .ok (.iconst 1, 1) := by decide +kernel
theorem dX4_versionAhead_62 : decode cX4_versionAhead 62 = .ok (.iadd, 1) := by decide +kernel
theorem dX4_versionAhead_63 : decode cX4_versionAhead 63 = .ok (.bipush 100, 2) := by decide +kernel
theorem dX4_versionAhead_65 : decode cX4_versionAhead 65 = .ok (.imul, 1) := by decide +kernel
theorem dX4_versionAhead_66 : decode cX4_versionAhead 66 = .ok (.ireturn, 1) := by decide +kernel
theorem dX4_releaseOf_0 : decode cX4_releaseOf 0 = .ok (.iconst 0, 1) := by decide +kernel
theorem dX4_releaseOf_1 : decode cX4_releaseOf 1 = .ok (.istore_n 2, 1) := by decide +kernel
theorem dX4_releaseOf_2 : decode cX4_releaseOf 2 = .ok (.iload_n 2, 1) := by decide +kernel
theorem dX4_releaseOf_3 : decode cX4_releaseOf 3 = .ok (.aload_n 0, 1) := by decide +kernel
theorem dX4_releaseOf_4 : decode cX4_releaseOf 4 = .ok (.getfield 39, 3) := by decide +kernel
theorem dX4_releaseOf_7 : decode cX4_releaseOf 7 = .ok (.invokevirtual 66, 3) := by decide +kernel
theorem dX4_releaseOf_10 : decode cX4_releaseOf 10 = .ok (.if_icmp .ge 31, 3) := by decide +kernel
theorem dX4_releaseOf_13 : decode cX4_releaseOf 13 = .ok (.aload_n 0, 1) := by decide +kernel
theorem dX4_releaseOf_14 : decode cX4_releaseOf 14 = .ok (.getfield 39, 3) := by decide +kernel
theorem dX4_releaseOf_17 : decode cX4_releaseOf 17 = .ok (.iload_n 2, 1) := by decide +kernel
theorem dX4_releaseOf_18 : decode cX4_releaseOf 18 = .ok (.invokevirtual 70, 3) := by decide +kernel
theorem dX4_releaseOf_21 : decode cX4_releaseOf 21 = .ok (.checkcast 74, 3) := by decide +kernel
theorem dX4_releaseOf_24 : decode cX4_releaseOf 24 = .ok (.astore_n 3, 1) := by decide +kernel
theorem dX4_releaseOf_25 : decode cX4_releaseOf 25 = .ok (.aload_n 3, 1) := by decide +kernel
theorem dX4_releaseOf_26 : decode cX4_releaseOf 26 = .ok (.getfield 80, 3) := by decide +kernel
theorem dX4_releaseOf_29 : decode cX4_releaseOf 29 = .ok (.iload_n 1, 1) := by decide +kernel
theorem dX4_releaseOf_30 : decode cX4_releaseOf 30 = .ok (.if_icmp .ne 5, 3) := by decide +kernel
theorem dX4_releaseOf_33 : decode cX4_releaseOf 33 = .ok (.aload_n 3, 1) := by decide +kernel
theorem dX4_releaseOf_34 : decode cX4_releaseOf 34 = .ok (.areturn, 1) := by decide +kernel
theorem dX4_releaseOf_35 : decode cX4_releaseOf 35 = .ok (.iinc 2 1, 3) := by decide +kernel
theorem dX4_releaseOf_38 : decode cX4_releaseOf 38 = .ok (.goto (-36), 3) := by decide +kernel
theorem dX4_releaseOf_41 : decode cX4_releaseOf 41 = .ok (.aconst_null, 1) := by decide +kernel
theorem dX4_releaseOf_42 : decode cX4_releaseOf 42 = .ok (.areturn, 1) := by decide +kernel
theorem dX5_init_0 : decode cX5_init 0 = .ok (.aload_n 0, 1) := by decide +kernel
theorem dX5_init_1 : decode cX5_init 1 = .ok (.invokespecial 1, 3) := by decide +kernel
theorem dX5_init_4 : decode cX5_init 4 = .ok (.aload_n 0, 1) := by decide +kernel
theorem dX5_init_5 : decode cX5_init 5 = .ok (.iload_n 1, 1) := by decide +kernel
theorem dX5_init_6 : decode cX5_init 6 = .ok (.putfield 7, 3) := by decide +kernel
theorem dX5_init_9 : decode cX5_init 9 = .ok (.aload_n 0, 1) := by decide +kernel
theorem dX5_init_10 : decode cX5_init 10 = .ok (.aload_n 2, 1) := by decide +kernel
theorem dX5_init_11 : decode cX5_init 11 = .ok (.getfield 13, 3) := by decide +kernel
theorem dX5_init_14 : decode cX5_init 14 = .ok (.putfield 18, 3) := by decide +kernel
theorem dX5_init_17 : decode cX5_init 17 = .ok (.aload_n 0, 1) := by decide +kernel
theorem dX5_init_18 : decode cX5_init 18 = .ok (.new 19, 3) := by decide +kernel
theorem dX5_init_21 : decode cX5_init 21 = .ok (.dup, 1) := by decide +kernel
theorem dX5_init_22 : decode cX5_init 22 = .ok (.invokespecial 21, 3) := by decide +kernel
theorem dX5_init_25 : decode cX5_init 25 = .ok (.putfield 22, 3) := by decide +kernel
theorem dX5_init_28 : decode cX5_init 28 = .ok (.aload_n 0, 1) := by decide +kernel
theorem dX5_init_29 : decode cX5_init 29 = .ok (.getfield 22, 3) := by decide +kernel
theorem dX5_init_32 : decode cX5_init 32 = .ok (.aload_n 2, 1) := by decide +kernel
theorem dX5_init_33 : decode cX5_init 33 = .ok (.getfield 26, 3) := by decide +kernel
theorem dX5_init_36 : decode cX5_init 36 = .ok (.invokevirtual 27, 3) := by decide +kernel
theorem dX5_init_39 : decode cX5_init 39 = .ok (.aload_n 0, 1) := by decide +kernel
theorem dX5_init_40 : decode cX5_init 40 = .ok (.new 31, 3) := by decide +kernel
theorem dX5_init_43 : decode cX5_init 43 = .ok (.dup, 1) := by decide +kernel
theorem dX5_init_44 : decode cX5_init 44 = .ok (.invokespecial 33, 3) := by decide +kernel
theorem dX5_init_47 : decode cX5_init 47 = .ok (.putfield 34, 3) := by decide +kernel
theorem dX5_init_50 : decode cX5_init 50 = .ok (.aload_n 0, 1) := by decide +kernel
theorem dX5_init_51 : decode cX5_init 51 = .ok (.getfield 34, 3) := by decide +kernel
theorem dX5_init_54 : decode cX5_init 54 = .ok (.aload_n 3, 1) := by decide +kernel
theorem dX5_init_55 : decode cX5_init 55 = .ok (.invokevirtual 38, 3) := by decide +kernel
theorem dX5_init_58 : decode cX5_init 58 = .ok (.return_, 1) := by decide +kernel
theorem dX5_isOutdated_0 : decode cX5_isOutdated 0 = .ok (.aload_n 0, 1) := by decide +kernel
theorem dX5_isOutdated_1 : decode cX5_isOutdated 1 = .ok (.getfield 41, 3) := by decide +kernel
theorem dX5_isOutdated_4 : decode cX5_isOutdated 4 = .ok (.ifCond .ne 17, 3) := by decide +kernel
theorem dX5_isOutdated_7 : decode cX5_isOutdated 7 = .ok (.aload_n 0, 1) := by decide +kernel
theorem dX5_isOutdated_8 : decode cX5_isOutdated 8 = .ok (.getfield 34, 3) := by decide +kernel
theorem dX5_isOutdated_11 : decode cX5_isOutdated 11 = .ok (.invokevirtual 45, 3) := by decide +kernel
theorem dX5_isOutdated_14 : decode cX5_isOutdated 14 = .ok (.ifCond .eq 7, 3) := by decide +kernel
theorem dX5_isOutdated_17 : decode cX5_isOutdated 17 = .ok (.iconst 1, 1) := by decide +kernel
theorem dX5_isOutdated_18 : decode cX5_isOutdated 18 = .ok (.goto 4, 3) := by decide +kernel
theorem dX5_isOutdated_21 : decode cX5_isOutdated 21 = .ok (.iconst 0, 1) := by decide +kernel
theorem dX5_isOutdated_22 : decode cX5_isOutdated 22 = .ok (.ireturn, 1) := by decide +kernel
theorem dX6_init_0 : decode cX6_init 0 = .ok (.aload_n 0, 1) := by decide +kernel
theorem dX6_init_1 : decode cX6_init 1 = .ok (.invokespecial 1, 3) := by decide +kernel
theorem dX6_init_4 : decode cX6_init 4 = .ok (.aload_n 0, 1) := by decide +kernel
theorem dX6_init_5 : decode cX6_init 5 = .ok (.new 7, 3) := by decide +kernel
theorem dX6_init_8 : decode cX6_init 8 = .ok (.dup, 1) := by decide +kernel
theorem dX6_init_9 : decode cX6_init 9 = .ok (.invokespecial 9, 3) := by decide +kernel
theorem dX6_init_12 : decode cX6_init 12 = .ok (.putfield 10, 3) := by decide +kernel
theorem dX6_init_15 : decode cX6_init 15 = .ok (.return_, 1) := by decide +kernel
theorem dX6_sameAs_0 : decode cX6_sameAs 0 = .ok (.aload_n 0, 1) := by decide +kernel
theorem dX6_sameAs_1 : decode cX6_sameAs 1 = .ok (.getfield 16, 3) := by decide +kernel
theorem dX6_sameAs_4 : decode cX6_sameAs 4 = .ok (.aload_n 1, 1) := by decide +kernel
theorem dX6_sameAs_5 : decode cX6_sameAs 5 = .ok (.getfield 16, 3) := by decide +kernel
theorem dX6_sameAs_8 : decode cX6_sameAs 8 = .ok (.if_icmp .ne 32, 3) := by decide +kernel
theorem dX6_sameAs_11 : decode cX6_sameAs 11 = .ok (.aload_n 0, 1) := by decide +kernel
theorem dX6_sameAs_12 : decode cX6_sameAs 12 = .ok (.getfield 20, 3) := by decide +kernel
theorem dX6_sameAs_15 : decode cX6_sameAs 15 = .ok (.aload_n 1, 1) := by decide +kernel
theorem dX6_sameAs_16 : decode cX6_sameAs 16 = .ok (.getfield 20, 3) := by decide +kernel
theorem dX6_sameAs_19 : decode cX6_sameAs 19 = .ok (.if_icmp .ne 21, 3) := by decide +kernel
theorem dX6_sameAs_22 : decode cX6_sameAs 22 = .ok (.aload_n 0, 1) := by decide +kernel
theorem dX6_sameAs_23 : decode cX6_sameAs 23 = .ok (.getfield 10, 3) := by decide +kernel
theorem dX6_sameAs_26 : decode cX6_sameAs 26 = .ok (.aload_n 1, 1) := by decide +kernel
theorem dX6_sameAs_27 : decode cX6_sameAs 27 = .ok (.getfield 10, 3) := by decide +kernel
theorem dX6_sameAs_30 : decode cX6_sameAs 30 = .ok (.invokevirtual 23, 3) := by decide +kernel
theorem dX6_sameAs_33 : decode cX6_sameAs 33 = .ok (.ifCond .eq 7, 3) := by decide +kernel
theorem dX6_sameAs_36 : decode cX6_sameAs 36 = .ok (.iconst 1, 1) := by decide +kernel
theorem dX6_sameAs_37 : decode cX6_sameAs 37 = .ok (.goto 4, 3) := by decide +kernel
theorem dX6_sameAs_40 : decode cX6_sameAs 40 = .ok (.iconst 0, 1) := by decide +kernel
theorem dX6_sameAs_41 : decode cX6_sameAs 41 = .ok (.ireturn, 1) := by decide +kernel
theorem dX6_copyFrom_0 : decode cX6_copyFrom 0 = .ok (.aload_n 0, 1) := by decide +kernel
theorem dX6_copyFrom_1 : decode cX6_copyFrom 1 = .ok (.aload_n 1, 1) := by decide +kernel
theorem dX6_copyFrom_2 : decode cX6_copyFrom 2 = .ok (.getfield 16, 3) := by decide +kernel
theorem dX6_copyFrom_5 : decode cX6_copyFrom 5 = .ok (.putfield 16, 3) := by decide +kernel
theorem dX6_copyFrom_8 : decode cX6_copyFrom 8 = .ok (.aload_n 0, 1) := by decide +kernel
theorem dX6_copyFrom_9 : decode cX6_copyFrom 9 = .ok (.aload_n 1, 1) := by decide +kernel
theorem dX6_copyFrom_10 : decode cX6_copyFrom 10 = .ok (.getfield 20, 3) := by decide +kernel
theorem dX6_copyFrom_13 : decode cX6_copyFrom 13 = .ok (.putfield 20, 3) := by decide +kernel
theorem dX6_copyFrom_16 : decode cX6_copyFrom 16 = .ok (.aload_n 0, 1) := by decide +kernel
theorem dX6_copyFrom_17 : decode cX6_copyFrom 17 = .ok (.getfield 10, 3) := by decide +kernel
theorem dX6_copyFrom_20 : decode cX6_copyFrom 20 = .ok (.aload_n 1, 1) := by decide +kernel
theorem dX6_copyFrom_21 : decode cX6_copyFrom 21 = .ok (.getfield 10, 3) := by decide +kernel
theorem dX6_copyFrom_24 : decode cX6_copyFrom 24 = .ok (.invokevirtual 27, 3) := by decide +kernel
theorem dX6_copyFrom_27 : decode cX6_copyFrom 27 = .ok (.return_, 1) := by decide +kernel
theorem dX7_init_0 : decode cX7_init 0 = .ok (.aload_n 0, 1) := by decide +kernel
theorem dX7_init_1 : decode cX7_init 1 = .ok (.invokespecial 3, 3) := by decide +kernel
theorem dX7_init_4 : decode cX7_init 4 = .ok (.aload_n 0, 1) := by decide +kernel
theorem dX7_init_5 : decode cX7_init 5 = .ok (.iload_n 1, 1) := by decide +kernel
theorem dX7_init_6 : decode cX7_init 6 = .ok (.putfield 9, 3) := by decide +kernel
theorem dX7_init_9 : decode cX7_init 9 = .ok (.aload_n 0, 1) := by decide +kernel
theorem dX7_init_10 : decode cX7_init 10 = .ok (.iload_n 2, 1) := by decide +kernel
theorem dX7_init_11 : decode cX7_init 11 = .ok (.putfield 15, 3) := by decide +kernel
theorem dX7_init_14 : decode cX7_init 14 = .ok (.aload_n 0, 1) := by decide +kernel
theorem dX7_init_15 : decode cX7_init 15 = .ok (.bipush 8, 2) := by decide +kernel
theorem dX7_init_17 : decode cX7_init 17 = .ok (.newarray .boolean, 2) := by decide +kernel
theorem dX7_init_19 : decode cX7_init 19 = .ok (.putfield 18, 3) := by decide +kernel
theorem dX7_init_22 : decode cX7_init 22 = .ok (.return_, 1) := by decide +kernel
theorem dX7_addResult_0 : decode cX7_addResult 0 = .ok (.aload_n 0, 1) := by decide +kernel
theorem dX7_addResult_1 : decode cX7_addResult 1 = .ok (.getfield 22, 3) := by decide +kernel
theorem dX7_addResult_4 : decode cX7_addResult 4 = .ok (.bipush 8, 2) := by decide +kernel
theorem dX7_addResult_6 : decode cX7_addResult 6 = .ok (.if_icmp .lt 7, 3) := by decide +kernel
theorem dX7_addResult_9 : decode cX7_addResult 9 = .ok (.aload_n 0, 1) := by decide +kernel
theorem dX7_addResult_10 : decode cX7_addResult 10 = .ok (.invokevirtual 25, 3) := by decide +kernel
theorem dX7_addResult_13 : decode cX7_addResult 13 = .ok (.aload_n 0, 1) := by decide +kernel
theorem dX7_addResult_14 : decode cX7_addResult 14 = .ok (.getfield 22, 3) := by decide +kernel
theorem dX7_addResult_17 : decode cX7_addResult 17 = .ok (.ifCond .lt 32, 3) := by decide +kernel
theorem dX7_addResult_20 : decode cX7_addResult 20 = .ok (.aload_n 0, 1) := by decide +kernel
theorem dX7_addResult_21 : decode cX7_addResult 21 = .ok (.getfield 22, 3) := by decide +kernel
theorem dX7_addResult_24 : decode cX7_addResult 24 = .ok (.bipush 8, 2) := by decide +kernel
theorem dX7_addResult_26 : decode cX7_addResult 26 = .ok (.if_icmp .ge 23, 3) := by decide +kernel
theorem dX7_addResult_29 : decode cX7_addResult 29 = .ok (.aload_n 0, 1) := by decide +kernel
theorem dX7_addResult_30 : decode cX7_addResult 30 = .ok (.getfield 18, 3) := by decide +kernel
theorem dX7_addResult_33 : decode cX7_addResult 33 = .ok (.aload_n 0, 1) := by decide +kernel
theorem dX7_addResult_34 : decode cX7_addResult 34 = .ok (.getfield 22, 3) := by decide +kernel
theorem dX7_addResult_37 : decode cX7_addResult 37 = .ok (.iload_n 1, 1) := by decide +kernel
theorem dX7_addResult_38 : decode cX7_addResult 38 = .ok (.bastore, 1) := by decide +kernel
theorem dX7_addResult_39 : decode cX7_addResult 39 = .ok (.aload_n 0, 1) := by decide +kernel
theorem dX7_addResult_40 : decode cX7_addResult 40 = .ok (.dup, 1) := by decide +kernel
theorem dX7_addResult_41 : decode cX7_addResult 41 = .ok (.getfield 22, 3) := by decide +kernel
theorem dX7_addResult_44 : decode cX7_addResult 44 = .ok (.iconst 1, 1) := by decide +kernel
theorem dX7_addResult_45 : decode cX7_addResult 45 = .ok (.iadd, 1) := by decide +kernel
theorem dX7_addResult_46 : decode cX7_addResult 46 = .ok (.putfield 22, 3) := by decide +kernel
theorem dX7_addResult_49 : decode cX7_addResult 49 = .ok (.return_, 1) := by decide +kernel
theorem dX7_forgetOldest_0 : decode cX7_forgetOldest 0 = .ok (.iconst 1, 1) := by decide +kernel
theorem dX7_forgetOldest_1 : decode cX7_forgetOldest 1 = .ok (.istore_n 1, 1) := by decide +kernel
theorem dX7_forgetOldest_2 : decode cX7_forgetOldest 2 = .ok (.iload_n 1, 1) := by decide +kernel
theorem dX7_forgetOldest_3 : decode cX7_forgetOldest 3 = .ok (.bipush 8, 2) := by decide +kernel
theorem dX7_forgetOldest_5 : decode cX7_forgetOldest 5 = .ok (.if_icmp .ge 23, 3) := by decide +kernel
theorem dX7_forgetOldest_8 : decode cX7_forgetOldest 8 = .ok (.aload_n 0, 1) := by decide +kernel
theorem dX7_forgetOldest_9 : decode cX7_forgetOldest 9 = .ok (.getfield 18, 3) := by decide +kernel
theorem dX7_forgetOldest_12 : decode cX7_forgetOldest 12 = .ok (.iload_n 1, 1) := by decide +kernel
theorem dX7_forgetOldest_13 : decode cX7_forgetOldest 13 = .ok (.iconst 1, 1) := by decide +kernel
theorem dX7_forgetOldest_14 : decode cX7_forgetOldest 14 = .ok (.isub, 1) := by decide +kernel
theorem dX7_forgetOldest_15 : decode cX7_forgetOldest 15 = .ok (.aload_n 0, 1) := by decide +kernel
theorem dX7_forgetOldest_16 : decode cX7_forgetOldest 16 = .ok (.getfield 18, 3) := by decide +kernel
theorem dX7_forgetOldest_19 : decode cX7_forgetOldest 19 = .ok (.iload_n 1, 1) := by decide +kernel
theorem dX7_forgetOldest_20 : decode cX7_forgetOldest 20 = .ok (.baload, 1) := by decide +kernel
theorem dX7_forgetOldest_21 : decode cX7_forgetOldest 21 = .ok (.bastore, 1) := by decide +kernel
theorem dX7_forgetOldest_22 : decode cX7_forgetOldest 22 = .ok (.iinc 1 1, 3) := by decide +kernel
theorem dX7_forgetOldest_25 : decode cX7_forgetOldest 25 = .ok (.goto (-23), 3) := by decide +kernel
theorem dX7_forgetOldest_28 : decode cX7_forgetOldest 28 = .ok (.aload_n 0, 1) := by decide +kernel
theorem dX7_forgetOldest_29 : decode cX7_forgetOldest 29 = .ok (.bipush 7, 2) := by decide +kernel
theorem dX7_forgetOldest_31 : decode cX7_forgetOldest 31 = .ok (.putfield 22, 3) := by decide +kernel
theorem dX7_forgetOldest_34 : decode cX7_forgetOldest 34 = .ok (.return_, 1) := by decide +kernel
theorem dX7_countTurns_0 : decode cX7_countTurns 0 = .ok (.iconst 0, 1) := by decide +kernel
theorem dX7_countTurns_1 : decode cX7_countTurns 1 = .ok (.istore_n 1, 1) := by decide +kernel
theorem dX7_countTurns_2 : decode cX7_countTurns 2 = .ok (.iconst 1, 1) := by decide +kernel
theorem dX7_countTurns_3 : decode cX7_countTurns 3 = .ok (.istore_n 2, 1) := by decide +kernel
theorem dX7_countTurns_4 : decode cX7_countTurns 4 = .ok (.iload_n 2, 1) := by decide +kernel
theorem dX7_countTurns_5 : decode cX7_countTurns 5 = .ok (.aload_n 0, 1) := by decide +kernel
theorem dX7_countTurns_6 : decode cX7_countTurns 6 = .ok (.getfield 22, 3) := by decide +kernel
theorem dX7_countTurns_9 : decode cX7_countTurns 9 = .ok (.if_icmp .ge 40, 3) := by decide +kernel
theorem dX7_countTurns_12 : decode cX7_countTurns 12 = .ok (.iload_n 2, 1) := by decide +kernel
theorem dX7_countTurns_13 : decode cX7_countTurns 13 = .ok (.bipush 8, 2) := by decide +kernel
theorem dX7_countTurns_15 : decode cX7_countTurns 15 = .ok (.if_icmp .ge 34, 3) := by decide +kernel
theorem dX7_countTurns_18 : decode cX7_countTurns 18 = .ok (.iload_n 1, 1) := by decide +kernel
theorem dX7_countTurns_19 : decode cX7_countTurns 19 = .ok (.aload_n 0, 1) := by decide +kernel
theorem dX7_countTurns_20 : decode cX7_countTurns 20 = .ok (.getfield 18, 3) := by decide +kernel
theorem dX7_countTurns_23 : decode cX7_countTurns 23 = .ok (.iload_n 2, 1) := by decide +kernel
theorem dX7_countTurns_24 : decode cX7_countTurns 24 = .ok (.baload, 1) := by decide +kernel
theorem dX7_countTurns_25 : decode cX7_countTurns 25 = .ok (.aload_n 0, 1) := by decide +kernel
theorem dX7_countTurns_26 : decode cX7_countTurns 26 = .ok (.getfield 18, 3) := by decide +kernel
theorem dX7_countTurns_29 : decode cX7_countTurns 29 = .ok (.iload_n 2, 1) := by decide +kernel
theorem dX7_countTurns_30 : decode cX7_countTurns 30 = .ok (.iconst 1, 1) := by decide +kernel
theorem dX7_countTurns_31 : decode cX7_countTurns 31 = .ok (.isub, 1) := by decide +kernel
theorem dX7_countTurns_32 : decode cX7_countTurns 32 = .ok (.baload, 1) := by decide +kernel
theorem dX7_countTurns_33 : decode cX7_countTurns 33 = .ok (.if_icmp .ne 7, 3) := by decide +kernel
theorem dX7_countTurns_36 : decode cX7_countTurns 36 = .ok (.iconst 0, 1) := by decide +kernel
theorem dX7_countTurns_37 : decode cX7_countTurns 37 = .ok (.goto 4, 3) := by decide +kernel
theorem dX7_countTurns_40 : decode cX7_countTurns 40 = .ok (.iconst 1, 1) := by decide +kernel
theorem dX7_countTurns_41 : decode cX7_countTurns 41 = .ok (.iadd, 1) := by decide +kernel
theorem dX7_countTurns_42 : decode cX7_countTurns 42 = .ok (.istore_n 1, 1) := by decide +kernel
theorem dX7_countTurns_43 : decode cX7_countTurns 43 = .ok (.iinc 2 1, 3) := by decide +kernel
theorem dX7_countTurns_46 : decode cX7_countTurns 46 = .ok (.goto (-42), 3) := by decide +kernel
theorem dX7_countTurns_49 : decode cX7_countTurns 49 = .ok (.iload_n 1, 1) := by decide +kernel
theorem dX7_countTurns_50 : decode cX7_countTurns 50 = .ok (.ireturn, 1) := by decide +kernel
theorem dX8_init_0 : decode cX8_init 0 = .ok (.aload_n 0, 1) := by decide +kernel
theorem dX8_init_1 : decode cX8_init 1 = .ok (.invokespecial 1, 3) := by decide +kernel
theorem dX8_init_4 : decode cX8_init 4 = .ok (.aload_n 0, 1) := by decide +kernel
theorem dX8_init_5 : decode cX8_init 5 = .ok (.new 7, 3) := by decide +kernel
theorem dX8_init_8 : decode cX8_init 8 = .ok (.dup, 1) := by decide +kernel
theorem dX8_init_9 : decode cX8_init 9 = .ok (.invokespecial 9, 3) := by decide +kernel
theorem dX8_init_12 : decode cX8_init 12 = .ok (.putfield 10, 3) := by decide +kernel
theorem dX8_init_15 : decode cX8_init 15 = .ok (.aload_n 0, 1) := by decide +kernel
theorem dX8_init_16 : decode cX8_init 16 = .ok (.new 16, 3) := by decide +kernel
theorem dX8_init_19 : decode cX8_init 19 = .ok (.dup, 1) := by decide +kernel
theorem dX8_init_20 : decode cX8_init 20 = .ok (.invokespecial 18, 3) := by decide +kernel
theorem dX8_init_23 : decode cX8_init 23 = .ok (.putfield 19, 3) := by decide +kernel
theorem dX8_init_26 : decode cX8_init 26 = .ok (.return_, 1) := by decide +kernel
theorem dX8_remember_0 : decode cX8_remember 0 = .ok (.aload_n 0, 1) := by decide +kernel
theorem dX8_remember_1 : decode cX8_remember 1 = .ok (.iload_n 1, 1) := by decide +kernel
theorem dX8_remember_2 : decode cX8_remember 2 = .ok (.putfield 23, 3) := by decide +kernel
theorem dX8_remember_5 : decode cX8_remember 5 = .ok (.aload_n 0, 1) := by decide +kernel
theorem dX8_remember_6 : decode cX8_remember 6 = .ok (.getfield 10, 3) := by decide +kernel
theorem dX8_remember_9 : decode cX8_remember 9 = .ok (.aload_n 2, 1) := by decide +kernel
theorem dX8_remember_10 : decode cX8_remember 10 = .ok (.invokevirtual 27, 3) := by decide +kernel
theorem dX8_remember_13 : decode cX8_remember 13 = .ok (.aload_n 0, 1) := by decide +kernel
theorem dX8_remember_14 : decode cX8_remember 14 = .ok (.getfield 19, 3) := by decide +kernel
theorem dX8_remember_17 : decode cX8_remember 17 = .ok (.aload_n 3, 1) := by decide +kernel
theorem dX8_remember_18 : decode cX8_remember 18 = .ok (.invokevirtual 31, 3) := by decide +kernel
theorem dX8_remember_21 : decode cX8_remember 21 = .ok (.return_, 1) := by decide +kernel
theorem dX9_init_0 : decode cX9_init 0 = .ok (.aload_n 0, 1) := by decide +kernel
theorem dX9_init_1 : decode cX9_init 1 = .ok (.invokespecial 1, 3) := by decide +kernel
theorem dX9_init_4 : decode cX9_init 4 = .ok (.aload_n 0, 1) := by decide +kernel
theorem dX9_init_5 : decode cX9_init 5 = .ok (.new 7, 3) := by decide +kernel
theorem dX9_init_8 : decode cX9_init 8 = .ok (.dup, 1) := by decide +kernel
theorem dX9_init_9 : decode cX9_init 9 = .ok (.invokespecial 9, 3) := by decide +kernel
theorem dX9_init_12 : decode cX9_init 12 = .ok (.putfield 10, 3) := by decide +kernel
theorem dX9_init_15 : decode cX9_init 15 = .ok (.aload_n 0, 1) := by decide +kernel
theorem dX9_init_16 : decode cX9_init 16 = .ok (.new 7, 3) := by decide +kernel
theorem dX9_init_19 : decode cX9_init 19 = .ok (.dup, 1) := by decide +kernel
theorem dX9_init_20 : decode cX9_init 20 = .ok (.invokespecial 9, 3) := by decide +kernel
theorem dX9_init_23 : decode cX9_init 23 = .ok (.putfield 16, 3) := by decide +kernel
theorem dX9_init_26 : decode cX9_init 26 = .ok (.aload_n 0, 1) := by decide +kernel
theorem dX9_init_27 : decode cX9_init 27 = .ok (.new 7, 3) := by decide +kernel
theorem dX9_init_30 : decode cX9_init 30 = .ok (.dup, 1) := by decide +kernel
theorem dX9_init_31 : decode cX9_init 31 = .ok (.invokespecial 9, 3) := by decide +kernel
theorem dX9_init_34 : decode cX9_init 34 = .ok (.putfield 19, 3) := by decide +kernel
theorem dX9_init_37 : decode cX9_init 37 = .ok (.aload_n 0, 1) := by decide +kernel
theorem dX9_init_38 : decode cX9_init 38 = .ok (.new 22, 3) := by decide +kernel
theorem dX9_init_41 : decode cX9_init 41 = .ok (.dup, 1) := by decide +kernel
theorem dX9_init_42 : decode cX9_init 42 = .ok (.invokespecial 24, 3) := by decide +kernel
theorem dX9_init_45 : decode cX9_init 45 = .ok (.putfield 25, 3) := by decide +kernel
theorem dX9_init_48 : decode cX9_init 48 = .ok (.aload_n 0, 1) := by decide +kernel
theorem dX9_init_49 : decode cX9_init 49 = .ok (.iconst 3, 1) := by decide +kernel
theorem dX9_init_50 : decode cX9_init 50 = .ok (.newarray .int, 2) := by decide +kernel
theorem dX9_init_52 : decode cX9_init 52 = .ok (.putfield 29, 3) := by decide +kernel
theorem dX9_init_55 : decode cX9_init 55 = .ok (.aload_n 0, 1) := by decide +kernel
theorem dX9_init_56 : decode cX9_init 56 = .ok (.iconst 4, 1) := by decide +kernel
theorem dX9_init_57 : decode cX9_init 57 = .ok (.newarray .int, 2) := by decide +kernel
theorem dX9_init_59 : decode cX9_init 59 = .ok (.putfield 33, 3) := by decide +kernel
theorem dX9_init_62 : decode cX9_init 62 = .ok (.aload_n 0, 1) := by decide +kernel
theorem dX9_init_63 : decode cX9_init 63 = .ok (.iconst 1, 1) := by decide +kernel
theorem dX9_init_64 : decode cX9_init 64 = .ok (.putfield 36, 3) := by decide +kernel
theorem dX9_init_67 : decode cX9_init 67 = .ok (.return_, 1) := by decide +kernel
theorem dX9_addPackage_0 : decode cX9_addPackage 0 = .ok (.iload_n 1, 1) := by decide +kernel
theorem dX9_addPackage_1 : decode cX9_addPackage 1 = .ok (.invokestatic 40, 3) := by decide +kernel
theorem dX9_addPackage_4 : decode cX9_addPackage 4 = .ok (.aload_n 0, 1) := by decide +kernel
theorem dX9_addPackage_5 : decode cX9_addPackage 5 = .ok (.getfield 10, 3) := by decide +kernel
theorem dX9_addPackage_8 : decode cX9_addPackage 8 = .ok (.invokevirtual 44, 3) := by decide +kernel
theorem dX9_addPackage_11 : decode cX9_addPackage 11 = .ok (.bipush 6, 2) := by decide +kernel
theorem dX9_addPackage_13 : decode cX9_addPackage 13 = .ok (.if_icmp .lt 13, 3) := by decide +kernel
theorem dX9_addPackage_16 : decode cX9_addPackage 16 = .ok (.new 48, 3) := by decide +kernel
theorem dX9_addPackage_19 : decode cX9_addPackage 19 = .ok (.dup, 1) := by decide +kernel
theorem dX9_addPackage_20 : decode cX9_addPackage 20 = .ok (.ldc 50, 2) := by decide +kernel
theorem dX9_addPackage_22 : decode cX9_addPackage 22 = .ok (.invokespecial 52, 3) := by decide +kernel
theorem dX9_addPackage_25 : decode cX9_addPackage 25 = .ok (.athrow, 1) := by decide +kernel
theorem dX9_addPackage_26 : decode cX9_addPackage 26 = .ok (.aload_n 0, 1) := by decide +kernel
theorem dX9_addPackage_27 : decode cX9_addPackage 27 = .ok (.getfield 10, 3) := by decide +kernel
theorem dX9_addPackage_30 : decode cX9_addPackage 30 = .ok (.new 55, 3) := by decide +kernel
theorem dX9_addPackage_33 : decode cX9_addPackage 33 = .ok (.dup, 1) := by decide +kernel
theorem dX9_addPackage_34 : decode cX9_addPackage 34 = .ok (.iload_n 1, 1) := by decide +kernel
theorem dX9_addPackage_35 : decode cX9_addPackage 35 = .ok (.invokespecial 57, 3) := by decide +kernel
theorem dX9_addPackage_38 : decode cX9_addPackage 38 = .ok (.invokevirtual 59, 3) := by decide +kernel
theorem dX9_addPackage_41 : decode cX9_addPackage 41 = .ok (.pop, 1) := by decide +kernel
theorem dX9_addPackage_42 : decode cX9_addPackage 42 = .ok (.aload_n 0, 1) := by decide +kernel
theorem dX9_addPackage_43 : decode cX9_addPackage 43 = .ok (.getfield 10, 3) := by decide +kernel
theorem dX9_addPackage_46 : decode cX9_addPackage 46 = .ok (.invokevirtual 44, 3) := by decide +kernel
theorem dX9_addPackage_49 : decode cX9_addPackage 49 = .ok (.iconst 1, 1) := by decide +kernel
theorem dX9_addPackage_50 : decode cX9_addPackage 50 = .ok (.isub, 1) := by decide +kernel
theorem dX9_addPackage_51 : decode cX9_addPackage 51 = .ok (.ireturn, 1) := by decide +kernel
theorem dX9_setSource_0 : decode cX9_setSource 0 = .ok (.aload_n 0, 1) := by decide +kernel
theorem dX9_setSource_1 : decode cX9_setSource 1 = .ok (.iload_n 1, 1) := by decide +kernel
theorem dX9_setSource_2 : decode cX9_setSource 2 = .ok (.invokevirtual 63, 3) := by decide +kernel
theorem dX9_setSource_5 : decode cX9_setSource 5 = .ok (.getfield 67, 3) := by decide +kernel
theorem dX9_setSource_8 : decode cX9_setSource 8 = .ok (.astore 4, 2) := by decide +kernel
theorem dX9_setSource_10 : decode cX9_setSource 10 = .ok (.iload_n 2, 1) := by decide +kernel
theorem dX9_setSource_11 : decode cX9_setSource 11 = .ok (.iconst 0, 1) := by decide +kernel
theorem dX9_setSource_12 : decode cX9_setSource 12 = .ok (.sipush 999, 3) := by decide +kernel
theorem dX9_setSource_15 : decode cX9_setSource 15 = .ok (.invokestatic 71, 3) := by decide +kernel
theorem dX9_setSource_18 : decode cX9_setSource 18 = .ok (.ifCond .eq 14, 3) := by decide +kernel
theorem dX9_setSource_21 : decode cX9_setSource 21 = .ok (.iload_n 3, 1) := by decide +kernel
theorem dX9_setSource_22 : decode cX9_setSource 22 = .ok (.iconst 0, 1) := by decide +kernel
theorem dX9_setSource_23 : decode cX9_setSource 23 = .ok (.sipush 999, 3) := by decide +kernel
theorem dX9_setSource_26 : decode cX9_setSource 26 = .ok (.invokestatic 71, 3) := by decide +kernel
theorem dX9_setSource_29 : decode cX9_setSource 29 = .ok (.ifCond .ne 13, 3) := by decide +kernel
theorem dX9_setSource_32 : decode cX9_setSource 32 = .ok (.new 75, 3) := by decide +kernel
theorem dX9_setSource_35 : decode cX9_setSource 35 = .ok (.dup, 1) := by decide +kernel
theorem dX9_setSource_36 : decode cX9_setSource 36 = .ok (.ldc 77, 2) := by decide +kernel
theorem dX9_setSource_38 : decode cX9_setSource 38 = .ok (.invokespecial 79, 3) := by decide +kernel
theorem dX9_setSource_41 : decode cX9_setSource 41 = .ok (.athrow, 1) := by decide +kernel
theorem dX9_setSource_42 : decode cX9_setSource 42 = .ok (.aload 4, 2) := by decide +kernel
theorem dX9_setSource_44 : decode cX9_setSource 44 = .ok (.getfield 80, 3) := by decide +kernel
theorem dX9_setSource_47 : decode cX9_setSource 47 = .ok (.iload_n 2, 1) := by decide +kernel
theorem dX9_setSource_48 : decode cX9_setSource 48 = .ok (.if_icmp .ne 7, 3) := by decide +kernel
theorem dX9_setSource_51 : decode cX9_setSource 51 = .ok (.iconst 0, 1) := by decide +kernel
theorem dX9_setSource_52 : decode cX9_setSource 52 = .ok (.goto 4, 3) := by decide +kernel
theorem dX9_setSource_55 : decode cX9_setSource 55 = .ok (.iconst 1, 1) := by decide +kernel
theorem dX9_setSource_56 : decode cX9_setSource 56 = .ok (.aload 4, 2) := by decide +kernel
theorem dX9_setSource_58 : decode cX9_setSource 58 = .ok (.getfield 85, 3) := by decide +kernel
theorem dX9_setSource_61 : decode cX9_setSource 61 = .ok (.iload_n 3, 1) := by decide +kernel
theorem dX9_setSource_62 : decode cX9_setSource 62 = .ok (.if_icmp .ne 7, 3) := by decide +kernel
theorem dX9_setSource_65 : decode cX9_setSource 65 = .ok (.iconst 0, 1) := by decide +kernel
theorem dX9_setSource_66 : decode cX9_setSource 66 = .ok (.goto 4, 3) := by decide +kernel
theorem dX9_setSource_69 : decode cX9_setSource 69 = .ok (.iconst 1, 1) := by decide +kernel
theorem dX9_setSource_70 : decode cX9_setSource 70 = .ok (.iadd, 1) := by decide +kernel
theorem dX9_setSource_71 : decode cX9_setSource 71 = .ok (.istore 5, 2) := by decide +kernel
theorem dX9_setSource_73 : decode cX9_setSource 73 = .ok (.aload 4, 2) := by decide +kernel
theorem dX9_setSource_75 : decode cX9_setSource 75 = .ok (.iload_n 2, 1) := by decide +kernel
theorem dX9_setSource_76 : decode cX9_setSource 76 = .ok (.putfield 80, 3) := by decide +kernel
theorem dX9_setSource_79 : decode cX9_setSource 79 = .ok (.aload 4, 2) := by decide +kernel
theorem dX9_setSource_81 : decode cX9_setSource 81 = .ok (.iload_n 3, 1) := by decide +kernel
theorem dX9_setSource_82 : decode cX9_setSource 82 = .ok (.putfield 85, 3) := by decide +kernel
theorem dX9_setSource_85 : decode cX9_setSource 85 = .ok (.iload 5, 2) := by decide +kernel
theorem dX9_setSource_87 : decode cX9_setSource 87 = .ok (.ireturn, 1) := by decide +kernel
theorem dX9_need_0 : decode cX9_need 0 = .ok (.aload_n 0, 1) := by decide +kernel
theorem dX9_need_1 : decode cX9_need 1 = .ok (.iload_n 1, 1) := by decide +kernel
theorem dX9_need_2 : decode cX9_need 2 = .ok (.invokevirtual 63, 3) := by decide +kernel
theorem dX9_need_5 : decode cX9_need 5 = .ok (.getfield 67, 3) := by decide +kernel
theorem dX9_need_8 : decode cX9_need 8 = .ok (.getfield 88, 3) := by decide +kernel
theorem dX9_need_11 : decode cX9_need 11 = .ok (.astore 5, 2) := by decide +kernel
theorem dX9_need_13 : decode cX9_need 13 = .ok (.aload_n 0, 1) := by decide +kernel
theorem dX9_need_14 : decode cX9_need 14 = .ok (.iload_n 2, 1) := by decide +kernel
theorem dX9_need_15 : decode cX9_need 15 = .ok (.invokevirtual 92, 3) := by decide +kernel
theorem dX9_need_18 : decode cX9_need 18 = .ok (.iload_n 2, 1) := by decide +kernel
theorem dX9_need_19 : decode cX9_need 19 = .ok (.iload_n 1, 1) := by decide +kernel
theorem dX9_need_20 : decode cX9_need 20 = .ok (.if_icmp .lt 13, 3) := by decide +kernel
theorem dX9_need_23 : decode cX9_need 23 = .ok (.new 75, 3) := by decide +kernel
theorem dX9_need_26 : decode cX9_need 26 = .ok (.dup, 1) := by decide +kernel
theorem dX9_need_27 : decode cX9_need 27 = .ok (.ldc 95, 2) := by decide +kernel
theorem dX9_need_29 : decode cX9_need 29 = .ok (.invokespecial 79, 3) := by decide +kernel
theorem dX9_need_32 : decode cX9_need 32 = .ok (.athrow, 1) := by decide +kernel
theorem dX9_need_33 : decode cX9_need 33 = .ok (.iload_n 3, 1) := by decide +kernel
theorem dX9_need_34 : decode cX9_need 34 = .ok (.bipush 100, 2) := by decide +kernel
theorem dX9_need_36 : decode cX9_need 36 = .ok (.sipush 999, 3) := by decide +kernel
theorem dX9_need_39 : decode cX9_need 39 = .ok (.invokestatic 71, 3) := by decide +kernel
theorem dX9_need_42 : decode cX9_need 42 = .ok (.ifCond .eq 15, 3) := by decide +kernel
theorem dX9_need_45 : decode cX9_need 45 = .ok (.iload 4, 2) := by decide +kernel
theorem dX9_need_47 : decode cX9_need 47 = .ok (.iload_n 3, 1) := by decide +kernel
theorem dX9_need_48 : decode cX9_need 48 = .ok (.sipush 999, 3) := by decide +kernel
theorem dX9_need_51 : decode cX9_need 51 = .ok (.invokestatic 71, 3) := by decide +kernel
theorem dX9_need_54 : decode cX9_need 54 = .ok (.ifCond .ne 13, 3) := by decide +kernel
theorem dX9_need_57 : decode cX9_need 57 = .ok (.new 75, 3) := by decide +kernel
theorem dX9_need_60 : decode cX9_need 60 = .ok (.dup, 1) := by decide +kernel
theorem dX9_need_61 : decode cX9_need 61 = .ok (.ldc 97, 2) := by decide +kernel
theorem dX9_need_63 : decode cX9_need 63 = .ok (.invokespecial 79, 3) := by decide +kernel
theorem dX9_need_66 : decode cX9_need 66 = .ok (.athrow, 1) := by decide +kernel
theorem dX9_need_67 : decode cX9_need 67 = .ok (.aload 5, 2) := by decide +kernel
theorem dX9_need_69 : decode cX9_need 69 = .ok (.iload_n 2, 1) := by decide +kernel
theorem dX9_need_70 : decode cX9_need 70 = .ok (.iload_n 3, 1) := by decide +kernel
theorem dX9_need_71 : decode cX9_need 71 = .ok (.iload 4, 2) := by decide +kernel
theorem dX9_need_73 : decode cX9_need 73 = .ok (.invokevirtual 99, 3) := by decide +kernel
theorem dX9_need_76 : decode cX9_need 76 = .ok (.aload 5, 2) := by decide +kernel
theorem dX9_need_78 : decode cX9_need 78 = .ok (.invokevirtual 105, 3) := by decide +kernel
theorem dX9_need_81 : decode cX9_need 81 = .ok (.ireturn, 1) := by decide +kernel
theorem dX9_dropNeed_0 : decode cX9_dropNeed 0 = .ok (.aload_n 0, 1) := by decide +kernel
theorem dX9_dropNeed_1 : decode cX9_dropNeed 1 = .ok (.iload_n 1, 1) := by decide +kernel
theorem dX9_dropNeed_2 : decode cX9_dropNeed 2 = .ok (.invokevirtual 63, 3) := by decide +kernel
theorem dX9_dropNeed_5 : decode cX9_dropNeed 5 = .ok (.getfield 67, 3) := by decide +kernel
theorem dX9_dropNeed_8 : decode cX9_dropNeed 8 = .ok (.getfield 88, 3) := by decide +kernel
theorem dX9_dropNeed_11 : decode cX9_dropNeed 11 = .ok (.astore_n 3, 1) := by decide +kernel
theorem dX9_dropNeed_12 : decode cX9_dropNeed 12 = .ok (.aload_n 0, 1) := by decide +kernel
theorem dX9_dropNeed_13 : decode cX9_dropNeed 13 = .ok (.iload_n 2, 1) := by decide +kernel
theorem dX9_dropNeed_14 : decode cX9_dropNeed 14 = .ok (.invokevirtual 92, 3) := by decide +kernel
theorem dX9_dropNeed_17 : decode cX9_dropNeed 17 = .ok (.aload_n 3, 1) := by decide +kernel
theorem dX9_dropNeed_18 : decode cX9_dropNeed 18 = .ok (.iload_n 2, 1) := by decide +kernel
theorem dX9_dropNeed_19 : decode cX9_dropNeed 19 = .ok (.invokevirtual 108, 3) := by decide +kernel
theorem dX9_dropNeed_22 : decode cX9_dropNeed 22 = .ok (.ifCond .ne 13, 3) := by decide +kernel
theorem dX9_dropNeed_25 : decode cX9_dropNeed 25 = .ok (.new 112, 3) := by decide +kernel
theorem dX9_dropNeed_28 : decode cX9_dropNeed 28 = .ok (.dup, 1) := by decide +kernel
theorem dX9_dropNeed_29 : decode cX9_dropNeed 29 = .ok (.ldc 114, 2) := by decide +kernel
theorem dX9_dropNeed_31 : decode cX9_dropNeed 31 = .ok (.invokespecial 116, 3) := by decide +kernel
theorem dX9_dropNeed_34 : decode cX9_dropNeed 34 = .ok (.athrow, 1) := by decide +kernel
theorem dX9_dropNeed_35 : decode cX9_dropNeed 35 = .ok (.aload_n 3, 1) := by decide +kernel
theorem dX9_dropNeed_36 : decode cX9_dropNeed 36 = .ok (.iload_n 2, 1) := by decide +kernel
theorem dX9_dropNeed_37 : decode cX9_dropNeed 37 = .ok (.invokevirtual 117, 3) := by decide +kernel
theorem dX9_dropNeed_40 : decode cX9_dropNeed 40 = .ok (.aload_n 3, 1) := by decide +kernel
theorem dX9_dropNeed_41 : decode cX9_dropNeed 41 = .ok (.invokevirtual 105, 3) := by decide +kernel
theorem dX9_dropNeed_44 : decode cX9_dropNeed 44 = .ok (.ireturn, 1) := by decide +kernel
theorem dX9_chosen_0 : decode cX9_chosen 0 = .ok (.aload_n 0, 1) := by decide +kernel
theorem dX9_chosen_1 : decode cX9_chosen 1 = .ok (.iload_n 1, 1) := by decide +kernel
theorem dX9_chosen_2 : decode cX9_chosen 2 = .ok (.invokevirtual 63, 3) := by decide +kernel
theorem dX9_chosen_5 : decode cX9_chosen 5 = .ok (.getfield 67, 3) := by decide +kernel
theorem dX9_chosen_8 : decode cX9_chosen 8 = .ok (.getfield 88, 3) := by decide +kernel
theorem dX9_chosen_11 : decode cX9_chosen 11 = .ok (.astore_n 3, 1) := by decide +kernel
theorem dX9_chosen_12 : decode cX9_chosen 12 = .ok (.aload_n 0, 1) := by decide +kernel
theorem dX9_chosen_13 : decode cX9_chosen 13 = .ok (.iload_n 2, 1) := by decide +kernel
theorem dX9_chosen_14 : decode cX9_chosen 14 = .ok (.invokevirtual 92, 3) := by decide +kernel
theorem dX9_chosen_17 : decode cX9_chosen 17 = .ok (.aload_n 0, 1) := by decide +kernel
theorem dX9_chosen_18 : decode cX9_chosen 18 = .ok (.getfield 25, 3) := by decide +kernel
theorem dX9_chosen_21 : decode cX9_chosen 21 = .ok (.aload_n 0, 1) := by decide +kernel
theorem dX9_chosen_22 : decode cX9_chosen 22 = .ok (.getfield 10, 3) := by decide +kernel
theorem dX9_chosen_25 : decode cX9_chosen 25 = .ok (.iload_n 1, 1) := by decide +kernel
theorem dX9_chosen_26 : decode cX9_chosen 26 = .ok (.aload_n 3, 1) := by decide +kernel
theorem dX9_chosen_27 : decode cX9_chosen 27 = .ok (.invokevirtual 120, 3) := by decide +kernel
theorem dX9_chosen_30 : decode cX9_chosen 30 = .ok (.invokestatic 124, 3) := by decide +kernel
theorem dX9_chosen_33 : decode cX9_chosen 33 = .ok (.iload_n 2, 1) := by decide +kernel
theorem dX9_chosen_34 : decode cX9_chosen 34 = .ok (.invokevirtual 128, 3) := by decide +kernel
theorem dX9_chosen_37 : decode cX9_chosen 37 = .ok (.ireturn, 1) := by decide +kernel
theorem dX9_chosenByAll_0 : decode cX9_chosenByAll 0 = .ok (.aload_n 0, 1) := by decide +kernel
theorem dX9_chosenByAll_1 : decode cX9_chosenByAll 1 = .ok (.iload_n 1, 1) := by decide +kernel
theorem dX9_chosenByAll_2 : decode cX9_chosenByAll 2 = .ok (.invokevirtual 63, 3) := by decide +kernel
theorem dX9_chosenByAll_5 : decode cX9_chosenByAll 5 = .ok (.getfield 67, 3) := by decide +kernel
theorem dX9_chosenByAll_8 : decode cX9_chosenByAll 8 = .ok (.getfield 88, 3) := by decide +kernel
theorem dX9_chosenByAll_11 : decode cX9_chosenByAll 11 = .ok (.astore_n 3, 1) := by decide +kernel
theorem dX9_chosenByAll_12 : decode cX9_chosenByAll 12 = .ok (.aload_n 0, 1) := by decide +kernel
theorem dX9_chosenByAll_13 : decode cX9_chosenByAll 13 = .ok (.iload_n 2, 1) := by decide +kernel
theorem dX9_chosenByAll_14 : decode cX9_chosenByAll 14 = .ok (.invokevirtual 92, 3) := by decide +kernel
theorem dX9_chosenByAll_17 : decode cX9_chosenByAll 17 = .ok (.aload_n 0, 1) := by decide +kernel
theorem dX9_chosenByAll_18 : decode cX9_chosenByAll 18 = .ok (.getfield 25, 3) := by decide +kernel
theorem dX9_chosenByAll_21 : decode cX9_chosenByAll 21 = .ok (.aload_n 0, 1) := by decide +kernel
theorem dX9_chosenByAll_22 : decode cX9_chosenByAll 22 = .ok (.getfield 10, 3) := by decide +kernel
theorem dX9_chosenByAll_25 : decode cX9_chosenByAll 25 = .ok (.iload_n 1, 1) := by decide +kernel
theorem dX9_chosenByAll_26 : decode cX9_chosenByAll 26 = .ok (.aload_n 3, 1) := by decide +kernel
theorem dX9_chosenByAll_27 : decode cX9_chosenByAll 27 = .ok (.invokevirtual 134, 3) := by decide +kernel
theorem dX9_chosenByAll_30 : decode cX9_chosenByAll 30 = .ok (.invokestatic 124, 3) := by decide +kernel
theorem dX9_chosenByAll_33 : decode cX9_chosenByAll 33 = .ok (.iload_n 2, 1) := by decide +kernel
theorem dX9_chosenByAll_34 : decode cX9_chosenByAll 34 = .ok (.invokevirtual 128, 3) := by decide +kernel
theorem dX9_chosenByAll_37 : decode cX9_chosenByAll 37 = .ok (.ireturn, 1) := by decide +kernel
theorem dX9_compile_0 : decode cX9_compile 0 = .ok (.aload_n 0, 1) := by decide +kernel
theorem dX9_compile_1 : decode cX9_compile 1 = .ok (.iload_n 1, 1) := by decide +kernel
theorem dX9_compile_2 : decode cX9_compile 2 = .ok (.invokevirtual 63, 3) := by decide +kernel
theorem dX9_compile_5 : decode cX9_compile 5 = .ok (.astore_n 2, 1) := by decide +kernel
theorem dX9_compile_6 : decode cX9_compile 6 = .ok (.aload_n 0, 1) := by decide +kernel
theorem dX9_compile_7 : decode cX9_compile 7 = .ok (.getfield 25, 3) := by decide +kernel
theorem dX9_compile_10 : decode cX9_compile 10 = .ok (.aload_n 0, 1) := by decide +kernel
theorem dX9_compile_11 : decode cX9_compile 11 = .ok (.getfield 10, 3) := by decide +kernel
theorem dX9_compile_14 : decode cX9_compile 14 = .ok (.iload_n 1, 1) := by decide +kernel
theorem dX9_compile_15 : decode cX9_compile 15 = .ok (.aload_n 2, 1) := by decide +kernel
theorem dX9_compile_16 : decode cX9_compile 16 = .ok (.getfield 67, 3) := by decide +kernel
theorem dX9_compile_19 : decode cX9_compile 19 = .ok (.getfield 88, 3) := by decide +kernel

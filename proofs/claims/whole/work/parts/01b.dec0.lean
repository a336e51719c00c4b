theorem dX0_init_0 : decode cX0_init 0 = .ok (.aload_n 0, 1) := by decide +kernel
theorem dX0_init_1 : decode cX0_init 1 = .ok (.invokespecial 3, 3) := by decide +kernel
theorem dX0_init_4 : decode cX0_init 4 = .ok (.aload_n 0, 1) := by decide +kernel
theorem dX0_init_5 : decode cX0_init 5 = .ok (.bipush 6, 2) := by decide +kernel
theorem dX0_init_7 : decode cX0_init 7 = .ok (.newarray .int, 2) := by decide +kernel
theorem dX0_init_9 : decode cX0_init 9 = .ok (.putfield 11, 3) := by decide +kernel
theorem dX0_init_12 : decode cX0_init 12 = .ok (.aload_n 0, 1) := by decide +kernel
theorem dX0_init_13 : decode cX0_init 13 = .ok (.bipush 6, 2) := by decide +kernel
theorem dX0_init_15 : decode cX0_init 15 = .ok (.newarray .int, 2) := by decide +kernel
theorem dX0_init_17 : decode cX0_init 17 = .ok (.putfield 15, 3) := by decide +kernel
theorem dX0_init_20 : decode cX0_init 20 = .ok (.return_, 1) := by decide +kernel
theorem dX0_addDeduction_0 : decode cX0_addDeduction 0 = .ok (.aload_n 0, 1) := by decide +kernel
theorem dX0_addDeduction_1 : decode cX0_addDeduction 1 = .ok (.getfield 18, 3) := by decide +kernel
theorem dX0_addDeduction_4 : decode cX0_addDeduction 4 = .ok (.bipush 6, 2) := by decide +kernel
theorem dX0_addDeduction_6 : decode cX0_addDeduction 6 = .ok (.if_icmp .lt 6, 3) := by decide +kernel
theorem dX0_addDeduction_9 : decode cX0_addDeduction 9 = .ok (.bipush (-5), 2) := by decide +kernel
theorem dX0_addDeduction_11 : decode cX0_addDeduction 11 = .ok (.ireturn, 1) := by decide +kernel
theorem dX0_addDeduction_12 : decode cX0_addDeduction 12 = .ok (.aload_n 0, 1) := by decide +kernel
theorem dX0_addDeduction_13 : decode cX0_addDeduction 13 = .ok (.getfield 11, 3) := by decide +kernel
theorem dX0_addDeduction_16 : decode cX0_addDeduction 16 = .ok (.aload_n 0, 1) := by decide +kernel
theorem dX0_addDeduction_17 : decode cX0_addDeduction 17 = .ok (.getfield 18, 3) := by decide +kernel
theorem dX0_addDeduction_20 : decode cX0_addDeduction 20 = .ok (.iload_n 1, 1) := by decide +kernel
theorem dX0_addDeduction_21 : decode cX0_addDeduction 21 = .ok (.iastore, 1) := by decide +kernel
theorem dX0_addDeduction_22 : decode cX0_addDeduction 22 = .ok (.aload_n 0, 1) := by decide +kernel
theorem dX0_addDeduction_23 : decode cX0_addDeduction 23 = .ok (.getfield 15, 3) := by decide +kernel
theorem dX0_addDeduction_26 : decode cX0_addDeduction 26 = .ok (.aload_n 0, 1) := by decide +kernel
theorem dX0_addDeduction_27 : decode cX0_addDeduction 27 = .ok (.getfield 18, 3) := by decide +kernel
theorem dX0_addDeduction_30 : decode cX0_addDeduction 30 = .ok (.iload_n 2, 1) := by decide +kernel
theorem dX0_addDeduction_31 : decode cX0_addDeduction 31 = .ok (.iastore, 1) := by decide +kernel
theorem dX0_addDeduction_32 : decode cX0_addDeduction 32 = .ok (.aload_n 0, 1) := by decide +kernel
theorem dX0_addDeduction_33 : decode cX0_addDeduction 33 = .ok (.dup, 1) := by decide +kernel
theorem dX0_addDeduction_34 : decode cX0_addDeduction 34 = .ok (.getfield 18, 3) := by decide +kernel
theorem dX0_addDeduction_37 : decode cX0_addDeduction 37 = .ok (.iconst 1, 1) := by decide +kernel
theorem dX0_addDeduction_38 : decode cX0_addDeduction 38 = .ok (.iadd, 1) := by decide +kernel
theorem dX0_addDeduction_39 : decode cX0_addDeduction 39 = .ok (.putfield 18, 3) := by decide +kernel
theorem dX0_addDeduction_42 : decode cX0_addDeduction 42 = .ok (.aload_n 0, 1) := by decide +kernel
theorem dX0_addDeduction_43 : decode cX0_addDeduction 43 = .ok (.getfield 18, 3) := by decide +kernel
theorem dX0_addDeduction_46 : decode cX0_addDeduction 46 = .ok (.ireturn, 1) := by decide +kernel
theorem dX0_takeFrom_0 : decode cX0_takeFrom 0 = .ok (.lload_n 1, 1) := by decide +kernel
theorem dX0_takeFrom_1 : decode cX0_takeFrom 1 = .ok (.lstore 5, 2) := by decide +kernel
theorem dX0_takeFrom_3 : decode cX0_takeFrom 3 = .ok (.iconst 0, 1) := by decide +kernel
theorem dX0_takeFrom_4 : decode cX0_takeFrom 4 = .ok (.istore 7, 2) := by decide +kernel
theorem dX0_takeFrom_6 : decode cX0_takeFrom 6 = .ok (.iload 7, 2) := by decide +kernel
theorem dX0_takeFrom_8 : decode cX0_takeFrom 8 = .ok (.bipush 9, 2) := by decide +kernel
theorem dX0_takeFrom_10 : decode cX0_takeFrom 10 = .ok (.if_icmp .gt 80, 3) := by decide +kernel
theorem dX0_takeFrom_13 : decode cX0_takeFrom 13 = .ok (.iconst 0, 1) := by decide +kernel
theorem dX0_takeFrom_14 : decode cX0_takeFrom 14 = .ok (.istore 8, 2) := by decide +kernel
theorem dX0_takeFrom_16 : decode cX0_takeFrom 16 = .ok (.iload 8, 2) := by decide +kernel
theorem dX0_takeFrom_18 : decode cX0_takeFrom 18 = .ok (.aload_n 0, 1) := by decide +kernel
theorem dX0_takeFrom_19 : decode cX0_takeFrom 19 = .ok (.getfield 18, 3) := by decide +kernel
theorem dX0_takeFrom_22 : decode cX0_takeFrom 22 = .ok (.if_icmp .ge 62, 3) := by decide +kernel
theorem dX0_takeFrom_25 : decode cX0_takeFrom 25 = .ok (.iload 4, 2) := by decide +kernel
theorem dX0_takeFrom_27 : decode cX0_takeFrom 27 = .ok (.iload 8, 2) := by decide +kernel
theorem dX0_takeFrom_29 : decode cX0_takeFrom 29 = .ok (.iadd, 1) := by decide +kernel
theorem dX0_takeFrom_30 : decode cX0_takeFrom 30 = .ok (.aload_n 3, 1) := by decide +kernel
theorem dX0_takeFrom_31 : decode cX0_takeFrom 31 = .ok (.arraylength, 1) := by decide +kernel
theorem dX0_takeFrom_32 : decode cX0_takeFrom 32 = .ok (.if_icmp .ge 52, 3) := by decide +kernel
theorem dX0_takeFrom_35 : decode cX0_takeFrom 35 = .ok (.aload_n 0, 1) := by decide +kernel
theorem dX0_takeFrom_36 : decode cX0_takeFrom 36 = .ok (.getfield 15, 3) := by decide +kernel
theorem dX0_takeFrom_39 : decode cX0_takeFrom 39 = .ok (.iload 8, 2) := by decide +kernel
theorem dX0_takeFrom_41 : decode cX0_takeFrom 41 = .ok (.iaload, 1) := by decide +kernel
theorem dX0_takeFrom_42 : decode cX0_takeFrom 42 = .ok (.iload 7, 2) := by decide +kernel
theorem dX0_takeFrom_44 : decode cX0_takeFrom 44 = .ok (.if_icmp .ne 34, 3) := by decide +kernel
theorem dX0_takeFrom_47 : decode cX0_takeFrom 47 = .ok (.lload 5, 2) := by decide +kernel
theorem dX0_takeFrom_49 : decode cX0_takeFrom 49 = .ok (.aload_n 0, 1) := by decide +kernel
theorem dX0_takeFrom_50 : decode cX0_takeFrom 50 = .ok (.getfield 11, 3) := by decide +kernel
theorem dX0_takeFrom_53 : decode cX0_takeFrom 53 = .ok (.iload 8, 2) := by decide +kernel
theorem dX0_takeFrom_55 : decode cX0_takeFrom 55 = .ok (.iaload, 1) := by decide +kernel
theorem dX0_takeFrom_56 : decode cX0_takeFrom 56 = .ok (.i2l, 1) := by decide +kernel
theorem dX0_takeFrom_57 : decode cX0_takeFrom 57 = .ok (.invokestatic 22, 3) := by decide +kernel
theorem dX0_takeFrom_60 : decode cX0_takeFrom 60 = .ok (.lstore 9, 2) := by decide +kernel
theorem dX0_takeFrom_62 : decode cX0_takeFrom 62 = .ok (.aload_n 3, 1) := by decide +kernel
theorem dX0_takeFrom_63 : decode cX0_takeFrom 63 = .ok (.iload 4, 2) := by decide +kernel
theorem dX0_takeFrom_65 : decode cX0_takeFrom 65 = .ok (.iload 8, 2) := by decide +kernel
theorem dX0_takeFrom_67 : decode cX0_takeFrom 67 = .ok (.iadd, 1) := by decide +kernel
theorem dX0_takeFrom_68 : decode cX0_takeFrom 68 = .ok (.lload 9, 2) := by decide +kernel
theorem dX0_takeFrom_70 : decode cX0_takeFrom 70 = .ok (.lastore, 1) := by decide +kernel
theorem dX0_takeFrom_71 : decode cX0_takeFrom 71 = .ok (.lload 5, 2) := by decide +kernel
theorem dX0_takeFrom_73 : decode cX0_takeFrom 73 = .ok (.lload 9, 2) := by decide +kernel
theorem dX0_takeFrom_75 : decode cX0_takeFrom 75 = .ok (.lsub, 1) := by decide +kernel
theorem dX0_takeFrom_76 : decode cX0_takeFrom 76 = .ok (.lstore 5, 2) := by decide +kernel
theorem dX0_takeFrom_78 : decode cX0_takeFrom 78 = .ok (.iinc 8 1, 3) := by decide +kernel
theorem dX0_takeFrom_81 : decode cX0_takeFrom 81 = .ok (.goto (-65), 3) := by decide +kernel
theorem dX0_takeFrom_84 : decode cX0_takeFrom 84 = .ok (.iinc 7 1, 3) := by decide +kernel
theorem dX0_takeFrom_87 : decode cX0_takeFrom 87 = .ok (.goto (-81), 3) := by decide +kernel
theorem dX0_takeFrom_90 : decode cX0_takeFrom 90 = .ok (.lload 5, 2) := by decide +kernel
theorem dX0_takeFrom_92 : decode cX0_takeFrom 92 = .ok (.lreturn, 1) := by decide +kernel
theorem dX1_init_0 : decode cX1_init 0 = .ok (.aload_n 0, 1) := by decide +kernel
theorem dX1_init_1 : decode cX1_init 1 = .ok (.invokespecial 3, 3) := by decide +kernel
theorem dX1_init_4 : decode cX1_init 4 = .ok (.aload_n 0, 1) := by decide +kernel
theorem dX1_init_5 : decode cX1_init 5 = .ok (.iconst (-1), 1) := by decide +kernel
theorem dX1_init_6 : decode cX1_init 6 = .ok (.putfield 9, 3) := by decide +kernel
theorem dX1_init_9 : decode cX1_init 9 = .ok (.aload_n 0, 1) := by decide +kernel
theorem dX1_init_10 : decode cX1_init 10 = .ok (.bipush 24, 2) := by decide +kernel
theorem dX1_init_12 : decode cX1_init 12 = .ok (.newarray .int, 2) := by decide +kernel
theorem dX1_init_14 : decode cX1_init 14 = .ok (.putfield 17, 3) := by decide +kernel
theorem dX1_init_17 : decode cX1_init 17 = .ok (.aload_n 0, 1) := by decide +kernel
theorem dX1_init_18 : decode cX1_init 18 = .ok (.bipush 24, 2) := by decide +kernel
theorem dX1_init_20 : decode cX1_init 20 = .ok (.newarray .int, 2) := by decide +kernel
theorem dX1_init_22 : decode cX1_init 22 = .ok (.putfield 21, 3) := by decide +kernel
theorem dX1_init_25 : decode cX1_init 25 = .ok (.aload_n 0, 1) := by decide +kernel
theorem dX1_init_26 : decode cX1_init 26 = .ok (.bipush 24, 2) := by decide +kernel
theorem dX1_init_28 : decode cX1_init 28 = .ok (.newarray .int, 2) := by decide +kernel
theorem dX1_init_30 : decode cX1_init 30 = .ok (.putfield 24, 3) := by decide +kernel
theorem dX1_init_33 : decode cX1_init 33 = .ok (.aload_n 0, 1) := by decide +kernel
theorem dX1_init_34 : decode cX1_init 34 = .ok (.bipush 24, 2) := by decide +kernel
theorem dX1_init_36 : decode cX1_init 36 = .ok (.anewarray 27, 3) := by decide +kernel
theorem dX1_init_39 : decode cX1_init 39 = .ok (.putfield 29, 3) := by decide +kernel
theorem dX1_init_42 : decode cX1_init 42 = .ok (.iconst 0, 1) := by decide +kernel
theorem dX1_init_43 : decode cX1_init 43 = .ok (.istore_n 1, 1) := by decide +kernel
theorem dX1_init_44 : decode cX1_init 44 = .ok (.iload_n 1, 1) := by decide +kernel
theorem dX1_init_45 : decode cX1_init 45 = .ok (.aload_n 0, 1) := by decide +kernel
theorem dX1_init_46 : decode cX1_init 46 = .ok (.getfield 29, 3) := by decide +kernel
theorem dX1_init_49 : decode cX1_init 49 = .ok (.arraylength, 1) := by decide +kernel
theorem dX1_init_50 : decode cX1_init 50 = .ok (.if_icmp .ge 22, 3) := by decide +kernel
theorem dX1_init_53 : decode cX1_init 53 = .ok (.aload_n 0, 1) := by decide +kernel
theorem dX1_init_54 : decode cX1_init 54 = .ok (.getfield 29, 3) := by decide +kernel
theorem dX1_init_57 : decode cX1_init 57 = .ok (.iload_n 1, 1) := by decide +kernel
theorem dX1_init_58 : decode cX1_init 58 = .ok (.new 27, 3) := by decide +kernel
theorem dX1_init_61 : decode cX1_init 61 = .ok (.dup, 1) := by decide +kernel
theorem dX1_init_62 : decode cX1_init 62 = .ok (.invokespecial 33, 3) := by decide +kernel
theorem dX1_init_65 : decode cX1_init 65 = .ok (.aastore, 1) := by decide +kernel
theorem dX1_init_66 : decode cX1_init 66 = .ok (.iinc 1 1, 3) := by decide +kernel
theorem dX1_init_69 : decode cX1_init 69 = .ok (.goto (-25), 3) := by decide +kernel
theorem dX1_init_72 : decode cX1_init 72 = .ok (.return_, 1) := by decide +kernel
theorem dX1_clear_0 : decode cX1_clear 0 = .ok (.aload_n 0, 1) := by decide +kernel
theorem dX1_clear_1 : decode cX1_clear 1 = .ok (.iconst 0, 1) := by decide +kernel
theorem dX1_clear_2 : decode cX1_clear 2 = .ok (.putfield 34, 3) := by decide +kernel
theorem dX1_clear_5 : decode cX1_clear 5 = .ok (.aload_n 0, 1) := by decide +kernel
theorem dX1_clear_6 : decode cX1_clear 6 = .ok (.iconst 0, 1) := by decide +kernel
theorem dX1_clear_7 : decode cX1_clear 7 = .ok (.putfield 37, 3) := by decide +kernel
theorem dX1_clear_10 : decode cX1_clear 10 = .ok (.aload_n 0, 1) := by decide +kernel
theorem dX1_clear_11 : decode cX1_clear 11 = .ok (.iconst (-1), 1) := by decide +kernel
theorem dX1_clear_12 : decode cX1_clear 12 = .ok (.putfield 9, 3) := by decide +kernel
theorem dX1_clear_15 : decode cX1_clear 15 = .ok (.aload_n 0, 1) := by decide +kernel
theorem dX1_clear_16 : decode cX1_clear 16 = .ok (.iconst 0, 1) := by decide +kernel
theorem dX1_clear_17 : decode cX1_clear 17 = .ok (.putfield 40, 3) := by decide +kernel
theorem dX1_clear_20 : decode cX1_clear 20 = .ok (.aload_n 0, 1) := by decide +kernel
theorem dX1_clear_21 : decode cX1_clear 21 = .ok (.iconst 0, 1) := by decide +kernel
theorem dX1_clear_22 : decode cX1_clear 22 = .ok (.putfield 43, 3) := by decide +kernel
theorem dX1_clear_25 : decode cX1_clear 25 = .ok (.aload_n 0, 1) := by decide +kernel
theorem dX1_clear_26 : decode cX1_clear 26 = .ok (.iconst 0, 1) := by decide +kernel
theorem dX1_clear_27 : decode cX1_clear 27 = .ok (.putfield 46, 3) := by decide +kernel
theorem dX1_clear_30 : decode cX1_clear 30 = .ok (.aload_n 0, 1) := by decide +kernel
theorem dX1_clear_31 : decode cX1_clear 31 = .ok (.iconst 0, 1) := by decide +kernel
theorem dX1_clear_32 : decode cX1_clear 32 = .ok (.putfield 49, 3) := by decide +kernel
theorem dX1_clear_35 : decode cX1_clear 35 = .ok (.aload_n 0, 1) := by decide +kernel
theorem dX1_clear_36 : decode cX1_clear 36 = .ok (.getfield 17, 3) := by decide +kernel
theorem dX1_clear_39 : decode cX1_clear 39 = .ok (.iconst (-1), 1) := by decide +kernel
theorem dX1_clear_40 : decode cX1_clear 40 = .ok (.invokestatic 52, 3) := by decide +kernel
theorem dX1_clear_43 : decode cX1_clear 43 = .ok (.return_, 1) := by decide +kernel
theorem dX1_isWorked_0 : decode cX1_isWorked 0 = .ok (.iload_n 1, 1) := by decide +kernel
theorem dX1_isWorked_1 : decode cX1_isWorked 1 = .ok (.ifCond .lt 26, 3) := by decide +kernel
theorem dX1_isWorked_4 : decode cX1_isWorked 4 = .ok (.iload_n 1, 1) := by decide +kernel
theorem dX1_isWorked_5 : decode cX1_isWorked 5 = .ok (.aload_n 0, 1) := by decide +kernel
theorem dX1_isWorked_6 : decode cX1_isWorked 6 = .ok (.getfield 17, 3) := by decide +kernel
theorem dX1_isWorked_9 : decode cX1_isWorked 9 = .ok (.arraylength, 1) := by decide +kernel
theorem dX1_isWorked_10 : decode cX1_isWorked 10 = .ok (.if_icmp .ge 17, 3) := by decide +kernel
theorem dX1_isWorked_13 : decode cX1_isWorked 13 = .ok (.aload_n 0, 1) := by decide +kernel
theorem dX1_isWorked_14 : decode cX1_isWorked 14 = .ok (.getfield 17, 3) := by decide +kernel
theorem dX1_isWorked_17 : decode cX1_isWorked 17 = .ok (.iload_n 1, 1) := by decide +kernel
theorem dX1_isWorked_18 : decode cX1_isWorked 18 = .ok (.iaload, 1) := by decide +kernel
theorem dX1_isWorked_19 : decode cX1_isWorked 19 = .ok (.iconst (-1), 1) := by decide +kernel
theorem dX1_isWorked_20 : decode cX1_isWorked 20 = .ok (.if_icmp .eq 7, 3) := by decide +kernel
theorem dX1_isWorked_23 : decode cX1_isWorked 23 = .ok (.iconst 1, 1) := by decide +kernel
theorem dX1_isWorked_24 : decode cX1_isWorked 24 = .ok (.goto 4, 3) := by decide +kernel
theorem dX1_isWorked_27 : decode cX1_isWorked 27 = .ok (.iconst 0, 1) := by decide +kernel
theorem dX1_isWorked_28 : decode cX1_isWorked 28 = .ok (.ireturn, 1) := by decide +kernel
theorem dX1_endRule_0 : decode cX1_endRule 0 = .ok (.iload_n 1, 1) := by decide +kernel
theorem dX1_endRule_1 : decode cX1_endRule 1 = .ok (.ifCond .lt 32, 3) := by decide +kernel
theorem dX1_endRule_4 : decode cX1_endRule 4 = .ok (.iload_n 1, 1) := by decide +kernel
theorem dX1_endRule_5 : decode cX1_endRule 5 = .ok (.aload_n 0, 1) := by decide +kernel
theorem dX1_endRule_6 : decode cX1_endRule 6 = .ok (.getfield 17, 3) := by decide +kernel
theorem dX1_endRule_9 : decode cX1_endRule 9 = .ok (.arraylength, 1) := by decide +kernel
theorem dX1_endRule_10 : decode cX1_endRule 10 = .ok (.if_icmp .ge 23, 3) := by decide +kernel
theorem dX1_endRule_13 : decode cX1_endRule 13 = .ok (.aload_n 0, 1) := by decide +kernel
theorem dX1_endRule_14 : decode cX1_endRule 14 = .ok (.getfield 49, 3) := by decide +kernel
theorem dX1_endRule_17 : decode cX1_endRule 17 = .ok (.aload_n 0, 1) := by decide +kernel
theorem dX1_endRule_18 : decode cX1_endRule 18 = .ok (.getfield 24, 3) := by decide +kernel
theorem dX1_endRule_21 : decode cX1_endRule 21 = .ok (.arraylength, 1) := by decide +kernel
theorem dX1_endRule_22 : decode cX1_endRule 22 = .ok (.if_icmp .ge 11, 3) := by decide +kernel
theorem dX1_endRule_25 : decode cX1_endRule 25 = .ok (.aload_n 0, 1) := by decide +kernel
theorem dX1_endRule_26 : decode cX1_endRule 26 = .ok (.iload_n 1, 1) := by decide +kernel
theorem dX1_endRule_27 : decode cX1_endRule 27 = .ok (.invokevirtual 58, 3) := by decide +kernel
theorem dX1_endRule_30 : decode cX1_endRule 30 = .ok (.ifCond .eq 4, 3) := by decide +kernel
theorem dX1_endRule_33 : decode cX1_endRule 33 = .ok (.return_, 1) := by decide +kernel
theorem dX1_endRule_34 : decode cX1_endRule 34 = .ok (.aload_n 0, 1) := by decide +kernel
theorem dX1_endRule_35 : decode cX1_endRule 35 = .ok (.getfield 17, 3) := by decide +kernel
theorem dX1_endRule_38 : decode cX1_endRule 38 = .ok (.iload_n 1, 1) := by decide +kernel
theorem dX1_endRule_39 : decode cX1_endRule 39 = .ok (.aload_n 0, 1) := by decide +kernel
theorem dX1_endRule_40 : decode cX1_endRule 40 = .ok (.getfield 37, 3) := by decide +kernel
theorem dX1_endRule_43 : decode cX1_endRule 43 = .ok (.iastore, 1) := by decide +kernel
theorem dX1_endRule_44 : decode cX1_endRule 44 = .ok (.aload_n 0, 1) := by decide +kernel
theorem dX1_endRule_45 : decode cX1_endRule 45 = .ok (.getfield 21, 3) := by decide +kernel
theorem dX1_endRule_48 : decode cX1_endRule 48 = .ok (.iload_n 1, 1) := by decide +kernel
theorem dX1_endRule_49 : decode cX1_endRule 49 = .ok (.aload_n 0, 1) := by decide +kernel
theorem dX1_endRule_50 : decode cX1_endRule 50 = .ok (.getfield 9, 3) := by decide +kernel
theorem dX1_endRule_53 : decode cX1_endRule 53 = .ok (.iastore, 1) := by decide +kernel
theorem dX1_endRule_54 : decode cX1_endRule 54 = .ok (.aload_n 0, 1) := by decide +kernel
theorem dX1_endRule_55 : decode cX1_endRule 55 = .ok (.getfield 37, 3) := by decide +kernel
theorem dX1_endRule_58 : decode cX1_endRule 58 = .ok (.ifCond .ne 13, 3) := by decide +kernel
theorem dX1_endRule_61 : decode cX1_endRule 61 = .ok (.aload_n 0, 1) := by decide +kernel
theorem dX1_endRule_62 : decode cX1_endRule 62 = .ok (.getfield 29, 3) := by decide +kernel
theorem dX1_endRule_65 : decode cX1_endRule 65 = .ok (.iload_n 1, 1) := by decide +kernel
theorem dX1_endRule_66 : decode cX1_endRule 66 = .ok (.aaload, 1) := by decide +kernel
theorem dX1_endRule_67 : decode cX1_endRule 67 = .ok (.aload_n 2, 1) := by decide +kernel
theorem dX1_endRule_68 : decode cX1_endRule 68 = .ok (.invokevirtual 62, 3) := by decide +kernel
theorem dX1_endRule_71 : decode cX1_endRule 71 = .ok (.aload_n 0, 1) := by decide +kernel
theorem dX1_endRule_72 : decode cX1_endRule 72 = .ok (.getfield 24, 3) := by decide +kernel
theorem dX1_endRule_75 : decode cX1_endRule 75 = .ok (.aload_n 0, 1) := by decide +kernel
theorem dX1_endRule_76 : decode cX1_endRule 76 = .ok (.dup, 1) := by decide +kernel
theorem dX1_endRule_77 : decode cX1_endRule 77 = .ok (.getfield 49, 3) := by decide +kernel
theorem dX1_endRule_80 : decode cX1_endRule 80 = .ok (.dup_x1, 1) := by decide +kernel
theorem dX1_endRule_81 : decode cX1_endRule 81 = .ok (.iconst 1, 1) := by decide +kernel
theorem dX1_endRule_82 : decode cX1_endRule 82 = .ok (.iadd, 1) := by decide +kernel
theorem dX1_endRule_83 : decode cX1_endRule 83 = .ok (.putfield 49, 3) := by decide +kernel
theorem dX1_endRule_86 : decode cX1_endRule 86 = .ok (.iload_n 1, 1) := by decide +kernel
theorem dX1_endRule_87 : decode cX1_endRule 87 = .ok (.iastore, 1) := by decide +kernel
theorem dX1_endRule_88 : decode cX1_endRule 88 = .ok (.return_, 1) := by decide +kernel
theorem dX1_endsLike_0 : decode cX1_endsLike 0 = .ok (.aload_n 0, 1) := by decide +kernel
theorem dX1_endsLike_1 : decode cX1_endsLike 1 = .ok (.getfield 37, 3) := by decide +kernel
theorem dX1_endsLike_4 : decode cX1_endsLike 4 = .ok (.aload_n 1, 1) := by decide +kernel
theorem dX1_endsLike_5 : decode cX1_endsLike 5 = .ok (.getfield 37, 3) := by decide +kernel
theorem dX1_endsLike_8 : decode cX1_endsLike 8 = .ok (.if_icmp .eq 5, 3) := by decide +kernel
theorem dX1_endsLike_11 : decode cX1_endsLike 11 = .ok (.iconst 0, 1) := by decide +kernel
theorem dX1_endsLike_12 : decode cX1_endsLike 12 = .ok (.ireturn, 1) := by decide +kernel
theorem dX1_endsLike_13 : decode cX1_endsLike 13 = .ok (.aload_n 0, 1) := by decide +kernel
theorem dX1_endsLike_14 : decode cX1_endsLike 14 = .ok (.getfield 37, 3) := by decide +kernel
theorem dX1_endsLike_17 : decode cX1_endsLike 17 = .ok (.ifCond .ne 27, 3) := by decide +kernel
theorem dX1_endsLike_20 : decode cX1_endsLike 20 = .ok (.aload_n 0, 1) := by decide +kernel
theorem dX1_endsLike_21 : decode cX1_endsLike 21 = .ok (.getfield 29, 3) := by decide +kernel
theorem dX1_endsLike_24 : decode cX1_endsLike 24 = .ok (.aload_n 0, 1) := by decide +kernel
theorem dX1_endsLike_25 : decode cX1_endsLike 25 = .ok (.getfield 34, 3) := by decide +kernel
theorem dX1_endsLike_28 : decode cX1_endsLike 28 = .ok (.aaload, 1) := by decide +kernel
theorem dX1_endsLike_29 : decode cX1_endsLike 29 = .ok (.aload_n 1, 1) := by decide +kernel
theorem dX1_endsLike_30 : decode cX1_endsLike 30 = .ok (.getfield 29, 3) := by decide +kernel
theorem dX1_endsLike_33 : decode cX1_endsLike 33 = .ok (.aload_n 1, 1) := by decide +kernel
theorem dX1_endsLike_34 : decode cX1_endsLike 34 = .ok (.getfield 34, 3) := by decide +kernel
theorem dX1_endsLike_37 : decode cX1_endsLike 37 = .ok (.aaload, 1) := by decide +kernel
theorem dX1_endsLike_38 : decode cX1_endsLike 38 = .ok (.invokevirtual 66, 3) := by decide +kernel
theorem dX1_endsLike_41 : decode cX1_endsLike 41 = .ok (.ifCond .eq 7, 3) := by decide +kernel
theorem dX1_endsLike_44 : decode cX1_endsLike 44 = .ok (.iconst 1, 1) := by decide +kernel
theorem dX1_endsLike_45 : decode cX1_endsLike 45 = .ok (.goto 4, 3) := by decide +kernel
theorem dX1_endsLike_48 : decode cX1_endsLike 48 = .ok (.iconst 0, 1) := by decide +kernel
theorem dX1_endsLike_49 : decode cX1_endsLike 49 = .ok (.ireturn, 1) := by decide +kernel
theorem dX1_cents_0 : decode cX1_cents 0 = .ok (.aload_n 0, 1) := by decide +kernel
theorem dX1_cents_1 : decode cX1_cents 1 = .ok (.getfield 37, 3) := by decide +kernel
theorem dX1_cents_4 : decode cX1_cents 4 = .ok (.ifCond .ne 18, 3) := by decide +kernel
theorem dX1_cents_7 : decode cX1_cents 7 = .ok (.aload_n 0, 1) := by decide +kernel
theorem dX1_cents_8 : decode cX1_cents 8 = .ok (.getfield 29, 3) := by decide +kernel
theorem dX1_cents_11 : decode cX1_cents 11 = .ok (.aload_n 0, 1) := by decide +kernel
theorem dX1_cents_12 : decode cX1_cents 12 = .ok (.getfield 34, 3) := by decide +kernel
theorem dX1_cents_15 : decode cX1_cents 15 = .ok (.aaload, 1) := by decide +kernel
theorem dX1_cents_16 : decode cX1_cents 16 = .ok (.getfield 70, 3) := by decide +kernel
theorem dX1_cents_19 : decode cX1_cents 19 = .ok (.ifCond .eq 5, 3) := by decide +kernel
theorem dX1_cents_22 : decode cX1_cents 22 = .ok (.iconst (-1), 1) := by decide +kernel
theorem dX1_cents_23 : decode cX1_cents 23 = .ok (.ireturn, 1) := by decide +kernel
theorem dX1_cents_24 : decode cX1_cents 24 = .ok (.ldc2_w 73, 3) := by decide +kernel
theorem dX1_cents_27 : decode cX1_cents 27 = .ok (.lconst 0, 1) := by decide +kernel
theorem dX1_cents_28 : decode cX1_cents 28 = .ok (.aload_n 0, 1) := by decide +kernel
theorem dX1_cents_29 : decode cX1_cents 29 = .ok (.getfield 29, 3) := by decide +kernel
theorem dX1_cents_32 : decode cX1_cents 32 = .ok (.aload_n 0, 1) := by decide +kernel
theorem dX1_cents_33 : decode cX1_cents 33 = .ok (.getfield 34, 3) := by decide +kernel
theorem dX1_cents_36 : decode cX1_cents 36 = .ok (.aaload, 1) := by decide +kernel
theorem dX1_cents_37 : decode cX1_cents 37 = .ok (.getfield 75, 3) := by decide +kernel
theorem dX1_cents_40 : decode cX1_cents 40 = .ok (.iconst 0, 1) := by decide +kernel
theorem dX1_cents_41 : decode cX1_cents 41 = .ok (.laload, 1) := by decide +kernel
theorem dX1_cents_42 : decode cX1_cents 42 = .ok (.invokestatic 79, 3) := by decide +kernel
theorem dX1_cents_45 : decode cX1_cents 45 = .ok (.invokestatic 85, 3) := by decide +kernel
theorem dX1_cents_48 : decode cX1_cents 48 = .ok (.l2i, 1) := by decide +kernel
theorem dX1_cents_49 : decode cX1_cents 49 = .ok (.ireturn, 1) := by decide +kernel
theorem dX2_init_0 : decode cX2_init 0 = .ok (.aload_n 0, 1) := by decide +kernel
theorem dX2_init_1 : decode cX2_init 1 = .ok (.invokespecial 3, 3) := by decide +kernel
theorem dX2_init_4 : decode cX2_init 4 = .ok (.aload_n 0, 1) := by decide +kernel
theorem dX2_init_5 : decode cX2_init 5 = .ok (.new 9, 3) := by decide +kernel
theorem dX2_init_8 : decode cX2_init 8 = .ok (.dup, 1) := by decide +kernel
theorem dX2_init_9 : decode cX2_init 9 = .ok (.invokespecial 11, 3) := by decide +kernel
theorem dX2_init_12 : decode cX2_init 12 = .ok (.putfield 12, 3) := by decide +kernel
theorem dX2_init_15 : decode cX2_init 15 = .ok (.return_, 1) := by decide +kernel
theorem dX2_isKnown_0 : decode cX2_isKnown 0 = .ok (.aload_n 0, 1) := by decide +kernel
theorem dX2_isKnown_1 : decode cX2_isKnown 1 = .ok (.getfield 18, 3) := by decide +kernel
theorem dX2_isKnown_4 : decode cX2_isKnown 4 = .ok (.iconst (-1), 1) := by decide +kernel
theorem dX2_isKnown_5 : decode cX2_isKnown 5 = .ok (.if_icmp .eq 15, 3) := by decide +kernel
theorem dX2_isKnown_8 : decode cX2_isKnown 8 = .ok (.aload_n 0, 1) := by decide +kernel
theorem dX2_isKnown_9 : decode cX2_isKnown 9 = .ok (.getfield 18, 3) := by decide +kernel
theorem dX2_isKnown_12 : decode cX2_isKnown 12 = .ok (.iload_n 2, 1) := by decide +kernel
theorem dX2_isKnown_13 : decode cX2_isKnown 13 = .ok (.if_icmp .gt 7, 3) := by decide +kernel
theorem dX2_isKnown_16 : decode cX2_isKnown 16 = .ok (.iconst 1, 1) := by decide +kernel
theorem dX2_isKnown_17 : decode cX2_isKnown 17 = .ok (.goto 4, 3) := by decide +kernel
theorem dX2_isKnown_20 : decode cX2_isKnown 20 = .ok (.iconst 0, 1) := by decide +kernel
theorem dX2_isKnown_21 : decode cX2_isKnown 21 = .ok (.istore_n 3, 1) := by decide +kernel
theorem dX2_isKnown_22 : decode cX2_isKnown 22 = .ok (.aload_n 0, 1) := by decide +kernel
theorem dX2_isKnown_23 : decode cX2_isKnown 23 = .ok (.getfield 22, 3) := by decide +kernel
theorem dX2_isKnown_26 : decode cX2_isKnown 26 = .ok (.iload_n 2, 1) := by decide +kernel
theorem dX2_isKnown_27 : decode cX2_isKnown 27 = .ok (.if_icmp .gt 27, 3) := by decide +kernel
theorem dX2_isKnown_30 : decode cX2_isKnown 30 = .ok (.iload_n 3, 1) := by decide +kernel
theorem dX2_isKnown_31 : decode cX2_isKnown 31 = .ok (.ifCond .ne 23, 3) := by decide +kernel
theorem dX2_isKnown_34 : decode cX2_isKnown 34 = .ok (.aload_n 0, 1) := by decide +kernel
theorem dX2_isKnown_35 : decode cX2_isKnown 35 = .ok (.getfield 25, 3) := by decide +kernel
theorem dX2_isKnown_38 : decode cX2_isKnown 38 = .ok (.iload_n 1, 1) := by decide +kernel
theorem dX2_isKnown_39 : decode cX2_isKnown 39 = .ok (.if_icmp .gt 15, 3) := by decide +kernel
theorem dX2_isKnown_42 : decode cX2_isKnown 42 = .ok (.iload_n 1, 1) := by decide +kernel
theorem dX2_isKnown_43 : decode cX2_isKnown 43 = .ok (.aload_n 0, 1) := by decide +kernel
theorem dX2_isKnown_44 : decode cX2_isKnown 44 = .ok (.getfield 28, 3) := by decide +kernel
theorem dX2_isKnown_47 : decode cX2_isKnown 47 = .ok (.if_icmp .gt 7, 3) := by decide +kernel
theorem dX2_isKnown_50 : decode cX2_isKnown 50 = .ok (.iconst 1, 1) := by decide +kernel
theorem dX2_isKnown_51 : decode cX2_isKnown 51 = .ok (.goto 4, 3) := by decide +kernel
theorem dX2_isKnown_54 : decode cX2_isKnown 54 = .ok (.iconst 0, 1) := by decide +kernel
theorem dX2_isKnown_55 : decode cX2_isKnown 55 = .ok (.ireturn, 1) := by decide +kernel
theorem dX3_arithmetic_0 : decode cX3_arithmetic 0 = .ok (.aload_n 1, 1) := by decide +kernel
theorem dX3_arithmetic_1 : decode cX3_arithmetic 1 = .ok (.invokevirtual 9, 3) := by decide +kernel
theorem dX3_arithmetic_4 : decode cX3_arithmetic 4 = .ok (.ifCond .eq 10, 3) := by decide +kernel
theorem dX3_arithmetic_7 : decode cX3_arithmetic 7 = .ok (.aload_n 2, 1) := by decide +kernel
theorem dX3_arithmetic_8 : decode cX3_arithmetic 8 = .ok (.invokevirtual 9, 3) := by decide +kernel
theorem dX3_arithmetic_11 : decode cX3_arithmetic 11 = .ok (.ifCond .ne 5, 3) := by decide +kernel
theorem dX3_arithmetic_14 : decode cX3_arithmetic 14 = .ok (.iconst 2, 1) := by decide +kernel
theorem dX3_arithmetic_15 : decode cX3_arithmetic 15 = .ok (.ireturn, 1) := by decide +kernel
theorem dX3_arithmetic_16 : decode cX3_arithmetic 16 = .ok (.aload_n 1, 1) := by decide +kernel
theorem dX3_arithmetic_17 : decode cX3_arithmetic 17 = .ok (.getfield 17, 3) := by decide +kernel
theorem dX3_arithmetic_20 : decode cX3_arithmetic 20 = .ok (.iconst 0, 1) := by decide +kernel
theorem dX3_arithmetic_21 : decode cX3_arithmetic 21 = .ok (.laload, 1) := by decide +kernel
theorem dX3_arithmetic_22 : decode cX3_arithmetic 22 = .ok (.lstore_n 3, 1) := by decide +kernel
theorem dX3_arithmetic_23 : decode cX3_arithmetic 23 = .ok (.aload_n 2, 1) := by decide +kernel
theorem dX3_arithmetic_24 : decode cX3_arithmetic 24 = .ok (.getfield 17, 3) := by decide +kernel
theorem dX3_arithmetic_27 : decode cX3_arithmetic 27 = .ok (.iconst 0, 1) := by decide +kernel
theorem dX3_arithmetic_28 : decode cX3_arithmetic 28 = .ok (.laload, 1) := by decide +kernel
theorem dX3_arithmetic_29 : decode cX3_arithmetic 29 = .ok (.lstore 5, 2) := by decide +kernel
theorem dX3_arithmetic_31 : decode cX3_arithmetic 31 = .ok (.aload_n 1, 1) := by decide +kernel
theorem dX3_arithmetic_32 : decode cX3_arithmetic 32 = .ok (.getfield 21, 3) := by decide +kernel
theorem dX3_arithmetic_35 : decode cX3_arithmetic 35 = .ok (.ifCond .ne 38, 3) := by decide +kernel
theorem dX3_arithmetic_38 : decode cX3_arithmetic 38 = .ok (.aload_n 2, 1) := by decide +kernel
theorem dX3_arithmetic_39 : decode cX3_arithmetic 39 = .ok (.getfield 21, 3) := by decide +kernel
theorem dX3_arithmetic_42 : decode cX3_arithmetic 42 = .ok (.ifCond .ne 31, 3) := by decide +kernel
theorem dX3_arithmetic_45 : decode cX3_arithmetic 45 = .ok (.iload_n 0, 1) := by decide +kernel
theorem dX3_arithmetic_46 : decode cX3_arithmetic 46 = .ok (.lload_n 3, 1) := by decide +kernel
theorem dX3_arithmetic_47 : decode cX3_arithmetic 47 = .ok (.lload 5, 2) := by decide +kernel
theorem dX3_arithmetic_49 : decode cX3_arithmetic 49 = .ok (.invokestatic 25, 3) := by decide +kernel
theorem dX3_arithmetic_52 : decode cX3_arithmetic 52 = .ok (.ifCond .eq 6, 3) := by decide +kernel
theorem dX3_arithmetic_55 : decode cX3_arithmetic 55 = .ok (.bipush 6, 2) := by decide +kernel
theorem dX3_arithmetic_57 : decode cX3_arithmetic 57 = .ok (.ireturn, 1) := by decide +kernel
theorem dX3_arithmetic_58 : decode cX3_arithmetic 58 = .ok (.aload_n 1, 1) := by decide +kernel
theorem dX3_arithmetic_59 : decode cX3_arithmetic 59 = .ok (.getfield 17, 3) := by decide +kernel
theorem dX3_arithmetic_62 : decode cX3_arithmetic 62 = .ok (.iconst 0, 1) := by decide +kernel
theorem dX3_arithmetic_63 : decode cX3_arithmetic 63 = .ok (.iload_n 0, 1) := by decide +kernel
theorem dX3_arithmetic_64 : decode cX3_arithmetic 64 = .ok (.lload_n 3, 1) := by decide +kernel
theorem dX3_arithmetic_65 : decode cX3_arithmetic 65 = .ok (.lload 5, 2) := by decide +kernel
theorem dX3_arithmetic_67 : decode cX3_arithmetic 67 = .ok (.invokestatic 31, 3) := by decide +kernel
theorem dX3_arithmetic_70 : decode cX3_arithmetic 70 = .ok (.lastore, 1) := by decide +kernel
theorem dX3_arithmetic_71 : decode cX3_arithmetic 71 = .ok (.iconst 0, 1) := by decide +kernel
theorem dX3_arithmetic_72 : decode cX3_arithmetic 72 = .ok (.ireturn, 1) := by decide +kernel
theorem dX3_arithmetic_73 : decode cX3_arithmetic 73 = .ok (.aload_n 1, 1) := by decide +kernel
theorem dX3_arithmetic_74 : decode cX3_arithmetic 74 = .ok (.getfield 21, 3) := by decide +kernel
theorem dX3_arithmetic_77 : decode cX3_arithmetic 77 = .ok (.iconst 1, 1) := by decide +kernel
theorem dX3_arithmetic_78 : decode cX3_arithmetic 78 = .ok (.if_icmp .ne 7, 3) := by decide +kernel
theorem dX3_arithmetic_81 : decode cX3_arithmetic 81 = .ok (.lload_n 3, 1) := by decide +kernel
theorem dX3_arithmetic_82 : decode cX3_arithmetic 82 = .ok (.goto 7, 3) := by decide +kernel
theorem dX3_arithmetic_85 : decode cX3_arithmetic 85 = .ok (.lload_n 3, 1) := by decide +kernel
theorem dX3_arithmetic_86 : decode cX3_arithmetic 86 = .ok (.invokestatic 35, 3) := by decide +kernel
theorem dX3_arithmetic_89 : decode cX3_arithmetic 89 = .ok (.lstore_n 3, 1) := by decide +kernel
theorem dX3_arithmetic_90 : decode cX3_arithmetic 90 = .ok (.aload_n 2, 1) := by decide +kernel
theorem dX3_arithmetic_91 : decode cX3_arithmetic 91 = .ok (.getfield 21, 3) := by decide +kernel
theorem dX3_arithmetic_94 : decode cX3_arithmetic 94 = .ok (.iconst 1, 1) := by decide +kernel
theorem dX3_arithmetic_95 : decode cX3_arithmetic 95 = .ok (.if_icmp .ne 8, 3) := by decide +kernel
theorem dX3_arithmetic_98 : decode cX3_arithmetic 98 = .ok (.lload 5, 2) := by decide +kernel
theorem dX3_arithmetic_100 : decode cX3_arithmetic 100 = .ok (.goto 8, 3) := by decide +kernel
theorem dX3_arithmetic_103 : decode cX3_arithmetic 103 = .ok (.lload 5, 2) := by decide +kernel
theorem dX3_arithmetic_105 : decode cX3_arithmetic 105 = .ok (.invokestatic 35, 3) := by decide +kernel
theorem dX3_arithmetic_108 : decode cX3_arithmetic 108 = .ok (.lstore 5, 2) := by decide +kernel
theorem dX3_arithmetic_110 : decode cX3_arithmetic 110 = .ok (.iload_n 0, 1) := by decide +kernel
theorem dX3_arithmetic_111 : decode cX3_arithmetic 111 = .ok (.tableswitch 97 42 47 #[69, 37, 97, 51, 97, 83], 37) := by decide +kernel
theorem dX3_arithmetic_148 : decode cX3_arithmetic 148 = .ok (.aload_n 1, 1) := by decide +kernel
theorem dX3_arithmetic_149 : decode cX3_arithmetic 149 = .ok (.iconst 1, 1) := by decide +kernel
theorem dX3_arithmetic_150 : decode cX3_arithmetic 150 = .ok (.lload_n 3, 1) := by decide +kernel
theorem dX3_arithmetic_151 : decode cX3_arithmetic 151 = .ok (.lload 5, 2) := by decide +kernel
theorem dX3_arithmetic_153 : decode cX3_arithmetic 153 = .ok (.invokestatic 41, 3) := by decide +kernel
theorem dX3_arithmetic_156 : decode cX3_arithmetic 156 = .ok (.invokevirtual 45, 3) := by decide +kernel
theorem dX3_arithmetic_159 : decode cX3_arithmetic 159 = .ok (.goto 60, 3) := by decide +kernel
theorem dX3_arithmetic_162 : decode cX3_arithmetic 162 = .ok (.aload_n 1, 1) := by decide +kernel
theorem dX3_arithmetic_163 : decode cX3_arithmetic 163 = .ok (.iconst 1, 1) := by decide +kernel
theorem dX3_arithmetic_164 : decode cX3_arithmetic 164 = .ok (.lload_n 3, 1) := by decide +kernel
theorem dX3_arithmetic_165 : decode cX3_arithmetic 165 = .ok (.lload 5, 2) := by decide +kernel
theorem dX3_arithmetic_167 : decode cX3_arithmetic 167 = .ok (.ldc2_w 49, 3) := by decide +kernel
theorem dX3_arithmetic_170 : decode cX3_arithmetic 170 = .ok (.lxor, 1) := by decide +kernel
theorem dX3_arithmetic_171 : decode cX3_arithmetic 171 = .ok (.invokestatic 41, 3) := by decide +kernel
theorem dX3_arithmetic_174 : decode cX3_arithmetic 174 = .ok (.invokevirtual 45, 3) := by decide +kernel
theorem dX3_arithmetic_177 : decode cX3_arithmetic 177 = .ok (.goto 42, 3) := by decide +kernel
theorem dX3_arithmetic_180 : decode cX3_arithmetic 180 = .ok (.aload_n 1, 1) := by decide +kernel
theorem dX3_arithmetic_181 : decode cX3_arithmetic 181 = .ok (.iconst 1, 1) := by decide +kernel
theorem dX3_arithmetic_182 : decode cX3_arithmetic 182 = .ok (.lload_n 3, 1) := by decide +kernel
theorem dX3_arithmetic_183 : decode cX3_arithmetic 183 = .ok (.lload 5, 2) := by decide +kernel
theorem dX3_arithmetic_185 : decode cX3_arithmetic 185 = .ok (.invokestatic 51, 3) := by decide +kernel
theorem dX3_arithmetic_188 : decode cX3_arithmetic 188 = .ok (.invokevirtual 45, 3) := by decide +kernel
theorem dX3_arithmetic_191 : decode cX3_arithmetic 191 = .ok (.goto 28, 3) := by decide +kernel
theorem dX3_arithmetic_194 : decode cX3_arithmetic 194 = .ok (.aload_n 1, 1) := by decide +kernel
theorem dX3_arithmetic_195 : decode cX3_arithmetic 195 = .ok (.iconst 1, 1) := by decide +kernel
theorem dX3_arithmetic_196 : decode cX3_arithmetic 196 = .ok (.lload_n 3, 1) := by decide +kernel
theorem dX3_arithmetic_197 : decode cX3_arithmetic 197 = .ok (.lload 5, 2) := by decide +kernel
theorem dX3_arithmetic_199 : decode cX3_arithmetic 199 = .ok (.invokestatic 54, 3) := by decide +kernel
theorem dX3_arithmetic_202 : decode cX3_arithmetic 202 = .ok (.invokevirtual 45, 3) := by decide +kernel
theorem dX3_arithmetic_205 : decode cX3_arithmetic 205 = .ok (.goto 14, 3) := by decide +kernel
theorem dX3_arithmetic_208 : decode cX3_arithmetic 208 = .ok (.aload_n 1, 1) := by decide +kernel
theorem dX3_arithmetic_209 : decode cX3_arithmetic 209 = .ok (.iconst 1, 1) := by decide +kernel
theorem dX3_arithmetic_210 : decode cX3_arithmetic 210 = .ok (.lload_n 3, 1) := by decide +kernel
theorem dX3_arithmetic_211 : decode cX3_arithmetic 211 = .ok (.lload 5, 2) := by decide +kernel
theorem dX3_arithmetic_213 : decode cX3_arithmetic 213 = .ok (.invokestatic 57, 3) := by decide +kernel
theorem dX3_arithmetic_216 : decode cX3_arithmetic 216 = .ok (.invokevirtual 45, 3) := by decide +kernel
theorem dX3_arithmetic_219 : decode cX3_arithmetic 219 = .ok (.iconst 0, 1) := by decide +kernel
theorem dX3_arithmetic_220 : decode cX3_arithmetic 220 = .ok (.ireturn, 1) := by decide +kernel
theorem dX3_isBeyond_0 : decode cX3_isBeyond 0 = .ok (.iload_n 0, 1) := by decide +kernel
theorem dX3_isBeyond_1 : decode cX3_isBeyond 1 = .ok (.tableswitch 111 42 45 #[73, 31, 111, 53], 31) := by decide +kernel
theorem dX3_isBeyond_32 : decode cX3_isBeyond 32 = .ok (.lload_n 1, 1) := by decide +kernel
theorem dX3_isBeyond_33 : decode cX3_isBeyond 33 = .ok (.lload_n 1, 1) := by decide +kernel
theorem dX3_isBeyond_34 : decode cX3_isBeyond 34 = .ok (.lload_n 3, 1) := by decide +kernel
theorem dX3_isBeyond_35 : decode cX3_isBeyond 35 = .ok (.ladd, 1) := by decide +kernel
theorem dX3_isBeyond_36 : decode cX3_isBeyond 36 = .ok (.lxor, 1) := by decide +kernel
theorem dX3_isBeyond_37 : decode cX3_isBeyond 37 = .ok (.lload_n 3, 1) := by decide +kernel
theorem dX3_isBeyond_38 : decode cX3_isBeyond 38 = .ok (.lload_n 1, 1) := by decide +kernel
theorem dX3_isBeyond_39 : decode cX3_isBeyond 39 = .ok (.lload_n 3, 1) := by decide +kernel
theorem dX3_isBeyond_40 : decode cX3_isBeyond 40 = .ok (.ladd, 1) := by decide +kernel
theorem dX3_isBeyond_41 : decode cX3_isBeyond 41 = .ok (.lxor, 1) := by decide +kernel
theorem dX3_isBeyond_42 : decode cX3_isBeyond 42 = .ok (.land, 1) := by decide +kernel
theorem dX3_isBeyond_43 : decode cX3_isBeyond 43 = .ok (.lconst 0, 1) := by decide +kernel
theorem dX3_isBeyond_44 : decode cX3_isBeyond 44 = .ok (.lcmp, 1) := by decide +kernel
theorem dX3_isBeyond_45 : decode cX3_isBeyond 45 = .ok (.ifCond .ge 7, 3) := by decide +kernel
theorem dX3_isBeyond_48 : decode cX3_isBeyond 48 = .ok (.iconst 1, 1) := by decide +kernel
theorem dX3_isBeyond_49 : decode cX3_isBeyond 49 = .ok (.goto 4, 3) := by decide +kernel
theorem dX3_isBeyond_52 : decode cX3_isBeyond 52 = .ok (.iconst 0, 1) := by decide +kernel
theorem dX3_isBeyond_53 : decode cX3_isBeyond 53 = .ok (.ireturn, 1) := by decide +kernel
theorem dX3_isBeyond_54 : decode cX3_isBeyond 54 = .ok (.lload_n 1, 1) := by decide +kernel
theorem dX3_isBeyond_55 : decode cX3_isBeyond 55 = .ok (.lload_n 3, 1) := by decide +kernel
theorem dX3_isBeyond_56 : decode cX3_isBeyond 56 = .ok (.lxor, 1) := by decide +kernel
theorem dX3_isBeyond_57 : decode cX3_isBeyond 57 = .ok (.lload_n 1, 1) := by decide +kernel
theorem dX3_isBeyond_58 : decode cX3_isBeyond 58 = .ok (.lload_n 1, 1) := by decide +kernel
theorem dX3_isBeyond_59 : decode cX3_isBeyond 59 = .ok (.lload_n 3, 1) := by decide +kernel
theorem dX3_isBeyond_60 : decode cX3_isBeyond 60 = .ok (.lsub, 1) := by decide +kernel
theorem dX3_isBeyond_61 : decode cX3_isBeyond 61 = .ok (.lxor, 1) := by decide +kernel
theorem dX3_isBeyond_62 : decode cX3_isBeyond 62 = .ok (.land, 1) := by decide +kernel
theorem dX3_isBeyond_63 : decode cX3_isBeyond 63 = .ok (.lconst 0, 1) := by decide +kernel
theorem dX3_isBeyond_64 : decode cX3_isBeyond 64 = .ok (.lcmp, 1) := by decide +kernel
theorem dX3_isBeyond_65 : decode cX3_isBeyond 65 = .ok (.ifCond .ge 7, 3) := by decide +kernel
theorem dX3_isBeyond_68 : decode cX3_isBeyond 68 = .ok (.iconst 1, 1) := by decide +kernel
theorem dX3_isBeyond_69 : decode cX3_isBeyond 69 = .ok (.goto 4, 3) := by decide +kernel
theorem dX3_isBeyond_72 : decode cX3_isBeyond 72 = .ok (.iconst 0, 1) := by decide +kernel
theorem dX3_isBeyond_73 : decode cX3_isBeyond 73 = .ok (.ireturn, 1) := by decide +kernel
theorem dX3_isBeyond_74 : decode cX3_isBeyond 74 = .ok (.lload_n 3, 1) := by decide +kernel
theorem dX3_isBeyond_75 : decode cX3_isBeyond 75 = .ok (.lconst 0, 1) := by decide +kernel
theorem dX3_isBeyond_76 : decode cX3_isBeyond 76 = .ok (.lcmp, 1) := by decide +kernel
theorem dX3_isBeyond_77 : decode cX3_isBeyond 77 = .ok (.ifCond .eq 33, 3) := by decide +kernel
theorem dX3_isBeyond_80 : decode cX3_isBeyond 80 = .ok (.lload_n 1, 1) := by decide +kernel
theorem dX3_isBeyond_81 : decode cX3_isBeyond 81 = .ok (.lload_n 3, 1) := by decide +kernel
theorem dX3_isBeyond_82 : decode cX3_isBeyond 82 = .ok (.lmul, 1) := by decide +kernel
theorem dX3_isBeyond_83 : decode cX3_isBeyond 83 = .ok (.lload_n 3, 1) := by decide +kernel
theorem dX3_isBeyond_84 : decode cX3_isBeyond 84 = .ok (.ldiv, 1) := by decide +kernel
theorem dX3_isBeyond_85 : decode cX3_isBeyond 85 = .ok (.lload_n 1, 1) := by decide +kernel
theorem dX3_isBeyond_86 : decode cX3_isBeyond 86 = .ok (.lcmp, 1) := by decide +kernel
theorem dX3_isBeyond_87 : decode cX3_isBeyond 87 = .ok (.ifCond .ne 19, 3) := by decide +kernel
theorem dX3_isBeyond_90 : decode cX3_isBeyond 90 = .ok (.lload_n 1, 1) := by decide +kernel
theorem dX3_isBeyond_91 : decode cX3_isBeyond 91 = .ok (.ldc2_w 49, 3) := by decide +kernel
theorem dX3_isBeyond_94 : decode cX3_isBeyond 94 = .ok (.lcmp, 1) := by decide +kernel
theorem dX3_isBeyond_95 : decode cX3_isBeyond 95 = .ok (.ifCond .ne 15, 3) := by decide +kernel
theorem dX3_isBeyond_98 : decode cX3_isBeyond 98 = .ok (.lload_n 3, 1) := by decide +kernel
theorem dX3_isBeyond_99 : decode cX3_isBeyond 99 = .ok (.ldc2_w 60, 3) := by decide +kernel
theorem dX3_isBeyond_102 : decode cX3_isBeyond 102 = .ok (.lcmp, 1) := by decide +kernel
theorem dX3_isBeyond_103 : decode cX3_isBeyond 103 = .ok (.ifCond .ne 7, 3) := by decide +kernel
theorem dX3_isBeyond_106 : decode cX3_isBeyond 106 = .ok (.iconst 1, 1) := by decide +kernel
theorem dX3_isBeyond_107 : decode cX3_isBeyond 107 = .ok (.goto 4, 3) := by decide +kernel
theorem dX3_isBeyond_110 : decode cX3_isBeyond 110 = .ok (.iconst 0, 1) := by decide +kernel
theorem dX3_isBeyond_111 : decode cX3_isBeyond 111 = .ok (.ireturn, 1) := by decide +kernel
theorem dX3_isBeyond_112 : decode cX3_isBeyond 112 = .ok (.lload_n 3, 1) := by decide +kernel
theorem dX3_isBeyond_113 : decode cX3_isBeyond 113 = .ok (.lconst 0, 1) := by decide +kernel
theorem dX3_isBeyond_114 : decode cX3_isBeyond 114 = .ok (.lcmp, 1) := by decide +kernel
theorem dX3_isBeyond_115 : decode cX3_isBeyond 115 = .ok (.ifCond .ne 7, 3) := by decide +kernel
theorem dX3_isBeyond_118 : decode cX3_isBeyond 118 = .ok (.iconst 1, 1) := by decide +kernel
theorem dX3_isBeyond_119 : decode cX3_isBeyond 119 = .ok (.goto 4, 3) := by decide +kernel
theorem dX3_isBeyond_122 : decode cX3_isBeyond 122 = .ok (.iconst 0, 1) := by decide +kernel
theorem dX3_isBeyond_123 : decode cX3_isBeyond 123 = .ok (.ireturn, 1) := by decide +kernel
theorem dX3_wholeArithmetic_0 : decode cX3_wholeArithmetic 0 = .ok (.iload_n 0, 1) := by decide +kernel
theorem dX3_wholeArithmetic_1 : decode cX3_wholeArithmetic 1 = .ok (.tableswitch 65 42 47 #[47, 39, 65, 43, 65, 51], 39) := by decide +kernel
theorem dX3_wholeArithmetic_40 : decode cX3_wholeArithmetic 40 = .ok (.lload_n 1, 1) := by decide +kernel
theorem dX3_wholeArithmetic_41 : decode cX3_wholeArithmetic 41 = .ok (.lload_n 3, 1) := by decide +kernel
theorem dX3_wholeArithmetic_42 : decode cX3_wholeArithmetic 42 = .ok (.ladd, 1) := by decide +kernel
theorem dX3_wholeArithmetic_43 : decode cX3_wholeArithmetic 43 = .ok (.lreturn, 1) := by decide +kernel
theorem dX3_wholeArithmetic_44 : decode cX3_wholeArithmetic 44 = .ok (.lload_n 1, 1) := by decide +kernel
theorem dX3_wholeArithmetic_45 : decode cX3_wholeArithmetic 45 = .ok (.lload_n 3, 1) := by decide +kernel
theorem dX3_wholeArithmetic_46 : decode cX3_wholeArithmetic 46 = .ok (.lsub, 1) := by decide +kernel
theorem dX3_wholeArithmetic_47 : decode cX3_wholeArithmetic 47 = .ok (.lreturn, 1) := by decide +kernel
theorem dX3_wholeArithmetic_48 : decode cX3_wholeArithmetic 48 = .ok (.lload_n 1, 1) := by decide +kernel
theorem dX3_wholeArithmetic_49 : decode cX3_wholeArithmetic 49 = .ok (.lload_n 3, 1) := by decide +kernel
theorem dX3_wholeArithmetic_50 : decode cX3_wholeArithmetic 50 = .ok (.lmul, 1) := by decide +kernel
theorem dX3_wholeArithmetic_51 : decode cX3_wholeArithmetic 51 = .ok (.lreturn, 1) := by decide +kernel
theorem dX3_wholeArithmetic_52 : decode cX3_wholeArithmetic 52 = .ok (.lload_n 3, 1) := by decide +kernel
theorem dX3_wholeArithmetic_53 : decode cX3_wholeArithmetic 53 = .ok (.lconst 0, 1) := by decide +kernel
theorem dX3_wholeArithmetic_54 : decode cX3_wholeArithmetic 54 = .ok (.lcmp, 1) := by decide +kernel
theorem dX3_wholeArithmetic_55 : decode cX3_wholeArithmetic 55 = .ok (.ifCond .ne 7, 3) := by decide +kernel
theorem dX3_wholeArithmetic_58 : decode cX3_wholeArithmetic 58 = .ok (.lconst 0, 1) := by decide +kernel
theorem dX3_wholeArithmetic_59 : decode cX3_wholeArithmetic 59 = .ok (.goto 6, 3) := by decide +kernel
theorem dX3_wholeArithmetic_62 : decode cX3_wholeArithmetic 62 = .ok (.lload_n 1, 1) := by decide +kernel
theorem dX3_wholeArithmetic_63 : decode cX3_wholeArithmetic 63 = .ok (.lload_n 3, 1) := by decide +kernel
theorem dX3_wholeArithmetic_64 : decode cX3_wholeArithmetic 64 = .ok (.ldiv, 1) := by decide +kernel
theorem dX3_wholeArithmetic_65 : decode cX3_wholeArithmetic 65 = .ok (.lreturn, 1) := by decide +kernel
theorem dX3_wholeArithmetic_66 : decode cX3_wholeArithmetic 66 = .ok (.lload_n 3, 1) := by decide +kernel
theorem dX3_wholeArithmetic_67 : decode cX3_wholeArithmetic 67 = .ok (.lconst 0, 1) := by decide +kernel
theorem dX3_wholeArithmetic_68 : decode cX3_wholeArithmetic 68 = .ok (.lcmp, 1) := by decide +kernel
theorem dX3_wholeArithmetic_69 : decode cX3_wholeArithmetic 69 = .ok (.ifCond .ne 7, 3) := by decide +kernel
theorem dX3_wholeArithmetic_72 : decode cX3_wholeArithmetic 72 = .ok (.lconst 0, 1) := by decide +kernel
theorem dX3_wholeArithmetic_73 : decode cX3_wholeArithmetic 73 = .ok (.goto 6, 3) := by decide +kernel
theorem dX3_wholeArithmetic_76 : decode cX3_wholeArithmetic 76 = .ok (.lload_n 1, 1) := by decide +kernel
theorem dX3_wholeArithmetic_77 : decode cX3_wholeArithmetic 77 = .ok (.lload_n 3, 1) := by decide +kernel
theorem dX3_wholeArithmetic_78 : decode cX3_wholeArithmetic 78 = .ok (.lrem, 1) := by decide +kernel
theorem dX3_wholeArithmetic_79 : decode cX3_wholeArithmetic 79 = .ok (.lreturn, 1) := by decide +kernel
theorem dX3_compare_0 : decode cX3_compare 0 = .ok (.aload_n 1, 1) := by decide +kernel
theorem dX3_compare_1 : decode cX3_compare 1 = .ok (.invokevirtual 9, 3) := by decide +kernel
theorem dX3_compare_4 : decode cX3_compare 4 = .ok (.ifCond .eq 10, 3) := by decide +kernel
theorem dX3_compare_7 : decode cX3_compare 7 = .ok (.aload_n 2, 1) := by decide +kernel
theorem dX3_compare_8 : decode cX3_compare 8 = .ok (.invokevirtual 9, 3) := by decide +kernel
theorem dX3_compare_11 : decode cX3_compare 11 = .ok (.ifCond .ne 5, 3) := by decide +kernel
theorem dX3_compare_14 : decode cX3_compare 14 = .ok (.iconst 2, 1) := by decide +kernel
theorem dX3_compare_15 : decode cX3_compare 15 = .ok (.ireturn, 1) := by decide +kernel
theorem dX3_compare_16 : decode cX3_compare 16 = .ok (.aload_n 1, 1) := by decide +kernel
theorem dX3_compare_17 : decode cX3_compare 17 = .ok (.getfield 17, 3) := by decide +kernel
theorem dX3_compare_20 : decode cX3_compare 20 = .ok (.iconst 0, 1) := by decide +kernel
theorem dX3_compare_21 : decode cX3_compare 21 = .ok (.laload, 1) := by decide +kernel
theorem dX3_compare_22 : decode cX3_compare 22 = .ok (.lstore_n 3, 1) := by decide +kernel
theorem dX3_compare_23 : decode cX3_compare 23 = .ok (.aload_n 2, 1) := by decide +kernel
theorem dX3_compare_24 : decode cX3_compare 24 = .ok (.getfield 17, 3) := by decide +kernel
theorem dX3_compare_27 : decode cX3_compare 27 = .ok (.iconst 0, 1) := by decide +kernel
theorem dX3_compare_28 : decode cX3_compare 28 = .ok (.laload, 1) := by decide +kernel
theorem dX3_compare_29 : decode cX3_compare 29 = .ok (.lstore 5, 2) := by decide +kernel
theorem dX3_compare_31 : decode cX3_compare 31 = .ok (.iload_n 0, 1) := by decide +kernel
theorem dX3_compare_32 : decode cX3_compare 32 = .ok (.bipush 10, 2) := by decide +kernel
theorem dX3_compare_34 : decode cX3_compare 34 = .ok (.if_icmp .ne 7, 3) := by decide +kernel
theorem dX3_compare_37 : decode cX3_compare 37 = .ok (.iconst 1, 1) := by decide +kernel
theorem dX3_compare_38 : decode cX3_compare 38 = .ok (.goto 4, 3) := by decide +kernel
theorem dX3_compare_41 : decode cX3_compare 41 = .ok (.iconst 0, 1) := by decide +kernel
theorem dX3_compare_42 : decode cX3_compare 42 = .ok (.istore 7, 2) := by decide +kernel
theorem dX3_compare_44 : decode cX3_compare 44 = .ok (.aload_n 1, 1) := by decide +kernel
theorem dX3_compare_45 : decode cX3_compare 45 = .ok (.getfield 21, 3) := by decide +kernel
theorem dX3_compare_48 : decode cX3_compare 48 = .ok (.ifCond .ne 22, 3) := by decide +kernel
theorem dX3_compare_51 : decode cX3_compare 51 = .ok (.aload_n 2, 1) := by decide +kernel
theorem dX3_compare_52 : decode cX3_compare 52 = .ok (.getfield 21, 3) := by decide +kernel
theorem dX3_compare_55 : decode cX3_compare 55 = .ok (.ifCond .ne 15, 3) := by decide +kernel
theorem dX3_compare_58 : decode cX3_compare 58 = .ok (.iload_n 0, 1) := by decide +kernel
theorem dX3_compare_59 : decode cX3_compare 59 = .ok (.lload_n 3, 1) := by decide +kernel
theorem dX3_compare_60 : decode cX3_compare 60 = .ok (.lload 5, 2) := by decide +kernel
theorem dX3_compare_62 : decode cX3_compare 62 = .ok (.invokestatic 64, 3) := by decide +kernel
theorem dX3_compare_65 : decode cX3_compare 65 = .ok (.istore 7, 2) := by decide +kernel
theorem dX3_compare_67 : decode cX3_compare 67 = .ok (.goto 70, 3) := by decide +kernel
theorem dX3_compare_70 : decode cX3_compare 70 = .ok (.aload_n 1, 1) := by decide +kernel
theorem dX3_compare_71 : decode cX3_compare 71 = .ok (.getfield 21, 3) := by decide +kernel
theorem dX3_compare_74 : decode cX3_compare 74 = .ok (.iconst 1, 1) := by decide +kernel
theorem dX3_compare_75 : decode cX3_compare 75 = .ok (.if_icmp .ne 7, 3) := by decide +kernel
theorem dX3_compare_78 : decode cX3_compare 78 = .ok (.lload_n 3, 1) := by decide +kernel
theorem dX3_compare_79 : decode cX3_compare 79 = .ok (.goto 7, 3) := by decide +kernel
theorem dX3_compare_82 : decode cX3_compare 82 = .ok (.lload_n 3, 1) := by decide +kernel
theorem dX3_compare_83 : decode cX3_compare 83 = .ok (.invokestatic 35, 3) := by decide +kernel
theorem dX3_compare_86 : decode cX3_compare 86 = .ok (.lstore_n 3, 1) := by decide +kernel
theorem dX3_compare_87 : decode cX3_compare 87 = .ok (.aload_n 2, 1) := by decide +kernel
theorem dX3_compare_88 : decode cX3_compare 88 = .ok (.getfield 21, 3) := by decide +kernel
theorem dX3_compare_91 : decode cX3_compare 91 = .ok (.iconst 1, 1) := by decide +kernel
theorem dX3_compare_92 : decode cX3_compare 92 = .ok (.if_icmp .ne 8, 3) := by decide +kernel
theorem dX3_compare_95 : decode cX3_compare 95 = .ok (.lload 5, 2) := by decide +kernel
theorem dX3_compare_97 : decode cX3_compare 97 = .ok (.goto 8, 3) := by decide +kernel
theorem dX3_compare_100 : decode cX3_compare 100 = .ok (.lload 5, 2) := by decide +kernel
theorem dX3_compare_102 : decode cX3_compare 102 = .ok (.invokestatic 35, 3) := by decide +kernel
theorem dX3_compare_105 : decode cX3_compare 105 = .ok (.lstore 5, 2) := by decide +kernel
theorem dX3_compare_107 : decode cX3_compare 107 = .ok (.lload_n 3, 1) := by decide +kernel
theorem dX3_compare_108 : decode cX3_compare 108 = .ok (.invokestatic 67, 3) := by decide +kernel
theorem dX3_compare_111 : decode cX3_compare 111 = .ok (.ifCond .ne 26, 3) := by decide +kernel
theorem dX3_compare_114 : decode cX3_compare 114 = .ok (.lload 5, 2) := by decide +kernel
theorem dX3_compare_116 : decode cX3_compare 116 = .ok (.invokestatic 67, 3) := by decide +kernel
theorem dX3_compare_119 : decode cX3_compare 119 = .ok (.ifCond .ne 18, 3) := by decide +kernel
theorem dX3_compare_122 : decode cX3_compare 122 = .ok (.iload_n 0, 1) := by decide +kernel
theorem dX3_compare_123 : decode cX3_compare 123 = .ok (.lload_n 3, 1) := by decide +kernel
theorem dX3_compare_124 : decode cX3_compare 124 = .ok (.invokestatic 71, 3) := by decide +kernel
theorem dX3_compare_127 : decode cX3_compare 127 = .ok (.lload 5, 2) := by decide +kernel
theorem dX3_compare_129 : decode cX3_compare 129 = .ok (.invokestatic 71, 3) := by decide +kernel
theorem dX3_compare_132 : decode cX3_compare 132 = .ok (.invokestatic 64, 3) := by decide +kernel
theorem dX3_compare_135 : decode cX3_compare 135 = .ok (.istore 7, 2) := by decide +kernel
theorem dX3_compare_137 : decode cX3_compare 137 = .ok (.aload_n 1, 1) := by decide +kernel
theorem dX3_compare_138 : decode cX3_compare 138 = .ok (.iconst 0, 1) := by decide +kernel
theorem dX3_compare_139 : decode cX3_compare 139 = .ok (.iload 7, 2) := by decide +kernel
theorem dX3_compare_141 : decode cX3_compare 141 = .ok (.ifCond .eq 7, 3) := by decide +kernel
theorem dX3_compare_144 : decode cX3_compare 144 = .ok (.lconst 1, 1) := by decide +kernel
theorem dX3_compare_145 : decode cX3_compare 145 = .ok (.goto 4, 3) := by decide +kernel
theorem dX3_compare_148 : decode cX3_compare 148 = .ok (.lconst 0, 1) := by decide +kernel
theorem dX3_compare_149 : decode cX3_compare 149 = .ok (.invokevirtual 45, 3) := by decide +kernel
theorem dX3_compare_152 : decode cX3_compare 152 = .ok (.iconst 0, 1) := by decide +kernel
theorem dX3_compare_153 : decode cX3_compare 153 = .ok (.ireturn, 1) := by decide +kernel
theorem dX3_tells_0 : decode cX3_tells 0 = .ok (.iload_n 0, 1) := by decide +kernel
theorem dX3_tells_1 : decode cX3_tells 1 = .ok (.lookupswitch 71 #[(9, 47), (60, 35), (61, 59)], 35) := by decide +kernel
theorem dX3_tells_36 : decode cX3_tells 36 = .ok (.lload_n 1, 1) := by decide +kernel
theorem dX3_tells_37 : decode cX3_tells 37 = .ok (.lload_n 3, 1) := by decide +kernel
theorem dX3_tells_38 : decode cX3_tells 38 = .ok (.lcmp, 1) := by decide +kernel
theorem dX3_tells_39 : decode cX3_tells 39 = .ok (.ifCond .ge 7, 3) := by decide +kernel
theorem dX3_tells_42 : decode cX3_tells 42 = .ok (.iconst 1, 1) := by decide +kernel
theorem dX3_tells_43 : decode cX3_tells 43 = .ok (.goto 4, 3) := by decide +kernel
theorem dX3_tells_46 : decode cX3_tells 46 = .ok (.iconst 0, 1) := by decide +kernel
theorem dX3_tells_47 : decode cX3_tells 47 = .ok (.ireturn, 1) := by decide +kernel
theorem dX3_tells_48 : decode cX3_tells 48 = .ok (.lload_n 1, 1) := by decide +kernel
theorem dX3_tells_49 : decode cX3_tells 49 = .ok (.lload_n 3, 1) := by decide +kernel
theorem dX3_tells_50 : decode cX3_tells 50 = .ok (.lcmp, 1) := by decide +kernel
theorem dX3_tells_51 : decode cX3_tells 51 = .ok (.ifCond .gt 7, 3) := by decide +kernel
theorem dX3_tells_54 : decode cX3_tells 54 = .ok (.iconst 1, 1) := by decide +kernel
theorem dX3_tells_55 : decode cX3_tells 55 = .ok (.goto 4, 3) := by decide +kernel
theorem dX3_tells_58 : decode cX3_tells 58 = .ok (.iconst 0, 1) := by decide +kernel
theorem dX3_tells_59 : decode cX3_tells 59 = .ok (.ireturn, 1) := by decide +kernel
theorem dX3_tells_60 : decode cX3_tells 60 = .ok (.lload_n 1, 1) := by decide +kernel
theorem dX3_tells_61 : decode cX3_tells 61 = .ok (.lload_n 3, 1) := by decide +kernel
theorem dX3_tells_62 : decode cX3_tells 62 = .ok (.lcmp, 1) := by decide +kernel
theorem dX3_tells_63 : decode cX3_tells 63 = .ok (.ifCond .ne 7, 3) := by decide +kernel
theorem dX3_tells_66 : decode cX3_tells 66 = .ok (.iconst 1, 1) := by decide +kernel
theorem dX3_tells_67 : decode cX3_tells 67 = .ok (.goto 4, 3) := by decide +kernel
theorem dX3_tells_70 : decode cX3_tells 70 = .ok (.iconst 0, 1) := by decide +kernel
theorem dX3_tells_71 : decode cX3_tells 71 = .ok (.ireturn, 1) := by decide +kernel
theorem dX3_tells_72 : decode cX3_tells 72 = .ok (.lload_n 1, 1) := by decide +kernel
theorem dX3_tells_73 : decode cX3_tells 73 = .ok (.lload_n 3, 1) := by decide +kernel
theorem dX3_tells_74 : decode cX3_tells 74 = .ok (.lcmp, 1) := by decide +kernel
theorem dX3_tells_75 : decode cX3_tells 75 = .ok (.ifCond .eq 7, 3) := by decide +kernel
theorem dX3_tells_78 : decode cX3_tells 78 = .ok (.iconst 1, 1) := by decide +kernel
theorem dX3_tells_79 : decode cX3_tells 79 = .ok (.goto 4, 3) := by decide +kernel
theorem dX3_tells_82 : decode cX3_tells 82 = .ok (.iconst 0, 1) := by decide +kernel
theorem dX3_tells_83 : decode cX3_tells 83 = .ok (.ireturn, 1) := by decide +kernel
theorem dX3_extreme_0 : decode cX3_extreme 0 = .ok (.aload_n 1, 1) := by decide +kernel
theorem dX3_extreme_1 : decode cX3_extreme 1 = .ok (.invokevirtual 9, 3) := by decide +kernel
theorem dX3_extreme_4 : decode cX3_extreme 4 = .ok (.ifCond .eq 10, 3) := by decide +kernel
theorem dX3_extreme_7 : decode cX3_extreme 7 = .ok (.aload_n 2, 1) := by decide +kernel
theorem dX3_extreme_8 : decode cX3_extreme 8 = .ok (.invokevirtual 9, 3) := by decide +kernel
theorem dX3_extreme_11 : decode cX3_extreme 11 = .ok (.ifCond .ne 5, 3) := by decide +kernel
theorem dX3_extreme_14 : decode cX3_extreme 14 = .ok (.iconst 2, 1) := by decide +kernel
theorem dX3_extreme_15 : decode cX3_extreme 15 = .ok (.ireturn, 1) := by decide +kernel
theorem dX3_extreme_16 : decode cX3_extreme 16 = .ok (.aload_n 1, 1) := by decide +kernel
theorem dX3_extreme_17 : decode cX3_extreme 17 = .ok (.getfield 17, 3) := by decide +kernel
theorem dX3_extreme_20 : decode cX3_extreme 20 = .ok (.iconst 0, 1) := by decide +kernel
theorem dX3_extreme_21 : decode cX3_extreme 21 = .ok (.laload, 1) := by decide +kernel
theorem dX3_extreme_22 : decode cX3_extreme 22 = .ok (.lstore_n 3, 1) := by decide +kernel
theorem dX3_extreme_23 : decode cX3_extreme 23 = .ok (.aload_n 2, 1) := by decide +kernel
theorem dX3_extreme_24 : decode cX3_extreme 24 = .ok (.getfield 17, 3) := by decide +kernel
theorem dX3_extreme_27 : decode cX3_extreme 27 = .ok (.iconst 0, 1) := by decide +kernel
theorem dX3_extreme_28 : decode cX3_extreme 28 = .ok (.laload, 1) := by decide +kernel
theorem dX3_extreme_29 : decode cX3_extreme 29 = .ok (.lstore 5, 2) := by decide +kernel
theorem dX3_extreme_31 : decode cX3_extreme 31 = .ok (.aload_n 1, 1) := by decide +kernel
theorem dX3_extreme_32 : decode cX3_extreme 32 = .ok (.getfield 21, 3) := by decide +kernel
theorem dX3_extreme_35 : decode cX3_extreme 35 = .ok (.ifCond .ne 37, 3) := by decide +kernel
theorem dX3_extreme_38 : decode cX3_extreme 38 = .ok (.aload_n 2, 1) := by decide +kernel
theorem dX3_extreme_39 : decode cX3_extreme 39 = .ok (.getfield 21, 3) := by decide +kernel
theorem dX3_extreme_42 : decode cX3_extreme 42 = .ok (.ifCond .ne 30, 3) := by decide +kernel
theorem dX3_extreme_45 : decode cX3_extreme 45 = .ok (.aload_n 1, 1) := by decide +kernel
theorem dX3_extreme_46 : decode cX3_extreme 46 = .ok (.getfield 17, 3) := by decide +kernel
theorem dX3_extreme_49 : decode cX3_extreme 49 = .ok (.iconst 0, 1) := by decide +kernel
theorem dX3_extreme_50 : decode cX3_extreme 50 = .ok (.iload_n 0, 1) := by decide +kernel
theorem dX3_extreme_51 : decode cX3_extreme 51 = .ok (.ifCond .eq 12, 3) := by decide +kernel
theorem dX3_extreme_54 : decode cX3_extreme 54 = .ok (.lload_n 3, 1) := by decide +kernel
theorem dX3_extreme_55 : decode cX3_extreme 55 = .ok (.lload 5, 2) := by decide +kernel
theorem dX3_extreme_57 : decode cX3_extreme 57 = .ok (.invokestatic 74, 3) := by decide +kernel
theorem dX3_extreme_60 : decode cX3_extreme 60 = .ok (.goto 9, 3) := by decide +kernel
theorem dX3_extreme_63 : decode cX3_extreme 63 = .ok (.lload_n 3, 1) := by decide +kernel
theorem dX3_extreme_64 : decode cX3_extreme 64 = .ok (.lload 5, 2) := by decide +kernel
theorem dX3_extreme_66 : decode cX3_extreme 66 = .ok (.invokestatic 79, 3) := by decide +kernel
theorem dX3_extreme_69 : decode cX3_extreme 69 = .ok (.lastore, 1) := by decide +kernel
theorem dX3_extreme_70 : decode cX3_extreme 70 = .ok (.iconst 0, 1) := by decide +kernel
theorem dX3_extreme_71 : decode cX3_extreme 71 = .ok (.ireturn, 1) := by decide +kernel
theorem dX3_extreme_72 : decode cX3_extreme 72 = .ok (.aload_n 1, 1) := by decide +kernel
theorem dX3_extreme_73 : decode cX3_extreme 73 = .ok (.getfield 21, 3) := by decide +kernel
theorem dX3_extreme_76 : decode cX3_extreme 76 = .ok (.iconst 1, 1) := by decide +kernel
theorem dX3_extreme_77 : decode cX3_extreme 77 = .ok (.if_icmp .ne 7, 3) := by decide +kernel
theorem dX3_extreme_80 : decode cX3_extreme 80 = .ok (.lload_n 3, 1) := by decide +kernel
theorem dX3_extreme_81 : decode cX3_extreme 81 = .ok (.goto 7, 3) := by decide +kernel
theorem dX3_extreme_84 : decode cX3_extreme 84 = .ok (.lload_n 3, 1) := by decide +kernel
theorem dX3_extreme_85 : decode cX3_extreme 85 = .ok (.invokestatic 35, 3) := by decide +kernel
theorem dX3_extreme_88 : decode cX3_extreme 88 = .ok (.lstore_n 3, 1) := by decide +kernel
theorem dX3_extreme_89 : decode cX3_extreme 89 = .ok (.aload_n 2, 1) := by decide +kernel
theorem dX3_extreme_90 : decode cX3_extreme 90 = .ok (.getfield 21, 3) := by decide +kernel
theorem dX3_extreme_93 : decode cX3_extreme 93 = .ok (.iconst 1, 1) := by decide +kernel
theorem dX3_extreme_94 : decode cX3_extreme 94 = .ok (.if_icmp .ne 8, 3) := by decide +kernel
theorem dX3_extreme_97 : decode cX3_extreme 97 = .ok (.lload 5, 2) := by decide +kernel
theorem dX3_extreme_99 : decode cX3_extreme 99 = .ok (.goto 8, 3) := by decide +kernel
theorem dX3_extreme_102 : decode cX3_extreme 102 = .ok (.lload 5, 2) := by decide +kernel
theorem dX3_extreme_104 : decode cX3_extreme 104 = .ok (.invokestatic 35, 3) := by decide +kernel
theorem dX3_extreme_107 : decode cX3_extreme 107 = .ok (.lstore 5, 2) := by decide +kernel
theorem dX3_extreme_109 : decode cX3_extreme 109 = .ok (.iload_n 0, 1) := by decide +kernel
theorem dX3_extreme_110 : decode cX3_extreme 110 = .ok (.lload_n 3, 1) := by decide +kernel
theorem dX3_extreme_111 : decode cX3_extreme 111 = .ok (.invokestatic 82, 3) := by decide +kernel
theorem dX3_extreme_114 : decode cX3_extreme 114 = .ok (.lload 5, 2) := by decide +kernel
theorem dX3_extreme_116 : decode cX3_extreme 116 = .ok (.invokestatic 82, 3) := by decide +kernel
theorem dX3_extreme_119 : decode cX3_extreme 119 = .ok (.lcmp, 1) := by decide +kernel
theorem dX3_extreme_120 : decode cX3_extreme 120 = .ok (.ifCond .gt 7, 3) := by decide +kernel
theorem dX3_extreme_123 : decode cX3_extreme 123 = .ok (.iconst 1, 1) := by decide +kernel
theorem dX3_extreme_124 : decode cX3_extreme 124 = .ok (.goto 4, 3) := by decide +kernel
theorem dX3_extreme_127 : decode cX3_extreme 127 = .ok (.iconst 0, 1) := by decide +kernel
theorem dX3_extreme_128 : decode cX3_extreme 128 = .ok (.if_icmp .ne 7, 3) := by decide +kernel
theorem dX3_extreme_131 : decode cX3_extreme 131 = .ok (.iconst 1, 1) := by decide +kernel
theorem dX3_extreme_132 : decode cX3_extreme 132 = .ok (.goto 4, 3) := by decide +kernel
theorem dX3_extreme_135 : decode cX3_extreme 135 = .ok (.iconst 0, 1) := by decide +kernel
theorem dX3_extreme_136 : decode cX3_extreme 136 = .ok (.istore 7, 2) := by decide +kernel
theorem dX3_extreme_138 : decode cX3_extreme 138 = .ok (.lload_n 3, 1) := by decide +kernel
theorem dX3_extreme_139 : decode cX3_extreme 139 = .ok (.invokestatic 67, 3) := by decide +kernel
theorem dX3_extreme_142 : decode cX3_extreme 142 = .ok (.ifCond .ne 11, 3) := by decide +kernel
theorem dX3_extreme_145 : decode cX3_extreme 145 = .ok (.lload 5, 2) := by decide +kernel
theorem dX3_extreme_147 : decode cX3_extreme 147 = .ok (.invokestatic 67, 3) := by decide +kernel
theorem dX3_extreme_150 : decode cX3_extreme 150 = .ok (.ifCond .eq 9, 3) := by decide +kernel
theorem dX3_extreme_153 : decode cX3_extreme 153 = .ok (.lload_n 3, 1) := by decide +kernel
theorem dX3_extreme_154 : decode cX3_extreme 154 = .ok (.invokestatic 67, 3) := by decide +kernel
theorem dX3_extreme_157 : decode cX3_extreme 157 = .ok (.istore 7, 2) := by decide +kernel
theorem dX3_extreme_159 : decode cX3_extreme 159 = .ok (.aload_n 1, 1) := by decide +kernel
theorem dX3_extreme_160 : decode cX3_extreme 160 = .ok (.iconst 1, 1) := by decide +kernel
theorem dX3_extreme_161 : decode cX3_extreme 161 = .ok (.iload 7, 2) := by decide +kernel
theorem dX3_extreme_163 : decode cX3_extreme 163 = .ok (.ifCond .eq 7, 3) := by decide +kernel
theorem dX3_extreme_166 : decode cX3_extreme 166 = .ok (.lload_n 3, 1) := by decide +kernel
theorem dX3_extreme_167 : decode cX3_extreme 167 = .ok (.goto 5, 3) := by decide +kernel
theorem dX3_extreme_170 : decode cX3_extreme 170 = .ok (.lload 5, 2) := by decide +kernel
theorem dX3_extreme_172 : decode cX3_extreme 172 = .ok (.invokevirtual 45, 3) := by decide +kernel
theorem dX3_extreme_175 : decode cX3_extreme 175 = .ok (.iconst 0, 1) := by decide +kernel
theorem dX3_extreme_176 : decode cX3_extreme 176 = .ok (.ireturn, 1) := by decide +kernel
theorem dX3_negative_0 : decode cX3_negative 0 = .ok (.aload_n 0, 1) := by decide +kernel
theorem dX3_negative_1 : decode cX3_negative 1 = .ok (.invokevirtual 9, 3) := by decide +kernel
theorem dX3_negative_4 : decode cX3_negative 4 = .ok (.ifCond .ne 5, 3) := by decide +kernel
theorem dX3_negative_7 : decode cX3_negative 7 = .ok (.iconst 2, 1) := by decide +kernel
theorem dX3_negative_8 : decode cX3_negative 8 = .ok (.ireturn, 1) := by decide +kernel
theorem dX3_negative_9 : decode cX3_negative 9 = .ok (.aload_n 0, 1) := by decide +kernel
theorem dX3_negative_10 : decode cX3_negative 10 = .ok (.getfield 21, 3) := by decide +kernel
theorem dX3_negative_13 : decode cX3_negative 13 = .ok (.iconst 1, 1) := by decide +kernel
theorem dX3_negative_14 : decode cX3_negative 14 = .ok (.if_icmp .ne 20, 3) := by decide +kernel
theorem dX3_negative_17 : decode cX3_negative 17 = .ok (.aload_n 0, 1) := by decide +kernel
theorem dX3_negative_18 : decode cX3_negative 18 = .ok (.iconst 0, 1) := by decide +kernel
theorem dX3_negative_19 : decode cX3_negative 19 = .ok (.aload_n 0, 1) := by decide +kernel
theorem dX3_negative_20 : decode cX3_negative 20 = .ok (.getfield 17, 3) := by decide +kernel
theorem dX3_negative_23 : decode cX3_negative 23 = .ok (.iconst 0, 1) := by decide +kernel
theorem dX3_negative_24 : decode cX3_negative 24 = .ok (.laload, 1) := by decide +kernel
theorem dX3_negative_25 : decode cX3_negative 25 = .ok (.ldc2_w 49, 3) := by decide +kernel
theorem dX3_negative_28 : decode cX3_negative 28 = .ok (.lxor, 1) := by decide +kernel
theorem dX3_negative_29 : decode cX3_negative 29 = .ok (.invokevirtual 85, 3) := by decide +kernel
theorem dX3_negative_32 : decode cX3_negative 32 = .ok (.iconst 0, 1) := by decide +kernel
theorem dX3_negative_33 : decode cX3_negative 33 = .ok (.ireturn, 1) := by decide +kernel
theorem dX3_negative_34 : decode cX3_negative 34 = .ok (.aload_n 0, 1) := by decide +kernel
theorem dX3_negative_35 : decode cX3_negative 35 = .ok (.getfield 17, 3) := by decide +kernel
theorem dX3_negative_38 : decode cX3_negative 38 = .ok (.iconst 0, 1) := by decide +kernel
theorem dX3_negative_39 : decode cX3_negative 39 = .ok (.laload, 1) := by decide +kernel
theorem dX3_negative_40 : decode cX3_negative 40 = .ok (.ldc2_w 49, 3) := by decide +kernel
theorem dX3_negative_43 : decode cX3_negative 43 = .ok (.lcmp, 1) := by decide +kernel
theorem dX3_negative_44 : decode cX3_negative 44 = .ok (.ifCond .ne 6, 3) := by decide +kernel
theorem dX3_negative_47 : decode cX3_negative 47 = .ok (.bipush 6, 2) := by decide +kernel
theorem dX3_negative_49 : decode cX3_negative 49 = .ok (.ireturn, 1) := by decide +kernel
theorem dX3_negative_50 : decode cX3_negative 50 = .ok (.aload_n 0, 1) := by decide +kernel
theorem dX3_negative_51 : decode cX3_negative 51 = .ok (.getfield 17, 3) := by decide +kernel
theorem dX3_negative_54 : decode cX3_negative 54 = .ok (.iconst 0, 1) := by decide +kernel
theorem dX3_negative_55 : decode cX3_negative 55 = .ok (.aload_n 0, 1) := by decide +kernel
theorem dX3_negative_56 : decode cX3_negative 56 = .ok (.getfield 17, 3) := by decide +kernel
theorem dX3_negative_59 : decode cX3_negative 59 = .ok (.iconst 0, 1) := by decide +kernel
theorem dX3_negative_60 : decode cX3_negative 60 = .ok (.laload, 1) := by decide +kernel
theorem dX3_negative_61 : decode cX3_negative 61 = .ok (.lneg, 1) := by decide +kernel
theorem dX3_negative_62 : decode cX3_negative 62 = .ok (.lastore, 1) := by decide +kernel
theorem dX3_negative_63 : decode cX3_negative 63 = .ok (.iconst 0, 1) := by decide +kernel
theorem dX3_negative_64 : decode cX3_negative 64 = .ok (.ireturn, 1) := by decide +kernel
theorem dX3_item_0 : decode cX3_item 0 = .ok (.aload_n 0, 1) := by decide +kernel
theorem dX3_item_1 : decode cX3_item 1 = .ok (.invokevirtual 88, 3) := by decide +kernel
theorem dX3_item_4 : decode cX3_item 4 = .ok (.ifCond .eq 10, 3) := by decide +kernel
theorem dX3_item_7 : decode cX3_item 7 = .ok (.aload_n 1, 1) := by decide +kernel
theorem dX3_item_8 : decode cX3_item 8 = .ok (.getfield 21, 3) := by decide +kernel
theorem dX3_item_11 : decode cX3_item 11 = .ok (.ifCond .eq 5, 3) := by decide +kernel
theorem dX3_item_14 : decode cX3_item 14 = .ok (.iconst 2, 1) := by decide +kernel
theorem dX3_item_15 : decode cX3_item 15 = .ok (.ireturn, 1) := by decide +kernel
theorem dX3_item_16 : decode cX3_item 16 = .ok (.aload_n 0, 1) := by decide +kernel
theorem dX3_item_17 : decode cX3_item 17 = .ok (.aload_n 1, 1) := by decide +kernel
theorem dX3_item_18 : decode cX3_item 18 = .ok (.getfield 17, 3) := by decide +kernel
theorem dX3_item_21 : decode cX3_item 21 = .ok (.iconst 0, 1) := by decide +kernel
theorem dX3_item_22 : decode cX3_item 22 = .ok (.laload, 1) := by decide +kernel
theorem dX3_item_23 : decode cX3_item 23 = .ok (.invokevirtual 91, 3) := by decide +kernel
theorem dX3_item_26 : decode cX3_item 26 = .ok (.ifCond .ne 5, 3) := by decide +kernel
theorem dX3_item_29 : decode cX3_item 29 = .ok (.iconst 3, 1) := by decide +kernel
theorem dX3_item_30 : decode cX3_item 30 = .ok (.ireturn, 1) := by decide +kernel
theorem dX3_item_31 : decode cX3_item 31 = .ok (.aload_n 0, 1) := by decide +kernel
theorem dX3_item_32 : decode cX3_item 32 = .ok (.getfield 17, 3) := by decide +kernel
theorem dX3_item_35 : decode cX3_item 35 = .ok (.aload_n 1, 1) := by decide +kernel
theorem dX3_item_36 : decode cX3_item 36 = .ok (.getfield 17, 3) := by decide +kernel
theorem dX3_item_39 : decode cX3_item 39 = .ok (.iconst 0, 1) := by decide +kernel
theorem dX3_item_40 : decode cX3_item 40 = .ok (.laload, 1) := by decide +kernel
theorem dX3_item_41 : decode cX3_item 41 = .ok (.l2i, 1) := by decide +kernel
theorem dX3_item_42 : decode cX3_item 42 = .ok (.laload, 1) := by decide +kernel
theorem dX3_item_43 : decode cX3_item 43 = .ok (.lstore_n 2, 1) := by decide +kernel
theorem dX3_item_44 : decode cX3_item 44 = .ok (.aload_n 0, 1) := by decide +kernel
theorem dX3_item_45 : decode cX3_item 45 = .ok (.invokevirtual 94, 3) := by decide +kernel
theorem dX3_item_48 : decode cX3_item 48 = .ok (.ifCond .eq 13, 3) := by decide +kernel
theorem dX3_item_51 : decode cX3_item 51 = .ok (.lload_n 2, 1) := by decide +kernel
theorem dX3_item_52 : decode cX3_item 52 = .ok (.ldc2_w 60, 3) := by decide +kernel
theorem dX3_item_55 : decode cX3_item 55 = .ok (.lcmp, 1) := by decide +kernel
theorem dX3_item_56 : decode cX3_item 56 = .ok (.ifCond .ne 5, 3) := by decide +kernel
theorem dX3_item_59 : decode cX3_item 59 = .ok (.iconst 1, 1) := by decide +kernel
theorem dX3_item_60 : decode cX3_item 60 = .ok (.ireturn, 1) := by decide +kernel
theorem dX3_item_61 : decode cX3_item 61 = .ok (.aload_n 0, 1) := by decide +kernel
theorem dX3_item_62 : decode cX3_item 62 = .ok (.getfield 21, 3) := by decide +kernel
theorem dX3_item_65 : decode cX3_item 65 = .ok (.iconst 4, 1) := by decide +kernel
theorem dX3_item_66 : decode cX3_item 66 = .ok (.if_icmp .ne 7, 3) := by decide +kernel
theorem dX3_item_69 : decode cX3_item 69 = .ok (.iconst 1, 1) := by decide +kernel
theorem dX3_item_70 : decode cX3_item 70 = .ok (.goto 4, 3) := by decide +kernel
theorem dX3_item_73 : decode cX3_item 73 = .ok (.iconst 0, 1) := by decide +kernel
theorem dX3_item_74 : decode cX3_item 74 = .ok (.istore 4, 2) := by decide +kernel
theorem dX3_item_76 : decode cX3_item 76 = .ok (.aload_n 0, 1) := by decide +kernel
theorem dX3_item_77 : decode cX3_item 77 = .ok (.aload_n 0, 1) := by decide +kernel
theorem dX3_item_78 : decode cX3_item 78 = .ok (.invokevirtual 94, 3) := by decide +kernel
theorem dX3_item_81 : decode cX3_item 81 = .ok (.ifCond .eq 8, 3) := by decide +kernel
theorem dX3_item_84 : decode cX3_item 84 = .ok (.bipush 8, 2) := by decide +kernel
theorem dX3_item_86 : decode cX3_item 86 = .ok (.goto 5, 3) := by decide +kernel
theorem dX3_item_89 : decode cX3_item 89 = .ok (.iload 4, 2) := by decide +kernel
theorem dX3_item_91 : decode cX3_item 91 = .ok (.lload_n 2, 1) := by decide +kernel
theorem dX3_item_92 : decode cX3_item 92 = .ok (.invokevirtual 45, 3) := by decide +kernel
theorem dX3_item_95 : decode cX3_item 95 = .ok (.iconst 0, 1) := by decide +kernel
theorem dX3_item_96 : decode cX3_item 96 = .ok (.ireturn, 1) := by decide +kernel
theorem dX3_born_0 : decode cX3_born 0 = .ok (.aload_n 1, 1) := by decide +kernel
theorem dX3_born_1 : decode cX3_born 1 = .ok (.getfield 21, 3) := by decide +kernel
theorem dX3_born_4 : decode cX3_born 4 = .ok (.bipush 8, 2) := by decide +kernel
theorem dX3_born_6 : decode cX3_born 6 = .ok (.if_icmp .eq 5, 3) := by decide +kernel
theorem dX3_born_9 : decode cX3_born 9 = .ok (.iconst 2, 1) := by decide +kernel
theorem dX3_born_10 : decode cX3_born 10 = .ok (.ireturn, 1) := by decide +kernel
theorem dX3_born_11 : decode cX3_born 11 = .ok (.aload_n 0, 1) := by decide +kernel
theorem dX3_born_12 : decode cX3_born 12 = .ok (.aload_n 1, 1) := by decide +kernel
theorem dX3_born_13 : decode cX3_born 13 = .ok (.getfield 17, 3) := by decide +kernel
theorem dX3_born_16 : decode cX3_born 16 = .ok (.iconst 0, 1) := by decide +kernel
theorem dX3_born_17 : decode cX3_born 17 = .ok (.laload, 1) := by decide +kernel
theorem dX3_born_18 : decode cX3_born 18 = .ok (.invokevirtual 97, 3) := by decide +kernel
theorem dX3_born_21 : decode cX3_born 21 = .ok (.ifCond .ne 5, 3) := by decide +kernel
theorem dX3_born_24 : decode cX3_born 24 = .ok (.iconst 1, 1) := by decide +kernel
theorem dX3_born_25 : decode cX3_born 25 = .ok (.ireturn, 1) := by decide +kernel
theorem dX3_born_26 : decode cX3_born 26 = .ok (.aload_n 1, 1) := by decide +kernel
theorem dX3_born_27 : decode cX3_born 27 = .ok (.iconst 0, 1) := by decide +kernel
theorem dX3_born_28 : decode cX3_born 28 = .ok (.aload_n 0, 1) := by decide +kernel
theorem dX3_born_29 : decode cX3_born 29 = .ok (.getfield 102, 3) := by decide +kernel
theorem dX3_born_32 : decode cX3_born 32 = .ok (.aload_n 1, 1) := by decide +kernel
theorem dX3_born_33 : decode cX3_born 33 = .ok (.getfield 17, 3) := by decide +kernel
theorem dX3_born_36 : decode cX3_born 36 = .ok (.iconst 0, 1) := by decide +kernel
theorem dX3_born_37 : decode cX3_born 37 = .ok (.laload, 1) := by decide +kernel
theorem dX3_born_38 : decode cX3_born 38 = .ok (.l2i, 1) := by decide +kernel
theorem dX3_born_39 : decode cX3_born 39 = .ok (.iaload, 1) := by decide +kernel
theorem dX3_born_40 : decode cX3_born 40 = .ok (.i2l, 1) := by decide +kernel
theorem dX3_born_41 : decode cX3_born 41 = .ok (.invokevirtual 45, 3) := by decide +kernel
theorem dX3_born_44 : decode cX3_born 44 = .ok (.iconst 0, 1) := by decide +kernel
theorem dX3_born_45 : decode cX3_born 45 = .ok (.ireturn, 1) := by decide +kernel
theorem dX3_len_0 : decode cX3_len 0 = .ok (.aload_n 0, 1) := by decide +kernel
theorem dX3_len_1 : decode cX3_len 1 = .ok (.invokevirtual 88, 3) := by decide +kernel
theorem dX3_len_4 : decode cX3_len 4 = .ok (.ifCond .ne 5, 3) := by decide +kernel
theorem dX3_len_7 : decode cX3_len 7 = .ok (.iconst 2, 1) := by decide +kernel
theorem dX3_len_8 : decode cX3_len 8 = .ok (.ireturn, 1) := by decide +kernel
theorem dX3_len_9 : decode cX3_len 9 = .ok (.aload_n 0, 1) := by decide +kernel
theorem dX3_len_10 : decode cX3_len 10 = .ok (.iconst 0, 1) := by decide +kernel
theorem dX3_len_11 : decode cX3_len 11 = .ok (.aload_n 0, 1) := by decide +kernel
theorem dX3_len_12 : decode cX3_len 12 = .ok (.getfield 106, 3) := by decide +kernel
theorem dX3_len_15 : decode cX3_len 15 = .ok (.i2l, 1) := by decide +kernel
theorem dX3_len_16 : decode cX3_len 16 = .ok (.invokevirtual 45, 3) := by decide +kernel
theorem dX3_len_19 : decode cX3_len 19 = .ok (.iconst 0, 1) := by decide +kernel
theorem dX3_len_20 : decode cX3_len 20 = .ok (.ireturn, 1) := by decide +kernel
theorem dX3_whole_0 : decode cX3_whole 0 = .ok (.aload_n 0, 1) := by decide +kernel
theorem dX3_whole_1 : decode cX3_whole 1 = .ok (.invokevirtual 9, 3) := by decide +kernel
theorem dX3_whole_4 : decode cX3_whole 4 = .ok (.ifCond .ne 5, 3) := by decide +kernel
theorem dX3_whole_7 : decode cX3_whole 7 = .ok (.iconst 2, 1) := by decide +kernel
theorem dX3_whole_8 : decode cX3_whole 8 = .ok (.ireturn, 1) := by decide +kernel
theorem dX3_whole_9 : decode cX3_whole 9 = .ok (.aload_n 0, 1) := by decide +kernel
theorem dX3_whole_10 : decode cX3_whole 10 = .ok (.getfield 21, 3) := by decide +kernel
theorem dX3_whole_13 : decode cX3_whole 13 = .ok (.iconst 1, 1) := by decide +kernel
theorem dX3_whole_14 : decode cX3_whole 14 = .ok (.if_icmp .ne 17, 3) := by decide +kernel
theorem dX3_whole_17 : decode cX3_whole 17 = .ok (.aload_n 0, 1) := by decide +kernel
theorem dX3_whole_18 : decode cX3_whole 18 = .ok (.iconst 0, 1) := by decide +kernel
theorem dX3_whole_19 : decode cX3_whole 19 = .ok (.aload_n 0, 1) := by decide +kernel
theorem dX3_whole_20 : decode cX3_whole 20 = .ok (.getfield 17, 3) := by decide +kernel
theorem dX3_whole_23 : decode cX3_whole 23 = .ok (.iconst 0, 1) := by decide +kernel
theorem dX3_whole_24 : decode cX3_whole 24 = .ok (.laload, 1) := by decide +kernel
theorem dX3_whole_25 : decode cX3_whole 25 = .ok (.invokestatic 109, 3) := by decide +kernel
theorem dX3_whole_28 : decode cX3_whole 28 = .ok (.invokevirtual 45, 3) := by decide +kernel
theorem dX3_whole_31 : decode cX3_whole 31 = .ok (.iconst 0, 1) := by decide +kernel
theorem dX3_whole_32 : decode cX3_whole 32 = .ok (.ireturn, 1) := by decide +kernel
theorem dX3_real_0 : decode cX3_real 0 = .ok (.aload_n 1, 1) := by decide +kernel
theorem dX3_real_1 : decode cX3_real 1 = .ok (.invokevirtual 9, 3) := by decide +kernel
theorem dX3_real_4 : decode cX3_real 4 = .ok (.ifCond .ne 5, 3) := by decide +kernel
theorem dX3_real_7 : decode cX3_real 7 = .ok (.iconst 2, 1) := by decide +kernel
theorem dX3_real_8 : decode cX3_real 8 = .ok (.ireturn, 1) := by decide +kernel
theorem dX3_real_9 : decode cX3_real 9 = .ok (.aload_n 1, 1) := by decide +kernel
theorem dX3_real_10 : decode cX3_real 10 = .ok (.getfield 21, 3) := by decide +kernel
theorem dX3_real_13 : decode cX3_real 13 = .ok (.iconst 1, 1) := by decide +kernel
theorem dX3_real_14 : decode cX3_real 14 = .ok (.if_icmp .ne 12, 3) := by decide +kernel
theorem dX3_real_17 : decode cX3_real 17 = .ok (.aload_n 1, 1) := by decide +kernel
theorem dX3_real_18 : decode cX3_real 18 = .ok (.getfield 17, 3) := by decide +kernel
theorem dX3_real_21 : decode cX3_real 21 = .ok (.iconst 0, 1) := by decide +kernel
theorem dX3_real_22 : decode cX3_real 22 = .ok (.laload, 1) := by decide +kernel
theorem dX3_real_23 : decode cX3_real 23 = .ok (.goto 12, 3) := by decide +kernel
theorem dX3_real_26 : decode cX3_real 26 = .ok (.aload_n 1, 1) := by decide +kernel
theorem dX3_real_27 : decode cX3_real 27 = .ok (.getfield 17, 3) := by decide +kernel
theorem dX3_real_30 : decode cX3_real 30 = .ok (.iconst 0, 1) := by decide +kernel
theorem dX3_real_31 : decode cX3_real 31 = .ok (.laload, 1) := by decide +kernel
theorem dX3_real_32 : decode cX3_real 32 = .ok (.invokestatic 35, 3) := by decide +kernel
theorem dX3_real_35 : decode cX3_real 35 = .ok (.lstore_n 2, 1) := by decide +kernel
theorem dX3_real_36 : decode cX3_real 36 = .ok (.iload_n 0, 1) := by decide +kernel
theorem dX3_real_37 : decode cX3_real 37 = .ok (.lookupswitch 83 #[(130, 51), (133, 43), (141, 67), (144, 75)], 43) := by decide +kernel
theorem dX3_real_80 : decode cX3_real 80 = .ok (.lload_n 2, 1) := by decide +kernel
theorem dX3_real_81 : decode cX3_real 81 = .ok (.invokestatic 112, 3) := by decide +kernel
theorem dX3_real_84 : decode cX3_real 84 = .ok (.lstore_n 2, 1) := by decide +kernel
theorem dX3_real_85 : decode cX3_real 85 = .ok (.goto 35, 3) := by decide +kernel
theorem dX3_real_88 : decode cX3_real 88 = .ok (.lload_n 2, 1) := by decide +kernel
theorem dX3_real_89 : decode cX3_real 89 = .ok (.ldc2_w 49, 3) := by decide +kernel
theorem dX3_real_92 : decode cX3_real 92 = .ok (.lxor, 1) := by decide +kernel
theorem dX3_real_93 : decode cX3_real 93 = .ok (.invokestatic 112, 3) := by decide +kernel
theorem dX3_real_96 : decode cX3_real 96 = .ok (.ldc2_w 49, 3) := by decide +kernel
theorem dX3_real_99 : decode cX3_real 99 = .ok (.lxor, 1) := by decide +kernel
theorem dX3_real_100 : decode cX3_real 100 = .ok (.lstore_n 2, 1) := by decide +kernel
theorem dX3_real_101 : decode cX3_real 101 = .ok (.goto 19, 3) := by decide +kernel
theorem dX3_real_104 : decode cX3_real 104 = .ok (.lload_n 2, 1) := by decide +kernel
theorem dX3_real_105 : decode cX3_real 105 = .ok (.invokestatic 115, 3) := by decide +kernel
theorem dX3_real_108 : decode cX3_real 108 = .ok (.lstore_n 2, 1) := by decide +kernel
theorem dX3_real_109 : decode cX3_real 109 = .ok (.goto 11, 3) := by decide +kernel
theorem dX3_real_112 : decode cX3_real 112 = .ok (.lload_n 2, 1) := by decide +kernel
theorem dX3_real_113 : decode cX3_real 113 = .ok (.invokestatic 118, 3) := by decide +kernel
theorem dX3_real_116 : decode cX3_real 116 = .ok (.lstore_n 2, 1) := by decide +kernel
theorem dX3_real_117 : decode cX3_real 117 = .ok (.goto 3, 3) := by decide +kernel
theorem dX3_real_120 : decode cX3_real 120 = .ok (.aload_n 1, 1) := by decide +kernel
theorem dX3_real_121 : decode cX3_real 121 = .ok (.iconst 1, 1) := by decide +kernel
theorem dX3_real_122 : decode cX3_real 122 = .ok (.lload_n 2, 1) := by decide +kernel
theorem dX3_real_123 : decode cX3_real 123 = .ok (.invokevirtual 45, 3) := by decide +kernel
theorem dX3_real_126 : decode cX3_real 126 = .ok (.iconst 0, 1) := by decide +kernel
theorem dX3_real_127 : decode cX3_real 127 = .ok (.ireturn, 1) := by decide +kernel
theorem dX3_zeros_0 : decode cX3_zeros 0 = .ok (.aload_n 0, 1) := by decide +kernel
theorem dX3_zeros_1 : decode cX3_zeros 1 = .ok (.getfield 21, 3) := by decide +kernel
theorem dX3_zeros_4 : decode cX3_zeros 4 = .ok (.ifCond .eq 5, 3) := by decide +kernel
theorem dX3_zeros_7 : decode cX3_zeros 7 = .ok (.iconst 2, 1) := by decide +kernel
theorem dX3_zeros_8 : decode cX3_zeros 8 = .ok (.ireturn, 1) := by decide +kernel
theorem dX3_zeros_9 : decode cX3_zeros 9 = .ok (.aload_n 0, 1) := by decide +kernel
theorem dX3_zeros_10 : decode cX3_zeros 10 = .ok (.getfield 17, 3) := by decide +kernel
theorem dX3_zeros_13 : decode cX3_zeros 13 = .ok (.iconst 0, 1) := by decide +kernel
theorem dX3_zeros_14 : decode cX3_zeros 14 = .ok (.laload, 1) := by decide +kernel
theorem dX3_zeros_15 : decode cX3_zeros 15 = .ok (.lconst 0, 1) := by decide +kernel
theorem dX3_zeros_16 : decode cX3_zeros 16 = .ok (.lcmp, 1) := by decide +kernel
theorem dX3_zeros_17 : decode cX3_zeros 17 = .ok (.ifCond .lt 16, 3) := by decide +kernel
theorem dX3_zeros_20 : decode cX3_zeros 20 = .ok (.aload_n 0, 1) := by decide +kernel
theorem dX3_zeros_21 : decode cX3_zeros 21 = .ok (.getfield 17, 3) := by decide +kernel
theorem dX3_zeros_24 : decode cX3_zeros 24 = .ok (.iconst 0, 1) := by decide +kernel
theorem dX3_zeros_25 : decode cX3_zeros 25 = .ok (.laload, 1) := by decide +kernel
theorem dX3_zeros_26 : decode cX3_zeros 26 = .ok (.ldc2_w 121, 3) := by decide +kernel
theorem dX3_zeros_29 : decode cX3_zeros 29 = .ok (.lcmp, 1) := by decide +kernel
theorem dX3_zeros_30 : decode cX3_zeros 30 = .ok (.ifCond .le 5, 3) := by decide +kernel
theorem dX3_zeros_33 : decode cX3_zeros 33 = .ok (.iconst 4, 1) := by decide +kernel
theorem dX3_zeros_34 : decode cX3_zeros 34 = .ok (.ireturn, 1) := by decide +kernel
theorem dX3_zeros_35 : decode cX3_zeros 35 = .ok (.aload_n 0, 1) := by decide +kernel
theorem dX3_zeros_36 : decode cX3_zeros 36 = .ok (.iconst 2, 1) := by decide +kernel
theorem dX3_zeros_37 : decode cX3_zeros 37 = .ok (.aload_n 0, 1) := by decide +kernel
theorem dX3_zeros_38 : decode cX3_zeros 38 = .ok (.getfield 17, 3) := by decide +kernel
theorem dX3_zeros_41 : decode cX3_zeros 41 = .ok (.iconst 0, 1) := by decide +kernel
theorem dX3_zeros_42 : decode cX3_zeros 42 = .ok (.laload, 1) := by decide +kernel
theorem dX3_zeros_43 : decode cX3_zeros 43 = .ok (.l2i, 1) := by decide +kernel
theorem dX3_zeros_44 : decode cX3_zeros 44 = .ok (.invokevirtual 123, 3) := by decide +kernel
theorem dX3_zeros_47 : decode cX3_zeros 47 = .ok (.iconst 0, 1) := by decide +kernel
theorem dX3_zeros_48 : decode cX3_zeros 48 = .ok (.ireturn, 1) := by decide +kernel
theorem dX3_last_0 : decode cX3_last 0 = .ok (.aload_n 0, 1) := by decide +kernel
theorem dX3_last_1 : decode cX3_last 1 = .ok (.invokevirtual 88, 3) := by decide +kernel
theorem dX3_last_4 : decode cX3_last 4 = .ok (.ifCond .eq 10, 3) := by decide +kernel
theorem dX3_last_7 : decode cX3_last 7 = .ok (.aload_n 1, 1) := by decide +kernel
theorem dX3_last_8 : decode cX3_last 8 = .ok (.getfield 21, 3) := by decide +kernel
theorem dX3_last_11 : decode cX3_last 11 = .ok (.ifCond .eq 5, 3) := by decide +kernel
theorem dX3_last_14 : decode cX3_last 14 = .ok (.iconst 2, 1) := by decide +kernel
theorem dX3_last_15 : decode cX3_last 15 = .ok (.ireturn, 1) := by decide +kernel
theorem dX3_last_16 : decode cX3_last 16 = .ok (.aload_n 1, 1) := by decide +kernel
theorem dX3_last_17 : decode cX3_last 17 = .ok (.getfield 17, 3) := by decide +kernel
theorem dX3_last_20 : decode cX3_last 20 = .ok (.iconst 0, 1) := by decide +kernel
theorem dX3_last_21 : decode cX3_last 21 = .ok (.laload, 1) := by decide +kernel
theorem dX3_last_22 : decode cX3_last 22 = .ok (.lconst 0, 1) := by decide +kernel
theorem dX3_last_23 : decode cX3_last 23 = .ok (.lcmp, 1) := by decide +kernel
theorem dX3_last_24 : decode cX3_last 24 = .ok (.ifCond .ge 5, 3) := by decide +kernel
theorem dX3_last_27 : decode cX3_last 27 = .ok (.iconst 4, 1) := by decide +kernel
theorem dX3_last_28 : decode cX3_last 28 = .ok (.ireturn, 1) := by decide +kernel
theorem dX3_last_29 : decode cX3_last 29 = .ok (.aload_n 1, 1) := by decide +kernel
theorem dX3_last_30 : decode cX3_last 30 = .ok (.getfield 17, 3) := by decide +kernel
theorem dX3_last_33 : decode cX3_last 33 = .ok (.iconst 0, 1) := by decide +kernel
theorem dX3_last_34 : decode cX3_last 34 = .ok (.laload, 1) := by decide +kernel
theorem dX3_last_35 : decode cX3_last 35 = .ok (.aload_n 0, 1) := by decide +kernel
theorem dX3_last_36 : decode cX3_last 36 = .ok (.getfield 106, 3) := by decide +kernel
theorem dX3_last_39 : decode cX3_last 39 = .ok (.i2l, 1) := by decide +kernel
theorem dX3_last_40 : decode cX3_last 40 = .ok (.lcmp, 1) := by decide +kernel
theorem dX3_last_41 : decode cX3_last 41 = .ok (.ifCond .le 5, 3) := by decide +kernel
theorem dX3_last_44 : decode cX3_last 44 = .ok (.iconst 3, 1) := by decide +kernel
theorem dX3_last_45 : decode cX3_last 45 = .ok (.ireturn, 1) := by decide +kernel
theorem dX3_last_46 : decode cX3_last 46 = .ok (.aload_n 1, 1) := by decide +kernel
theorem dX3_last_47 : decode cX3_last 47 = .ok (.getfield 17, 3) := by decide +kernel
theorem dX3_last_50 : decode cX3_last 50 = .ok (.iconst 0, 1) := by decide +kernel
theorem dX3_last_51 : decode cX3_last 51 = .ok (.laload, 1) := by decide +kernel
theorem dX3_last_52 : decode cX3_last 52 = .ok (.l2i, 1) := by decide +kernel
theorem dX3_last_53 : decode cX3_last 53 = .ok (.istore_n 2, 1) := by decide +kernel
theorem dX3_last_54 : decode cX3_last 54 = .ok (.iconst 0, 1) := by decide +kernel
theorem dX3_last_55 : decode cX3_last 55 = .ok (.istore_n 3, 1) := by decide +kernel
theorem dX3_last_56 : decode cX3_last 56 = .ok (.iload_n 3, 1) := by decide +kernel
theorem dX3_last_57 : decode cX3_last 57 = .ok (.iload_n 2, 1) := by decide +kernel
theorem dX3_last_58 : decode cX3_last 58 = .ok (.if_icmp .ge 28, 3) := by decide +kernel
theorem dX3_last_61 : decode cX3_last 61 = .ok (.aload_n 0, 1) := by decide +kernel
theorem dX3_last_62 : decode cX3_last 62 = .ok (.getfield 17, 3) := by decide +kernel
theorem dX3_last_65 : decode cX3_last 65 = .ok (.iload_n 3, 1) := by decide +kernel
theorem dX3_last_66 : decode cX3_last 66 = .ok (.aload_n 0, 1) := by decide +kernel
theorem dX3_last_67 : decode cX3_last 67 = .ok (.getfield 17, 3) := by decide +kernel
theorem dX3_last_70 : decode cX3_last 70 = .ok (.aload_n 0, 1) := by decide +kernel
theorem dX3_last_71 : decode cX3_last 71 = .ok (.getfield 106, 3) := by decide +kernel
theorem dX3_last_74 : decode cX3_last 74 = .ok (.iload_n 2, 1) := by decide +kernel
theorem dX3_last_75 : decode cX3_last 75 = .ok (.isub, 1) := by decide +kernel
theorem dX3_last_76 : decode cX3_last 76 = .ok (.iload_n 3, 1) := by decide +kernel
theorem dX3_last_77 : decode cX3_last 77 = .ok (.iadd, 1) := by decide +kernel
theorem dX3_last_78 : decode cX3_last 78 = .ok (.laload, 1) := by decide +kernel
theorem dX3_last_79 : decode cX3_last 79 = .ok (.lastore, 1) := by decide +kernel
theorem dX3_last_80 : decode cX3_last 80 = .ok (.iinc 3 1, 3) := by decide +kernel
theorem dX3_last_83 : decode cX3_last 83 = .ok (.goto (-27), 3) := by decide +kernel
theorem dX3_last_86 : decode cX3_last 86 = .ok (.aload_n 0, 1) := by decide +kernel
theorem dX3_last_87 : decode cX3_last 87 = .ok (.iload_n 2, 1) := by decide +kernel
theorem dX3_last_88 : decode cX3_last 88 = .ok (.putfield 106, 3) := by decide +kernel
theorem dX3_last_91 : decode cX3_last 91 = .ok (.iconst 0, 1) := by decide +kernel
theorem dX3_last_92 : decode cX3_last 92 = .ok (.ireturn, 1) := by decide +kernel
theorem dX3_join_0 : decode cX3_join 0 = .ok (.aload_n 1, 1) := by decide +kernel
theorem dX3_join_1 : decode cX3_join 1 = .ok (.invokevirtual 88, 3) := by decide +kernel
theorem dX3_join_4 : decode cX3_join 4 = .ok (.ifCond .eq 10, 3) := by decide +kernel
theorem dX3_join_7 : decode cX3_join 7 = .ok (.aload_n 2, 1) := by decide +kernel
theorem dX3_join_8 : decode cX3_join 8 = .ok (.invokevirtual 88, 3) := by decide +kernel
theorem dX3_join_11 : decode cX3_join 11 = .ok (.ifCond .ne 5, 3) := by decide +kernel
theorem dX3_join_14 : decode cX3_join 14 = .ok (.iconst 2, 1) := by decide +kernel
theorem dX3_join_15 : decode cX3_join 15 = .ok (.ireturn, 1) := by decide +kernel
theorem dX3_join_16 : decode cX3_join 16 = .ok (.aload_n 1, 1) := by decide +kernel
theorem dX3_join_17 : decode cX3_join 17 = .ok (.getfield 106, 3) := by decide +kernel
theorem dX3_join_20 : decode cX3_join 20 = .ok (.aload_n 2, 1) := by decide +kernel
theorem dX3_join_21 : decode cX3_join 21 = .ok (.getfield 106, 3) := by decide +kernel
theorem dX3_join_24 : decode cX3_join 24 = .ok (.iadd, 1) := by decide +kernel
theorem dX3_join_25 : decode cX3_join 25 = .ok (.bipush 12, 2) := by decide +kernel
theorem dX3_join_27 : decode cX3_join 27 = .ok (.if_icmp .le 5, 3) := by decide +kernel
theorem dX3_join_30 : decode cX3_join 30 = .ok (.iconst 4, 1) := by decide +kernel
theorem dX3_join_31 : decode cX3_join 31 = .ok (.ireturn, 1) := by decide +kernel
theorem dX3_join_32 : decode cX3_join 32 = .ok (.aload_n 1, 1) := by decide +kernel
theorem dX3_join_33 : decode cX3_join 33 = .ok (.getfield 21, 3) := by decide +kernel
theorem dX3_join_36 : decode cX3_join 36 = .ok (.aload_n 2, 1) := by decide +kernel
theorem dX3_join_37 : decode cX3_join 37 = .ok (.getfield 21, 3) := by decide +kernel
theorem dX3_join_40 : decode cX3_join 40 = .ok (.if_icmp .eq 19, 3) := by decide +kernel
theorem dX3_join_43 : decode cX3_join 43 = .ok (.aload_n 1, 1) := by decide +kernel
theorem dX3_join_44 : decode cX3_join 44 = .ok (.invokevirtual 94, 3) := by decide +kernel
theorem dX3_join_47 : decode cX3_join 47 = .ok (.ifCond .eq 10, 3) := by decide +kernel
theorem dX3_join_50 : decode cX3_join 50 = .ok (.aload_n 2, 1) := by decide +kernel
theorem dX3_join_51 : decode cX3_join 51 = .ok (.invokevirtual 94, 3) := by decide +kernel
theorem dX3_join_54 : decode cX3_join 54 = .ok (.ifCond .ne 5, 3) := by decide +kernel
theorem dX3_join_57 : decode cX3_join 57 = .ok (.iconst 5, 1) := by decide +kernel
theorem dX3_join_58 : decode cX3_join 58 = .ok (.ireturn, 1) := by decide +kernel
theorem dX3_join_59 : decode cX3_join 59 = .ok (.iconst 0, 1) := by decide +kernel
theorem dX3_join_60 : decode cX3_join 60 = .ok (.istore_n 3, 1) := by decide +kernel
theorem dX3_join_61 : decode cX3_join 61 = .ok (.iload_n 3, 1) := by decide +kernel
theorem dX3_join_62 : decode cX3_join 62 = .ok (.aload_n 2, 1) := by decide +kernel
theorem dX3_join_63 : decode cX3_join 63 = .ok (.getfield 106, 3) := by decide +kernel
theorem dX3_join_66 : decode cX3_join 66 = .ok (.if_icmp .ge 35, 3) := by decide +kernel
theorem dX3_join_69 : decode cX3_join 69 = .ok (.aload_n 1, 1) := by decide +kernel
theorem dX3_join_70 : decode cX3_join 70 = .ok (.invokevirtual 94, 3) := by decide +kernel
theorem dX3_join_73 : decode cX3_join 73 = .ok (.ifCond .eq 22, 3) := by decide +kernel
theorem dX3_join_76 : decode cX3_join 76 = .ok (.aload_n 0, 1) := by decide +kernel
theorem dX3_join_77 : decode cX3_join 77 = .ok (.aload_n 1, 1) := by decide +kernel
theorem dX3_join_78 : decode cX3_join 78 = .ok (.getfield 21, 3) := by decide +kernel
theorem dX3_join_81 : decode cX3_join 81 = .ok (.aload_n 2, 1) := by decide +kernel
theorem dX3_join_82 : decode cX3_join 82 = .ok (.getfield 17, 3) := by decide +kernel
theorem dX3_join_85 : decode cX3_join 85 = .ok (.iload_n 3, 1) := by decide +kernel
theorem dX3_join_86 : decode cX3_join 86 = .ok (.laload, 1) := by decide +kernel
theorem dX3_join_87 : decode cX3_join 87 = .ok (.invokevirtual 127, 3) := by decide +kernel
theorem dX3_join_90 : decode cX3_join 90 = .ok (.ifCond .ne 5, 3) := by decide +kernel
theorem dX3_join_93 : decode cX3_join 93 = .ok (.iconst 5, 1) := by decide +kernel
theorem dX3_join_94 : decode cX3_join 94 = .ok (.ireturn, 1) := by decide +kernel
theorem dX3_join_95 : decode cX3_join 95 = .ok (.iinc 3 1, 3) := by decide +kernel
theorem dX3_join_98 : decode cX3_join 98 = .ok (.goto (-37), 3) := by decide +kernel
theorem dX3_join_101 : decode cX3_join 101 = .ok (.aload_n 2, 1) := by decide +kernel
theorem dX3_join_102 : decode cX3_join 102 = .ok (.getfield 17, 3) := by decide +kernel
theorem dX3_join_105 : decode cX3_join 105 = .ok (.iconst 0, 1) := by decide +kernel
theorem dX3_join_106 : decode cX3_join 106 = .ok (.aload_n 1, 1) := by decide +kernel
theorem dX3_join_107 : decode cX3_join 107 = .ok (.getfield 17, 3) := by decide +kernel
theorem dX3_join_110 : decode cX3_join 110 = .ok (.aload_n 1, 1) := by decide +kernel
theorem dX3_join_111 : decode cX3_join 111 = .ok (.getfield 106, 3) := by decide +kernel
theorem dX3_join_114 : decode cX3_join 114 = .ok (.aload_n 2, 1) := by decide +kernel
theorem dX3_join_115 : decode cX3_join 115 = .ok (.getfield 106, 3) := by decide +kernel
theorem dX3_join_118 : decode cX3_join 118 = .ok (.invokestatic 131, 3) := by decide +kernel
theorem dX3_join_121 : decode cX3_join 121 = .ok (.aload_n 1, 1) := by decide +kernel
theorem dX3_join_122 : decode cX3_join 122 = .ok (.dup, 1) := by decide +kernel
theorem dX3_join_123 : decode cX3_join 123 = .ok (.getfield 106, 3) := by decide +kernel
theorem dX3_join_126 : decode cX3_join 126 = .ok (.aload_n 2, 1) := by decide +kernel
theorem dX3_join_127 : decode cX3_join 127 = .ok (.getfield 106, 3) := by decide +kernel
theorem dX3_join_130 : decode cX3_join 130 = .ok (.iadd, 1) := by decide +kernel
theorem dX3_join_131 : decode cX3_join 131 = .ok (.putfield 106, 3) := by decide +kernel
theorem dX3_join_134 : decode cX3_join 134 = .ok (.iconst 0, 1) := by decide +kernel
theorem dX3_join_135 : decode cX3_join 135 = .ok (.ireturn, 1) := by decide +kernel
theorem dX3_with_0 : decode cX3_with 0 = .ok (.aload_n 1, 1) := by decide +kernel
theorem dX3_with_1 : decode cX3_with 1 = .ok (.invokevirtual 88, 3) := by decide +kernel
theorem dX3_with_4 : decode cX3_with 4 = .ok (.ifCond .eq 18, 3) := by decide +kernel
theorem dX3_with_7 : decode cX3_with 7 = .ok (.aload_n 2, 1) := by decide +kernel
theorem dX3_with_8 : decode cX3_with 8 = .ok (.getfield 21, 3) := by decide +kernel
theorem dX3_with_11 : decode cX3_with 11 = .ok (.ifCond .ne 11, 3) := by decide +kernel
theorem dX3_with_14 : decode cX3_with 14 = .ok (.aload_n 1, 1) := by decide +kernel
theorem dX3_with_15 : decode cX3_with 15 = .ok (.aload_n 3, 1) := by decide +kernel
theorem dX3_with_16 : decode cX3_with 16 = .ok (.invokestatic 137, 3) := by decide +kernel
theorem dX3_with_19 : decode cX3_with 19 = .ok (.ifCond .ne 5, 3) := by decide +kernel
theorem dX3_with_22 : decode cX3_with 22 = .ok (.iconst 2, 1) := by decide +kernel
theorem dX3_with_23 : decode cX3_with 23 = .ok (.ireturn, 1) := by decide +kernel
theorem dX3_with_24 : decode cX3_with 24 = .ok (.aload_n 1, 1) := by decide +kernel
theorem dX3_with_25 : decode cX3_with 25 = .ok (.aload_n 2, 1) := by decide +kernel
theorem dX3_with_26 : decode cX3_with 26 = .ok (.getfield 17, 3) := by decide +kernel
theorem dX3_with_29 : decode cX3_with 29 = .ok (.iconst 0, 1) := by decide +kernel
theorem dX3_with_30 : decode cX3_with 30 = .ok (.laload, 1) := by decide +kernel
theorem dX3_with_31 : decode cX3_with 31 = .ok (.invokevirtual 91, 3) := by decide +kernel
theorem dX3_with_34 : decode cX3_with 34 = .ok (.ifCond .ne 5, 3) := by decide +kernel
theorem dX3_with_37 : decode cX3_with 37 = .ok (.iconst 3, 1) := by decide +kernel
theorem dX3_with_38 : decode cX3_with 38 = .ok (.ireturn, 1) := by decide +kernel
theorem dX3_with_39 : decode cX3_with 39 = .ok (.aload_n 1, 1) := by decide +kernel
theorem dX3_with_40 : decode cX3_with 40 = .ok (.invokevirtual 94, 3) := by decide +kernel
theorem dX3_with_43 : decode cX3_with 43 = .ok (.ifCond .eq 22, 3) := by decide +kernel
theorem dX3_with_46 : decode cX3_with 46 = .ok (.aload_n 0, 1) := by decide +kernel
theorem dX3_with_47 : decode cX3_with 47 = .ok (.aload_n 1, 1) := by decide +kernel
theorem dX3_with_48 : decode cX3_with 48 = .ok (.getfield 21, 3) := by decide +kernel
theorem dX3_with_51 : decode cX3_with 51 = .ok (.aload_n 3, 1) := by decide +kernel
theorem dX3_with_52 : decode cX3_with 52 = .ok (.getfield 17, 3) := by decide +kernel
theorem dX3_with_55 : decode cX3_with 55 = .ok (.iconst 0, 1) := by decide +kernel
theorem dX3_with_56 : decode cX3_with 56 = .ok (.laload, 1) := by decide +kernel
theorem dX3_with_57 : decode cX3_with 57 = .ok (.invokevirtual 127, 3) := by decide +kernel
theorem dX3_with_60 : decode cX3_with 60 = .ok (.ifCond .ne 5, 3) := by decide +kernel
theorem dX3_with_63 : decode cX3_with 63 = .ok (.iconst 5, 1) := by decide +kernel
theorem dX3_with_64 : decode cX3_with 64 = .ok (.ireturn, 1) := by decide +kernel
theorem dX3_with_65 : decode cX3_with 65 = .ok (.aload_n 1, 1) := by decide +kernel
theorem dX3_with_66 : decode cX3_with 66 = .ok (.getfield 21, 3) := by decide +kernel
theorem dX3_with_69 : decode cX3_with 69 = .ok (.iconst 4, 1) := by decide +kernel
theorem dX3_with_70 : decode cX3_with 70 = .ok (.if_icmp .ne 14, 3) := by decide +kernel
theorem dX3_with_73 : decode cX3_with 73 = .ok (.aload_n 3, 1) := by decide +kernel
theorem dX3_with_74 : decode cX3_with 74 = .ok (.getfield 21, 3) := by decide +kernel
theorem dX3_with_77 : decode cX3_with 77 = .ok (.ifCond .ne 7, 3) := by decide +kernel
theorem dX3_with_80 : decode cX3_with 80 = .ok (.iconst 1, 1) := by decide +kernel
theorem dX3_with_81 : decode cX3_with 81 = .ok (.goto 4, 3) := by decide +kernel
theorem dX3_with_84 : decode cX3_with 84 = .ok (.iconst 0, 1) := by decide +kernel
theorem dX3_with_85 : decode cX3_with 85 = .ok (.istore 4, 2) := by decide +kernel
theorem dX3_with_87 : decode cX3_with 87 = .ok (.iload 4, 2) := by decide +kernel
theorem dX3_with_89 : decode cX3_with 89 = .ok (.ifCond .eq 15, 3) := by decide +kernel
theorem dX3_with_92 : decode cX3_with 92 = .ok (.aload_n 3, 1) := by decide +kernel
theorem dX3_with_93 : decode cX3_with 93 = .ok (.getfield 17, 3) := by decide +kernel
theorem dX3_with_96 : decode cX3_with 96 = .ok (.iconst 0, 1) := by decide +kernel
theorem dX3_with_97 : decode cX3_with 97 = .ok (.laload, 1) := by decide +kernel
theorem dX3_with_98 : decode cX3_with 98 = .ok (.invokestatic 35, 3) := by decide +kernel
theorem dX3_with_101 : decode cX3_with 101 = .ok (.goto 9, 3) := by decide +kernel
theorem dX3_with_104 : decode cX3_with 104 = .ok (.aload_n 3, 1) := by decide +kernel
theorem dX3_with_105 : decode cX3_with 105 = .ok (.getfield 17, 3) := by decide +kernel
theorem dX3_with_108 : decode cX3_with 108 = .ok (.iconst 0, 1) := by decide +kernel
theorem dX3_with_109 : decode cX3_with 109 = .ok (.laload, 1) := by decide +kernel
theorem dX3_with_110 : decode cX3_with 110 = .ok (.lstore 5, 2) := by decide +kernel
theorem dX3_with_112 : decode cX3_with 112 = .ok (.aload_n 1, 1) := by decide +kernel
theorem dX3_with_113 : decode cX3_with 113 = .ok (.aload_n 2, 1) := by decide +kernel
theorem dX3_with_114 : decode cX3_with 114 = .ok (.getfield 17, 3) := by decide +kernel
theorem dX3_with_117 : decode cX3_with 117 = .ok (.iconst 0, 1) := by decide +kernel
theorem dX3_with_118 : decode cX3_with 118 = .ok (.laload, 1) := by decide +kernel
theorem dX3_with_119 : decode cX3_with 119 = .ok (.l2i, 1) := by decide +kernel
theorem dX3_with_120 : decode cX3_with 120 = .ok (.lload 5, 2) := by decide +kernel
theorem dX3_with_122 : decode cX3_with 122 = .ok (.invokevirtual 85, 3) := by decide +kernel
theorem dX3_with_125 : decode cX3_with 125 = .ok (.iconst 0, 1) := by decide +kernel
theorem dX3_with_126 : decode cX3_with 126 = .ok (.ireturn, 1) := by decide +kernel
theorem dX3_fitsSort_0 : decode cX3_fitsSort 0 = .ok (.aload_n 0, 1) := by decide +kernel
theorem dX3_fitsSort_1 : decode cX3_fitsSort 1 = .ok (.invokevirtual 94, 3) := by decide +kernel
theorem dX3_fitsSort_4 : decode cX3_fitsSort 4 = .ok (.ifCond .eq 18, 3) := by decide +kernel
theorem dX3_fitsSort_7 : decode cX3_fitsSort 7 = .ok (.aload_n 1, 1) := by decide +kernel
theorem dX3_fitsSort_8 : decode cX3_fitsSort 8 = .ok (.getfield 21, 3) := by decide +kernel
theorem dX3_fitsSort_11 : decode cX3_fitsSort 11 = .ok (.bipush 8, 2) := by decide +kernel
theorem dX3_fitsSort_13 : decode cX3_fitsSort 13 = .ok (.if_icmp .ne 7, 3) := by decide +kernel
theorem dX3_fitsSort_16 : decode cX3_fitsSort 16 = .ok (.iconst 1, 1) := by decide +kernel
theorem dX3_fitsSort_17 : decode cX3_fitsSort 17 = .ok (.goto 4, 3) := by decide +kernel
theorem dX3_fitsSort_20 : decode cX3_fitsSort 20 = .ok (.iconst 0, 1) := by decide +kernel
theorem dX3_fitsSort_21 : decode cX3_fitsSort 21 = .ok (.ireturn, 1) := by decide +kernel
theorem dX3_fitsSort_22 : decode cX3_fitsSort 22 = .ok (.aload_n 1, 1) := by decide +kernel
theorem dX3_fitsSort_23 : decode cX3_fitsSort 23 = .ok (.getfield 21, 3) := by decide +kernel
theorem dX3_fitsSort_26 : decode cX3_fitsSort 26 = .ok (.ifCond .eq 19, 3) := by decide +kernel
theorem dX3_fitsSort_29 : decode cX3_fitsSort 29 = .ok (.aload_n 1, 1) := by decide +kernel
theorem dX3_fitsSort_30 : decode cX3_fitsSort 30 = .ok (.getfield 21, 3) := by decide +kernel
theorem dX3_fitsSort_33 : decode cX3_fitsSort 33 = .ok (.iconst 1, 1) := by decide +kernel
theorem dX3_fitsSort_34 : decode cX3_fitsSort 34 = .ok (.if_icmp .ne 15, 3) := by decide +kernel
theorem dX3_fitsSort_37 : decode cX3_fitsSort 37 = .ok (.aload_n 0, 1) := by decide +kernel
theorem dX3_fitsSort_38 : decode cX3_fitsSort 38 = .ok (.getfield 21, 3) := by decide +kernel
theorem dX3_fitsSort_41 : decode cX3_fitsSort 41 = .ok (.iconst 4, 1) := by decide +kernel
theorem dX3_fitsSort_42 : decode cX3_fitsSort 42 = .ok (.if_icmp .ne 7, 3) := by decide +kernel
theorem dX3_fitsSort_45 : decode cX3_fitsSort 45 = .ok (.iconst 1, 1) := by decide +kernel
theorem dX3_fitsSort_46 : decode cX3_fitsSort 46 = .ok (.goto 4, 3) := by decide +kernel
theorem dX3_fitsSort_49 : decode cX3_fitsSort 49 = .ok (.iconst 0, 1) := by decide +kernel
theorem dX3_fitsSort_50 : decode cX3_fitsSort 50 = .ok (.ireturn, 1) := by decide +kernel
theorem dX3_best_0 : decode cX3_best 0 = .ok (.aload_n 0, 1) := by decide +kernel
theorem dX3_best_1 : decode cX3_best 1 = .ok (.invokevirtual 141, 3) := by decide +kernel
theorem dX3_best_4 : decode cX3_best 4 = .ok (.ifCond .eq 10, 3) := by decide +kernel
theorem dX3_best_7 : decode cX3_best 7 = .ok (.aload_n 1, 1) := by decide +kernel
theorem dX3_best_8 : decode cX3_best 8 = .ok (.getfield 21, 3) := by decide +kernel
theorem dX3_best_11 : decode cX3_best 11 = .ok (.ifCond .eq 5, 3) := by decide +kernel
theorem dX3_best_14 : decode cX3_best 14 = .ok (.iconst 2, 1) := by decide +kernel
theorem dX3_best_15 : decode cX3_best 15 = .ok (.ireturn, 1) := by decide +kernel
theorem dX3_best_16 : decode cX3_best 16 = .ok (.aload_n 1, 1) := by decide +kernel
theorem dX3_best_17 : decode cX3_best 17 = .ok (.getfield 17, 3) := by decide +kernel
theorem dX3_best_20 : decode cX3_best 20 = .ok (.iconst 0, 1) := by decide +kernel
theorem dX3_best_21 : decode cX3_best 21 = .ok (.laload, 1) := by decide +kernel
theorem dX3_best_22 : decode cX3_best 22 = .ok (.lconst 0, 1) := by decide +kernel
theorem dX3_best_23 : decode cX3_best 23 = .ok (.lcmp, 1) := by decide +kernel
theorem dX3_best_24 : decode cX3_best 24 = .ok (.ifCond .ge 5, 3) := by decide +kernel
theorem dX3_best_27 : decode cX3_best 27 = .ok (.iconst 4, 1) := by decide +kernel
theorem dX3_best_28 : decode cX3_best 28 = .ok (.ireturn, 1) := by decide +kernel
theorem dX3_best_29 : decode cX3_best 29 = .ok (.aload_n 1, 1) := by decide +kernel
theorem dX3_best_30 : decode cX3_best 30 = .ok (.getfield 17, 3) := by decide +kernel
theorem dX3_best_33 : decode cX3_best 33 = .ok (.iconst 0, 1) := by decide +kernel
theorem dX3_best_34 : decode cX3_best 34 = .ok (.laload, 1) := by decide +kernel
theorem dX3_best_35 : decode cX3_best 35 = .ok (.aload_n 0, 1) := by decide +kernel
theorem dX3_best_36 : decode cX3_best 36 = .ok (.getfield 106, 3) := by decide +kernel
theorem dX3_best_39 : decode cX3_best 39 = .ok (.i2l, 1) := by decide +kernel
theorem dX3_best_40 : decode cX3_best 40 = .ok (.lcmp, 1) := by decide +kernel
theorem dX3_best_41 : decode cX3_best 41 = .ok (.ifCond .le 5, 3) := by decide +kernel
theorem dX3_best_44 : decode cX3_best 44 = .ok (.iconst 3, 1) := by decide +kernel
theorem dX3_best_45 : decode cX3_best 45 = .ok (.ireturn, 1) := by decide +kernel
theorem dX3_best_46 : decode cX3_best 46 = .ok (.aload_n 0, 1) := by decide +kernel
theorem dX3_best_47 : decode cX3_best 47 = .ok (.getfield 21, 3) := by decide +kernel
theorem dX3_best_50 : decode cX3_best 50 = .ok (.iconst 4, 1) := by decide +kernel
theorem dX3_best_51 : decode cX3_best 51 = .ok (.if_icmp .ne 7, 3) := by decide +kernel
theorem dX3_best_54 : decode cX3_best 54 = .ok (.iconst 1, 1) := by decide +kernel
theorem dX3_best_55 : decode cX3_best 55 = .ok (.goto 4, 3) := by decide +kernel
theorem dX3_best_58 : decode cX3_best 58 = .ok (.iconst 0, 1) := by decide +kernel
theorem dX3_best_59 : decode cX3_best 59 = .ok (.istore_n 2, 1) := by decide +kernel
theorem dX3_best_60 : decode cX3_best 60 = .ok (.lconst 0, 1) := by decide +kernel
theorem dX3_best_61 : decode cX3_best 61 = .ok (.lstore_n 3, 1) := by decide +kernel
theorem dX3_best_62 : decode cX3_best 62 = .ok (.iconst 0, 1) := by decide +kernel
theorem dX3_best_63 : decode cX3_best 63 = .ok (.istore 5, 2) := by decide +kernel
theorem dX3_best_65 : decode cX3_best 65 = .ok (.iload 5, 2) := by decide +kernel
theorem dX3_best_67 : decode cX3_best 67 = .ok (.i2l, 1) := by decide +kernel
theorem dX3_best_68 : decode cX3_best 68 = .ok (.aload_n 1, 1) := by decide +kernel
theorem dX3_best_69 : decode cX3_best 69 = .ok (.getfield 17, 3) := by decide +kernel
theorem dX3_best_72 : decode cX3_best 72 = .ok (.iconst 0, 1) := by decide +kernel
theorem dX3_best_73 : decode cX3_best 73 = .ok (.laload, 1) := by decide +kernel
theorem dX3_best_74 : decode cX3_best 74 = .ok (.lcmp, 1) := by decide +kernel
theorem dX3_best_75 : decode cX3_best 75 = .ok (.ifCond .ge 60, 3) := by decide +kernel
theorem dX3_best_78 : decode cX3_best 78 = .ok (.iload 5, 2) := by decide +kernel
theorem dX3_best_80 : decode cX3_best 80 = .ok (.bipush 12, 2) := by decide +kernel
theorem dX3_best_82 : decode cX3_best 82 = .ok (.if_icmp .ge 53, 3) := by decide +kernel
theorem dX3_best_85 : decode cX3_best 85 = .ok (.aload_n 0, 1) := by decide +kernel
theorem dX3_best_86 : decode cX3_best 86 = .ok (.iload 5, 2) := by decide +kernel
theorem dX3_best_88 : decode cX3_best 88 = .ok (.invokestatic 144, 3) := by decide +kernel
theorem dX3_best_91 : decode cX3_best 91 = .ok (.lstore 6, 2) := by decide +kernel
theorem dX3_best_93 : decode cX3_best 93 = .ok (.iload_n 2, 1) := by decide +kernel
theorem dX3_best_94 : decode cX3_best 94 = .ok (.ifCond .ne 17, 3) := by decide +kernel
theorem dX3_best_97 : decode cX3_best 97 = .ok (.bipush 43, 2) := by decide +kernel
theorem dX3_best_99 : decode cX3_best 99 = .ok (.lload_n 3, 1) := by decide +kernel
theorem dX3_best_100 : decode cX3_best 100 = .ok (.lload 6, 2) := by decide +kernel
theorem dX3_best_102 : decode cX3_best 102 = .ok (.invokestatic 25, 3) := by decide +kernel
theorem dX3_best_105 : decode cX3_best 105 = .ok (.ifCond .eq 6, 3) := by decide +kernel
theorem dX3_best_108 : decode cX3_best 108 = .ok (.bipush 6, 2) := by decide +kernel
theorem dX3_best_110 : decode cX3_best 110 = .ok (.ireturn, 1) := by decide +kernel
theorem dX3_best_111 : decode cX3_best 111 = .ok (.iload_n 2, 1) := by decide +kernel
theorem dX3_best_112 : decode cX3_best 112 = .ok (.ifCond .eq 12, 3) := by decide +kernel
theorem dX3_best_115 : decode cX3_best 115 = .ok (.lload_n 3, 1) := by decide +kernel
theorem dX3_best_116 : decode cX3_best 116 = .ok (.lload 6, 2) := by decide +kernel
theorem dX3_best_118 : decode cX3_best 118 = .ok (.invokestatic 41, 3) := by decide +kernel
theorem dX3_best_121 : decode cX3_best 121 = .ok (.goto 7, 3) := by decide +kernel
theorem dX3_best_124 : decode cX3_best 124 = .ok (.lload_n 3, 1) := by decide +kernel
theorem dX3_best_125 : decode cX3_best 125 = .ok (.lload 6, 2) := by decide +kernel
theorem dX3_best_127 : decode cX3_best 127 = .ok (.ladd, 1) := by decide +kernel
theorem dX3_best_128 : decode cX3_best 128 = .ok (.lstore_n 3, 1) := by decide +kernel
theorem dX3_best_129 : decode cX3_best 129 = .ok (.iinc 5 1, 3) := by decide +kernel
theorem dX3_best_132 : decode cX3_best 132 = .ok (.goto (-67), 3) := by decide +kernel
theorem dX3_best_135 : decode cX3_best 135 = .ok (.aload_n 0, 1) := by decide +kernel
theorem dX3_best_136 : decode cX3_best 136 = .ok (.iload_n 2, 1) := by decide +kernel
theorem dX3_best_137 : decode cX3_best 137 = .ok (.ifCond .eq 7, 3) := by decide +kernel
theorem dX3_best_140 : decode cX3_best 140 = .ok (.iconst 1, 1) := by decide +kernel
theorem dX3_best_141 : decode cX3_best 141 = .ok (.goto 4, 3) := by decide +kernel
theorem dX3_best_144 : decode cX3_best 144 = .ok (.iconst 0, 1) := by decide +kernel
theorem dX3_best_145 : decode cX3_best 145 = .ok (.lload_n 3, 1) := by decide +kernel
theorem dX3_best_146 : decode cX3_best 146 = .ok (.invokevirtual 45, 3) := by decide +kernel
theorem dX3_best_149 : decode cX3_best 149 = .ok (.iconst 0, 1) := by decide +kernel
theorem dX3_best_150 : decode cX3_best 150 = .ok (.ireturn, 1) := by decide +kernel
theorem dX3_takeGreatest_0 : decode cX3_takeGreatest 0 = .ok (.aload_n 0, 1) := by decide +kernel
theorem dX3_takeGreatest_1 : decode cX3_takeGreatest 1 = .ok (.getfield 21, 3) := by decide +kernel
theorem dX3_takeGreatest_4 : decode cX3_takeGreatest 4 = .ok (.iconst 4, 1) := by decide +kernel
theorem dX3_takeGreatest_5 : decode cX3_takeGreatest 5 = .ok (.if_icmp .ne 7, 3) := by decide +kernel
theorem dX3_takeGreatest_8 : decode cX3_takeGreatest 8 = .ok (.iconst 1, 1) := by decide +kernel
theorem dX3_takeGreatest_9 : decode cX3_takeGreatest 9 = .ok (.goto 4, 3) := by decide +kernel
theorem dX3_takeGreatest_12 : decode cX3_takeGreatest 12 = .ok (.iconst 0, 1) := by decide +kernel
theorem dX3_takeGreatest_13 : decode cX3_takeGreatest 13 = .ok (.istore_n 2, 1) := by decide +kernel
theorem dX3_takeGreatest_14 : decode cX3_takeGreatest 14 = .ok (.iload_n 1, 1) := by decide +kernel
theorem dX3_takeGreatest_15 : decode cX3_takeGreatest 15 = .ok (.istore_n 3, 1) := by decide +kernel
theorem dX3_takeGreatest_16 : decode cX3_takeGreatest 16 = .ok (.iload_n 1, 1) := by decide +kernel
theorem dX3_takeGreatest_17 : decode cX3_takeGreatest 17 = .ok (.iconst 1, 1) := by decide +kernel
theorem dX3_takeGreatest_18 : decode cX3_takeGreatest 18 = .ok (.iadd, 1) := by decide +kernel
theorem dX3_takeGreatest_19 : decode cX3_takeGreatest 19 = .ok (.istore 4, 2) := by decide +kernel
theorem dX3_takeGreatest_21 : decode cX3_takeGreatest 21 = .ok (.iload 4, 2) := by decide +kernel
theorem dX3_takeGreatest_23 : decode cX3_takeGreatest 23 = .ok (.aload_n 0, 1) := by decide +kernel
theorem dX3_takeGreatest_24 : decode cX3_takeGreatest 24 = .ok (.getfield 106, 3) := by decide +kernel
theorem dX3_takeGreatest_27 : decode cX3_takeGreatest 27 = .ok (.if_icmp .ge 58, 3) := by decide +kernel
theorem dX3_takeGreatest_30 : decode cX3_takeGreatest 30 = .ok (.aload_n 0, 1) := by decide +kernel
theorem dX3_takeGreatest_31 : decode cX3_takeGreatest 31 = .ok (.getfield 17, 3) := by decide +kernel
theorem dX3_takeGreatest_34 : decode cX3_takeGreatest 34 = .ok (.iload_n 3, 1) := by decide +kernel
theorem dX3_takeGreatest_35 : decode cX3_takeGreatest 35 = .ok (.laload, 1) := by decide +kernel
theorem dX3_takeGreatest_36 : decode cX3_takeGreatest 36 = .ok (.lstore 5, 2) := by decide +kernel
theorem dX3_takeGreatest_38 : decode cX3_takeGreatest 38 = .ok (.aload_n 0, 1) := by decide +kernel
theorem dX3_takeGreatest_39 : decode cX3_takeGreatest 39 = .ok (.getfield 17, 3) := by decide +kernel
theorem dX3_takeGreatest_42 : decode cX3_takeGreatest 42 = .ok (.iload 4, 2) := by decide +kernel
theorem dX3_takeGreatest_44 : decode cX3_takeGreatest 44 = .ok (.laload, 1) := by decide +kernel
theorem dX3_takeGreatest_45 : decode cX3_takeGreatest 45 = .ok (.lstore 7, 2) := by decide +kernel
theorem dX3_takeGreatest_47 : decode cX3_takeGreatest 47 = .ok (.iload_n 2, 1) := by decide +kernel
theorem dX3_takeGreatest_48 : decode cX3_takeGreatest 48 = .ok (.ifCond .eq 20, 3) := by decide +kernel
theorem dX3_takeGreatest_51 : decode cX3_takeGreatest 51 = .ok (.lload 7, 2) := by decide +kernel
theorem dX3_takeGreatest_53 : decode cX3_takeGreatest 53 = .ok (.invokestatic 82, 3) := by decide +kernel
theorem dX3_takeGreatest_56 : decode cX3_takeGreatest 56 = .ok (.lload 5, 2) := by decide +kernel
theorem dX3_takeGreatest_58 : decode cX3_takeGreatest 58 = .ok (.invokestatic 82, 3) := by decide +kernel
theorem dX3_takeGreatest_61 : decode cX3_takeGreatest 61 = .ok (.lcmp, 1) := by decide +kernel
theorem dX3_takeGreatest_62 : decode cX3_takeGreatest 62 = .ok (.ifCond .le 17, 3) := by decide +kernel
theorem dX3_takeGreatest_65 : decode cX3_takeGreatest 65 = .ok (.goto 11, 3) := by decide +kernel
theorem dX3_takeGreatest_68 : decode cX3_takeGreatest 68 = .ok (.lload 7, 2) := by decide +kernel
theorem dX3_takeGreatest_70 : decode cX3_takeGreatest 70 = .ok (.lload 5, 2) := by decide +kernel
theorem dX3_takeGreatest_72 : decode cX3_takeGreatest 72 = .ok (.lcmp, 1) := by decide +kernel
theorem dX3_takeGreatest_73 : decode cX3_takeGreatest 73 = .ok (.ifCond .le 6, 3) := by decide +kernel
theorem dX3_takeGreatest_76 : decode cX3_takeGreatest 76 = .ok (.iload 4, 2) := by decide +kernel
theorem dX3_takeGreatest_78 : decode cX3_takeGreatest 78 = .ok (.istore_n 3, 1) := by decide +kernel
theorem dX3_takeGreatest_79 : decode cX3_takeGreatest 79 = .ok (.iinc 4 1, 3) := by decide +kernel
theorem dX3_takeGreatest_82 : decode cX3_takeGreatest 82 = .ok (.goto (-61), 3) := by decide +kernel
theorem dX3_takeGreatest_85 : decode cX3_takeGreatest 85 = .ok (.aload_n 0, 1) := by decide +kernel
theorem dX3_takeGreatest_86 : decode cX3_takeGreatest 86 = .ok (.getfield 17, 3) := by decide +kernel
theorem dX3_takeGreatest_89 : decode cX3_takeGreatest 89 = .ok (.iload_n 3, 1) := by decide +kernel
theorem dX3_takeGreatest_90 : decode cX3_takeGreatest 90 = .ok (.laload, 1) := by decide +kernel
theorem dX3_takeGreatest_91 : decode cX3_takeGreatest 91 = .ok (.lstore 4, 2) := by decide +kernel
theorem dX3_takeGreatest_93 : decode cX3_takeGreatest 93 = .ok (.aload_n 0, 1) := by decide +kernel
theorem dX3_takeGreatest_94 : decode cX3_takeGreatest 94 = .ok (.getfield 17, 3) := by decide +kernel
theorem dX3_takeGreatest_97 : decode cX3_takeGreatest 97 = .ok (.iload_n 3, 1) := by decide +kernel
theorem dX3_takeGreatest_98 : decode cX3_takeGreatest 98 = .ok (.aload_n 0, 1) := by decide +kernel
theorem dX3_takeGreatest_99 : decode cX3_takeGreatest 99 = .ok (.getfield 17, 3) := by decide +kernel
theorem dX3_takeGreatest_102 : decode cX3_takeGreatest 102 = .ok (.iload_n 1, 1) := by decide +kernel
theorem dX3_takeGreatest_103 : decode cX3_takeGreatest 103 = .ok (.laload, 1) := by decide +kernel
theorem dX3_takeGreatest_104 : decode cX3_takeGreatest 104 = .ok (.lastore, 1) := by decide +kernel
theorem dX3_takeGreatest_105 : decode cX3_takeGreatest 105 = .ok (.aload_n 0, 1) := by decide +kernel
theorem dX3_takeGreatest_106 : decode cX3_takeGreatest 106 = .ok (.getfield 17, 3) := by decide +kernel
theorem dX3_takeGreatest_109 : decode cX3_takeGreatest 109 = .ok (.iload_n 1, 1) := by decide +kernel
theorem dX3_takeGreatest_110 : decode cX3_takeGreatest 110 = .ok (.lload 4, 2) := by decide +kernel
theorem dX3_takeGreatest_112 : decode cX3_takeGreatest 112 = .ok (.lastore, 1) := by decide +kernel
theorem dX3_takeGreatest_113 : decode cX3_takeGreatest 113 = .ok (.lload 4, 2) := by decide +kernel
theorem dX3_takeGreatest_115 : decode cX3_takeGreatest 115 = .ok (.lreturn, 1) := by decide +kernel
theorem dX4_init_0 : decode cX4_init 0 = .ok (.aload_n 0, 1) := by decide +kernel
theorem dX4_init_1 : decode cX4_init 1 = .ok (.invokespecial 3, 3) := by decide +kernel
theorem dX4_init_4 : decode cX4_init 4 = .ok (.aload_n 0, 1) := by decide +kernel
theorem dX4_init_5 : decode cX4_init 5 = .ok (.new 9, 3) := by decide +kernel
theorem dX4_init_8 : decode cX4_init 8 = .ok (.dup, 1) := by decide +kernel
theorem dX4_init_9 : decode cX4_init 9 = .ok (.invokespecial 11, 3) := by decide +kernel
theorem dX4_init_12 : decode cX4_init 12 = .ok (.putfield 12, 3) := by decide +kernel
theorem dX4_init_15 : decode cX4_init 15 = .ok (.aload_n 0, 1) := by decide +kernel
theorem dX4_init_16 : decode cX4_init 16 = .ok (.new 18, 3) := by decide +kernel
theorem dX4_init_19 : decode cX4_init 19 = .ok (.dup, 1) := by decide +kernel
theorem dX4_init_20 : decode cX4_init 20 = .ok (.invokespecial 20, 3) := by decide +kernel
theorem dX4_init_23 : decode cX4_init 23 = .ok (.putfield 21, 3) := by decide +kernel
theorem dX4_init_26 : decode cX4_init 26 = .ok (.aload_n 0, 1) := by decide +kernel
theorem dX4_init_27 : decode cX4_init 27 = .ok (.bipush 20, 2) := by decide +kernel
theorem dX4_init_29 : decode cX4_init 29 = .ok (.newarray .long, 2) := by decide +kernel
theorem dX4_init_31 : decode cX4_init 31 = .ok (.putfield 25, 3) := by decide +kernel
theorem dX4_init_34 : decode cX4_init 34 = .ok (.aload_n 0, 1) := by decide +kernel
theorem dX4_init_35 : decode cX4_init 35 = .ok (.bipush 20, 2) := by decide +kernel
theorem dX4_init_37 : decode cX4_init 37 = .ok (.newarray .int, 2) := by decide +kernel
theorem dX4_init_39 : decode cX4_init 39 = .ok (.putfield 29, 3) := by decide +kernel
theorem dX4_init_42 : decode cX4_init 42 = .ok (.return_, 1) := by decide +kernel
theorem dX4_parse_0 : decode cX4_parse 0 = .ok (.aload_n 0, 1) := by decide +kernel
theorem dX4_parse_1 : decode cX4_parse 1 = .ok (.getfield 21, 3) := by decide +kernel
theorem dX4_parse_4 : decode cX4_parse 4 = .ok (.invokevirtual 33, 3) := by decide +kernel
theorem dX4_parse_7 : decode cX4_parse 7 = .ok (.aload_n 0, 1) := by decide +kernel
theorem dX4_parse_8 : decode cX4_parse 8 = .ok (.iconst 0, 1) := by decide +kernel
theorem dX4_parse_9 : decode cX4_parse 9 = .ok (.putfield 36, 3) := by decide +kernel
theorem dX4_parse_12 : decode cX4_parse 12 = .ok (.aload_n 0, 1) := by decide +kernel
theorem dX4_parse_13 : decode cX4_parse 13 = .ok (.iconst 0, 1) := by decide +kernel
theorem dX4_parse_14 : decode cX4_parse 14 = .ok (.putfield 40, 3) := by decide +kernel
theorem dX4_parse_17 : decode cX4_parse 17 = .ok (.aload_n 0, 1) := by decide +kernel
theorem dX4_parse_18 : decode cX4_parse 18 = .ok (.iconst 0, 1) := by decide +kernel
theorem dX4_parse_19 : decode cX4_parse 19 = .ok (.putfield 43, 3) := by decide +kernel
theorem dX4_parse_22 : decode cX4_parse 22 = .ok (.aload_n 0, 1) := by decide +kernel
theorem dX4_parse_23 : decode cX4_parse 23 = .ok (.getfield 12, 3) := by decide +kernel
theorem dX4_parse_26 : decode cX4_parse 26 = .ok (.invokevirtual 46, 3) := by decide +kernel
theorem dX4_parse_29 : decode cX4_parse 29 = .ok (.iconst 0, 1) := by decide +kernel
theorem dX4_parse_30 : decode cX4_parse 30 = .ok (.istore_n 1, 1) := by decide +kernel
theorem dX4_parse_31 : decode cX4_parse 31 = .ok (.iload_n 1, 1) := by decide +kernel
theorem dX4_parse_32 : decode cX4_parse 32 = .ok (.bipush 24, 2) := by decide +kernel
theorem dX4_parse_34 : decode cX4_parse 34 = .ok (.if_icmp .gt 140, 3) := by decide +kernel
theorem dX4_parse_37 : decode cX4_parse 37 = .ok (.aload_n 0, 1) := by decide +kernel
theorem dX4_parse_38 : decode cX4_parse 38 = .ok (.getfield 36, 3) := by decide +kernel
theorem dX4_parse_41 : decode cX4_parse 41 = .ok (.ifCond .ne 133, 3) := by decide +kernel
theorem dX4_parse_44 : decode cX4_parse 44 = .ok (.aload_n 0, 1) := by decide +kernel
theorem dX4_parse_45 : decode cX4_parse 45 = .ok (.getfield 12, 3) := by decide +kernel
theorem dX4_parse_48 : decode cX4_parse 48 = .ok (.getfield 49, 3) := by decide +kernel
theorem dX4_parse_51 : decode cX4_parse 51 = .ok (.ifCond .eq 123, 3) := by decide +kernel
theorem dX4_parse_54 : decode cX4_parse 54 = .ok (.aload_n 0, 1) := by decide +kernel
theorem dX4_parse_55 : decode cX4_parse 55 = .ok (.getfield 12, 3) := by decide +kernel
theorem dX4_parse_58 : decode cX4_parse 58 = .ok (.getfield 49, 3) := by decide +kernel
theorem dX4_parse_61 : decode cX4_parse 61 = .ok (.sipush 145, 3) := by decide +kernel
theorem dX4_parse_64 : decode cX4_parse 64 = .ok (.if_icmp .ne 20, 3) := by decide +kernel
theorem dX4_parse_67 : decode cX4_parse 67 = .ok (.aload_n 0, 1) := by decide +kernel
theorem dX4_parse_68 : decode cX4_parse 68 = .ok (.getfield 21, 3) := by decide +kernel
theorem dX4_parse_71 : decode cX4_parse 71 = .ok (.getfield 52, 3) := by decide +kernel
theorem dX4_parse_74 : decode cX4_parse 74 = .ok (.bipush 24, 2) := by decide +kernel
theorem dX4_parse_76 : decode cX4_parse 76 = .ok (.if_icmp .ne 8, 3) := by decide +kernel
theorem dX4_parse_79 : decode cX4_parse 79 = .ok (.aload_n 0, 1) := by decide +kernel
theorem dX4_parse_80 : decode cX4_parse 80 = .ok (.iconst 4, 1) := by decide +kernel
theorem dX4_parse_81 : decode cX4_parse 81 = .ok (.invokevirtual 55, 3) := by decide +kernel
theorem dX4_parse_84 : decode cX4_parse 84 = .ok (.aload_n 0, 1) := by decide +kernel
theorem dX4_parse_85 : decode cX4_parse 85 = .ok (.sipush 145, 3) := by decide +kernel
theorem dX4_parse_88 : decode cX4_parse 88 = .ok (.invokevirtual 59, 3) := by decide +kernel
theorem dX4_parse_91 : decode cX4_parse 91 = .ok (.aload_n 0, 1) := by decide +kernel
theorem dX4_parse_92 : decode cX4_parse 92 = .ok (.getfield 12, 3) := by decide +kernel
theorem dX4_parse_95 : decode cX4_parse 95 = .ok (.getfield 62, 3) := by decide +kernel
theorem dX4_parse_98 : decode cX4_parse 98 = .ok (.lstore_n 2, 1) := by decide +kernel
theorem dX4_parse_99 : decode cX4_parse 99 = .ok (.aload_n 0, 1) := by decide +kernel
theorem dX4_parse_100 : decode cX4_parse 100 = .ok (.getfield 12, 3) := by decide +kernel
theorem dX4_parse_103 : decode cX4_parse 103 = .ok (.getfield 49, 3) := by decide +kernel
theorem dX4_parse_106 : decode cX4_parse 106 = .ok (.iconst 2, 1) := by decide +kernel
theorem dX4_parse_107 : decode cX4_parse 107 = .ok (.if_icmp .ne 20, 3) := by decide +kernel
theorem dX4_parse_110 : decode cX4_parse 110 = .ok (.aload_n 0, 1) := by decide +kernel
theorem dX4_parse_111 : decode cX4_parse 111 = .ok (.getfield 21, 3) := by decide +kernel
theorem dX4_parse_114 : decode cX4_parse 114 = .ok (.lload_n 2, 1) := by decide +kernel
theorem dX4_parse_115 : decode cX4_parse 115 = .ok (.invokevirtual 66, 3) := by decide +kernel
theorem dX4_parse_118 : decode cX4_parse 118 = .ok (.iconst (-1), 1) := by decide +kernel
theorem dX4_parse_119 : decode cX4_parse 119 = .ok (.if_icmp .eq 8, 3) := by decide +kernel
theorem dX4_parse_122 : decode cX4_parse 122 = .ok (.aload_n 0, 1) := by decide +kernel
theorem dX4_parse_123 : decode cX4_parse 123 = .ok (.iconst 3, 1) := by decide +kernel
theorem dX4_parse_124 : decode cX4_parse 124 = .ok (.invokevirtual 55, 3) := by decide +kernel
theorem dX4_parse_127 : decode cX4_parse 127 = .ok (.aload_n 0, 1) := by decide +kernel
theorem dX4_parse_128 : decode cX4_parse 128 = .ok (.iconst 2, 1) := by decide +kernel
theorem dX4_parse_129 : decode cX4_parse 129 = .ok (.invokevirtual 59, 3) := by decide +kernel
theorem dX4_parse_132 : decode cX4_parse 132 = .ok (.aload_n 0, 1) := by decide +kernel
theorem dX4_parse_133 : decode cX4_parse 133 = .ok (.bipush 61, 2) := by decide +kernel
theorem dX4_parse_135 : decode cX4_parse 135 = .ok (.invokevirtual 59, 3) := by decide +kernel
theorem dX4_parse_138 : decode cX4_parse 138 = .ok (.aload_n 0, 1) := by decide +kernel
theorem dX4_parse_139 : decode cX4_parse 139 = .ok (.iconst 0, 1) := by decide +kernel
theorem dX4_parse_140 : decode cX4_parse 140 = .ok (.invokevirtual 70, 3) := by decide +kernel
theorem dX4_parse_143 : decode cX4_parse 143 = .ok (.istore 4, 2) := by decide +kernel
theorem dX4_parse_145 : decode cX4_parse 145 = .ok (.aload_n 0, 1) := by decide +kernel
theorem dX4_parse_146 : decode cX4_parse 146 = .ok (.bipush 59, 2) := by decide +kernel
theorem dX4_parse_148 : decode cX4_parse 148 = .ok (.invokevirtual 59, 3) := by decide +kernel
theorem dX4_parse_151 : decode cX4_parse 151 = .ok (.aload_n 0, 1) := by decide +kernel
theorem dX4_parse_152 : decode cX4_parse 152 = .ok (.getfield 36, 3) := by decide +kernel
theorem dX4_parse_155 : decode cX4_parse 155 = .ok (.ifCond .ne 13, 3) := by decide +kernel
theorem dX4_parse_158 : decode cX4_parse 158 = .ok (.aload_n 0, 1) := by decide +kernel
theorem dX4_parse_159 : decode cX4_parse 159 = .ok (.getfield 21, 3) := by decide +kernel
theorem dX4_parse_162 : decode cX4_parse 162 = .ok (.lload_n 2, 1) := by decide +kernel
theorem dX4_parse_163 : decode cX4_parse 163 = .ok (.iload 4, 2) := by decide +kernel
theorem dX4_parse_165 : decode cX4_parse 165 = .ok (.invokevirtual 74, 3) := by decide +kernel
theorem dX4_parse_168 : decode cX4_parse 168 = .ok (.iinc 1 1, 3) := by decide +kernel
theorem dX4_parse_171 : decode cX4_parse 171 = .ok (.goto (-140), 3) := by decide +kernel
theorem dX4_parse_174 : decode cX4_parse 174 = .ok (.return_, 1) := by decide +kernel
theorem dX4_refuse_0 : decode cX4_refuse 0 = .ok (.aload_n 0, 1) := by decide +kernel
theorem dX4_refuse_1 : decode cX4_refuse 1 = .ok (.getfield 36, 3) := by decide +kernel
theorem dX4_refuse_4 : decode cX4_refuse 4 = .ok (.ifCond .ne 19, 3) := by decide +kernel
theorem dX4_refuse_7 : decode cX4_refuse 7 = .ok (.aload_n 0, 1) := by decide +kernel
theorem dX4_refuse_8 : decode cX4_refuse 8 = .ok (.iload_n 1, 1) := by decide +kernel
theorem dX4_refuse_9 : decode cX4_refuse 9 = .ok (.putfield 36, 3) := by decide +kernel
theorem dX4_refuse_12 : decode cX4_refuse 12 = .ok (.aload_n 0, 1) := by decide +kernel
theorem dX4_refuse_13 : decode cX4_refuse 13 = .ok (.aload_n 0, 1) := by decide +kernel
theorem dX4_refuse_14 : decode cX4_refuse 14 = .ok (.getfield 12, 3) := by decide +kernel
theorem dX4_refuse_17 : decode cX4_refuse 17 = .ok (.getfield 78, 3) := by decide +kernel
theorem dX4_refuse_20 : decode cX4_refuse 20 = .ok (.putfield 40, 3) := by decide +kernel
theorem dX4_refuse_23 : decode cX4_refuse 23 = .ok (.return_, 1) := by decide +kernel
theorem dX4_refuseToken_0 : decode cX4_refuseToken 0 = .ok (.aload_n 0, 1) := by decide +kernel
theorem dX4_refuseToken_1 : decode cX4_refuseToken 1 = .ok (.aload_n 0, 1) := by decide +kernel
theorem dX4_refuseToken_2 : decode cX4_refuseToken 2 = .ok (.getfield 12, 3) := by decide +kernel
theorem dX4_refuseToken_5 : decode cX4_refuseToken 5 = .ok (.getfield 49, 3) := by decide +kernel
theorem dX4_refuseToken_8 : decode cX4_refuseToken 8 = .ok (.iconst 1, 1) := by decide +kernel
theorem dX4_refuseToken_9 : decode cX4_refuseToken 9 = .ok (.if_icmp .ne 7, 3) := by decide +kernel
theorem dX4_refuseToken_12 : decode cX4_refuseToken 12 = .ok (.iconst 1, 1) := by decide +kernel
theorem dX4_refuseToken_13 : decode cX4_refuseToken 13 = .ok (.goto 4, 3) := by decide +kernel
theorem dX4_refuseToken_16 : decode cX4_refuseToken 16 = .ok (.iconst 2, 1) := by decide +kernel
theorem dX4_refuseToken_17 : decode cX4_refuseToken 17 = .ok (.invokevirtual 55, 3) := by decide +kernel
theorem dX4_refuseToken_20 : decode cX4_refuseToken 20 = .ok (.return_, 1) := by decide +kernel
theorem dX4_take_0 : decode cX4_take 0 = .ok (.aload_n 0, 1) := by decide +kernel
theorem dX4_take_1 : decode cX4_take 1 = .ok (.getfield 36, 3) := by decide +kernel
theorem dX4_take_4 : decode cX4_take 4 = .ok (.ifCond .eq 4, 3) := by decide +kernel
theorem dX4_take_7 : decode cX4_take 7 = .ok (.return_, 1) := by decide +kernel
theorem dX4_take_8 : decode cX4_take 8 = .ok (.aload_n 0, 1) := by decide +kernel
theorem dX4_take_9 : decode cX4_take 9 = .ok (.getfield 12, 3) := by decide +kernel
theorem dX4_take_12 : decode cX4_take 12 = .ok (.getfield 49, 3) := by decide +kernel
theorem dX4_take_15 : decode cX4_take 15 = .ok (.iload_n 1, 1) := by decide +kernel
theorem dX4_take_16 : decode cX4_take 16 = .ok (.if_icmp .ne 13, 3) := by decide +kernel
theorem dX4_take_19 : decode cX4_take 19 = .ok (.aload_n 0, 1) := by decide +kernel
theorem dX4_take_20 : decode cX4_take 20 = .ok (.getfield 12, 3) := by decide +kernel
theorem dX4_take_23 : decode cX4_take 23 = .ok (.invokevirtual 46, 3) := by decide +kernel
theorem dX4_take_26 : decode cX4_take 26 = .ok (.goto 7, 3) := by decide +kernel
theorem dX4_take_29 : decode cX4_take 29 = .ok (.aload_n 0, 1) := by decide +kernel
theorem dX4_take_30 : decode cX4_take 30 = .ok (.invokevirtual 81, 3) := by decide +kernel
theorem dX4_take_33 : decode cX4_take 33 = .ok (.return_, 1) := by decide +kernel
theorem dX4_part_0 : decode cX4_part 0 = .ok (.aload_n 0, 1) := by decide +kernel
theorem dX4_part_1 : decode cX4_part 1 = .ok (.getfield 36, 3) := by decide +kernel
theorem dX4_part_4 : decode cX4_part 4 = .ok (.ifCond .eq 5, 3) := by decide +kernel
theorem dX4_part_7 : decode cX4_part 7 = .ok (.iconst (-1), 1) := by decide +kernel
theorem dX4_part_8 : decode cX4_part 8 = .ok (.ireturn, 1) := by decide +kernel
theorem dX4_part_9 : decode cX4_part 9 = .ok (.aload_n 0, 1) := by decide +kernel
theorem dX4_part_10 : decode cX4_part 10 = .ok (.getfield 21, 3) := by decide +kernel
theorem dX4_part_13 : decode cX4_part 13 = .ok (.iload_n 1, 1) := by decide +kernel
theorem dX4_part_14 : decode cX4_part 14 = .ok (.lload_n 2, 1) := by decide +kernel
theorem dX4_part_15 : decode cX4_part 15 = .ok (.invokevirtual 84, 3) := by decide +kernel
theorem dX4_part_18 : decode cX4_part 18 = .ok (.istore 4, 2) := by decide +kernel
theorem dX4_part_20 : decode cX4_part 20 = .ok (.iload 4, 2) := by decide +kernel
theorem dX4_part_22 : decode cX4_part 22 = .ok (.iconst (-1), 1) := by decide +kernel
theorem dX4_part_23 : decode cX4_part 23 = .ok (.if_icmp .ne 11, 3) := by decide +kernel
theorem dX4_part_26 : decode cX4_part 26 = .ok (.aload_n 0, 1) := by decide +kernel
theorem dX4_part_27 : decode cX4_part 27 = .ok (.iconst 4, 1) := by decide +kernel
theorem dX4_part_28 : decode cX4_part 28 = .ok (.invokevirtual 55, 3) := by decide +kernel
theorem dX4_part_31 : decode cX4_part 31 = .ok (.goto 10, 3) := by decide +kernel
theorem dX4_part_34 : decode cX4_part 34 = .ok (.aload_n 0, 1) := by decide +kernel
theorem dX4_part_35 : decode cX4_part 35 = .ok (.getfield 12, 3) := by decide +kernel
theorem dX4_part_38 : decode cX4_part 38 = .ok (.invokevirtual 46, 3) := by decide +kernel
theorem dX4_part_41 : decode cX4_part 41 = .ok (.iload 4, 2) := by decide +kernel
theorem dX4_part_43 : decode cX4_part 43 = .ok (.ireturn, 1) := by decide +kernel
theorem dX4_isNext_0 : decode cX4_isNext 0 = .ok (.aload_n 0, 1) := by decide +kernel
theorem dX4_isNext_1 : decode cX4_isNext 1 = .ok (.getfield 36, 3) := by decide +kernel
theorem dX4_isNext_4 : decode cX4_isNext 4 = .ok (.ifCond .ne 18, 3) := by decide +kernel
theorem dX4_isNext_7 : decode cX4_isNext 7 = .ok (.aload_n 0, 1) := by decide +kernel
theorem dX4_isNext_8 : decode cX4_isNext 8 = .ok (.getfield 12, 3) := by decide +kernel
theorem dX4_isNext_11 : decode cX4_isNext 11 = .ok (.getfield 49, 3) := by decide +kernel
theorem dX4_isNext_14 : decode cX4_isNext 14 = .ok (.iload_n 1, 1) := by decide +kernel
theorem dX4_isNext_15 : decode cX4_isNext 15 = .ok (.if_icmp .ne 7, 3) := by decide +kernel
theorem dX4_isNext_18 : decode cX4_isNext 18 = .ok (.iconst 1, 1) := by decide +kernel
theorem dX4_isNext_19 : decode cX4_isNext 19 = .ok (.goto 4, 3) := by decide +kernel
theorem dX4_isNext_22 : decode cX4_isNext 22 = .ok (.iconst 0, 1) := by decide +kernel
theorem dX4_isNext_23 : decode cX4_isNext 23 = .ok (.ireturn, 1) := by decide +kernel
theorem dX4_beginsU_0 : decode cX4_beginsU 0 = .ok (.aload_n 0, 1) := by decide +kernel
theorem dX4_beginsU_1 : decode cX4_beginsU 1 = .ok (.getfield 12, 3) := by decide +kernel
theorem dX4_beginsU_4 : decode cX4_beginsU 4 = .ok (.getfield 49, 3) := by decide +kernel
theorem dX4_beginsU_7 : decode cX4_beginsU 7 = .ok (.lookupswitch 67 #[(2, 65), (3, 65), (4, 65), (40, 65), (45, 65), (131, 65), (146, 65)], 65) := by decide +kernel
theorem dX4_beginsU_72 : decode cX4_beginsU 72 = .ok (.iconst 1, 1) := by decide +kernel
theorem dX4_beginsU_73 : decode cX4_beginsU 73 = .ok (.ireturn, 1) := by decide +kernel
theorem dX4_beginsU_74 : decode cX4_beginsU 74 = .ok (.aload_n 0, 1) := by decide +kernel
theorem dX4_beginsU_75 : decode cX4_beginsU 75 = .ok (.getfield 12, 3) := by decide +kernel
theorem dX4_beginsU_78 : decode cX4_beginsU 78 = .ok (.getfield 49, 3) := by decide +kernel
theorem dX4_beginsU_81 : decode cX4_beginsU 81 = .ok (.invokestatic 88, 3) := by decide +kernel
theorem dX4_beginsU_84 : decode cX4_beginsU 84 = .ok (.ifCond .le 7, 3) := by decide +kernel
theorem dX4_beginsU_87 : decode cX4_beginsU 87 = .ok (.iconst 1, 1) := by decide +kernel
theorem dX4_beginsU_88 : decode cX4_beginsU 88 = .ok (.goto 4, 3) := by decide +kernel
theorem dX4_beginsU_91 : decode cX4_beginsU 91 = .ok (.iconst 0, 1) := by decide +kernel
theorem dX4_beginsU_92 : decode cX4_beginsU 92 = .ok (.ireturn, 1) := by decide +kernel
theorem dX4_mayBegin_0 : decode cX4_mayBegin 0 = .ok (.iload_n 1, 1) := by decide +kernel
theorem dX4_mayBegin_1 : decode cX4_mayBegin 1 = .ok (.ifCond .ne 10, 3) := by decide +kernel
theorem dX4_mayBegin_4 : decode cX4_mayBegin 4 = .ok (.aload_n 0, 1) := by decide +kernel
theorem dX4_mayBegin_5 : decode cX4_mayBegin 5 = .ok (.invokevirtual 81, 3) := by decide +kernel
theorem dX4_mayBegin_8 : decode cX4_mayBegin 8 = .ok (.goto 14, 3) := by decide +kernel
theorem dX4_mayBegin_11 : decode cX4_mayBegin 11 = .ok (.iload_n 2, 1) := by decide +kernel
theorem dX4_mayBegin_12 : decode cX4_mayBegin 12 = .ok (.bipush 20, 2) := by decide +kernel
theorem dX4_mayBegin_14 : decode cX4_mayBegin 14 = .ok (.if_icmp .lt 8, 3) := by decide +kernel
theorem dX4_mayBegin_17 : decode cX4_mayBegin 17 = .ok (.aload_n 0, 1) := by decide +kernel
theorem dX4_mayBegin_18 : decode cX4_mayBegin 18 = .ok (.iconst 4, 1) := by decide +kernel
theorem dX4_mayBegin_19 : decode cX4_mayBegin 19 = .ok (.invokevirtual 55, 3) := by decide +kernel
theorem dX4_mayBegin_22 : decode cX4_mayBegin 22 = .ok (.aload_n 0, 1) := by decide +kernel
theorem dX4_mayBegin_23 : decode cX4_mayBegin 23 = .ok (.getfield 36, 3) := by decide +kernel
theorem dX4_mayBegin_26 : decode cX4_mayBegin 26 = .ok (.ifCond .ne 7, 3) := by decide +kernel
theorem dX4_mayBegin_29 : decode cX4_mayBegin 29 = .ok (.iconst 1, 1) := by decide +kernel
theorem dX4_mayBegin_30 : decode cX4_mayBegin 30 = .ok (.goto 4, 3) := by decide +kernel
theorem dX4_mayBegin_33 : decode cX4_mayBegin 33 = .ok (.iconst 0, 1) := by decide +kernel
theorem dX4_mayBegin_34 : decode cX4_mayBegin 34 = .ok (.ireturn, 1) := by decide +kernel
theorem dX4_readE_0 : decode cX4_readE 0 = .ok (.aload_n 0, 1) := by decide +kernel
theorem dX4_readE_1 : decode cX4_readE 1 = .ok (.getfield 12, 3) := by decide +kernel
theorem dX4_readE_4 : decode cX4_readE 4 = .ok (.getfield 49, 3) := by decide +kernel
theorem dX4_readE_7 : decode cX4_readE 7 = .ok (.sipush 135, 3) := by decide +kernel
theorem dX4_readE_10 : decode cX4_readE 10 = .ok (.if_icmp .ne 7, 3) := by decide +kernel
theorem dX4_readE_13 : decode cX4_readE 13 = .ok (.iconst 1, 1) := by decide +kernel
theorem dX4_readE_14 : decode cX4_readE 14 = .ok (.goto 4, 3) := by decide +kernel
theorem dX4_readE_17 : decode cX4_readE 17 = .ok (.iconst 0, 1) := by decide +kernel
theorem dX4_readE_18 : decode cX4_readE 18 = .ok (.istore_n 2, 1) := by decide +kernel
theorem dX4_readE_19 : decode cX4_readE 19 = .ok (.aload_n 0, 1) := by decide +kernel
theorem dX4_readE_20 : decode cX4_readE 20 = .ok (.getfield 12, 3) := by decide +kernel
theorem dX4_readE_23 : decode cX4_readE 23 = .ok (.getfield 49, 3) := by decide +kernel
theorem dX4_readE_26 : decode cX4_readE 26 = .ok (.sipush 149, 3) := by decide +kernel
theorem dX4_readE_29 : decode cX4_readE 29 = .ok (.if_icmp .ne 7, 3) := by decide +kernel
theorem dX4_readE_32 : decode cX4_readE 32 = .ok (.iconst 1, 1) := by decide +kernel
theorem dX4_readE_33 : decode cX4_readE 33 = .ok (.goto 4, 3) := by decide +kernel
theorem dX4_readE_36 : decode cX4_readE 36 = .ok (.iconst 0, 1) := by decide +kernel
theorem dX4_readE_37 : decode cX4_readE 37 = .ok (.istore_n 3, 1) := by decide +kernel
theorem dX4_readE_38 : decode cX4_readE 38 = .ok (.aload_n 0, 1) := by decide +kernel
theorem dX4_readE_39 : decode cX4_readE 39 = .ok (.iload_n 2, 1) := by decide +kernel
theorem dX4_readE_40 : decode cX4_readE 40 = .ok (.ifCond .ne 14, 3) := by decide +kernel
theorem dX4_readE_43 : decode cX4_readE 43 = .ok (.iload_n 3, 1) := by decide +kernel
theorem dX4_readE_44 : decode cX4_readE 44 = .ok (.ifCond .ne 10, 3) := by decide +kernel
theorem dX4_readE_47 : decode cX4_readE 47 = .ok (.aload_n 0, 1) := by decide +kernel
theorem dX4_readE_48 : decode cX4_readE 48 = .ok (.invokevirtual 91, 3) := by decide +kernel
theorem dX4_readE_51 : decode cX4_readE 51 = .ok (.ifCond .eq 7, 3) := by decide +kernel
theorem dX4_readE_54 : decode cX4_readE 54 = .ok (.iconst 1, 1) := by decide +kernel
theorem dX4_readE_55 : decode cX4_readE 55 = .ok (.goto 4, 3) := by decide +kernel
theorem dX4_readE_58 : decode cX4_readE 58 = .ok (.iconst 0, 1) := by decide +kernel
theorem dX4_readE_59 : decode cX4_readE 59 = .ok (.iload_n 1, 1) := by decide +kernel
theorem dX4_readE_60 : decode cX4_readE 60 = .ok (.invokevirtual 95, 3) := by decide +kernel
theorem dX4_readE_63 : decode cX4_readE 63 = .ok (.ifCond .ne 5, 3) := by decide +kernel
theorem dX4_readE_66 : decode cX4_readE 66 = .ok (.iconst (-1), 1) := by decide +kernel
theorem dX4_readE_67 : decode cX4_readE 67 = .ok (.ireturn, 1) := by decide +kernel
theorem dX4_readE_68 : decode cX4_readE 68 = .ok (.iload_n 2, 1) := by decide +kernel
theorem dX4_readE_69 : decode cX4_readE 69 = .ok (.ifCond .ne 13, 3) := by decide +kernel
theorem dX4_readE_72 : decode cX4_readE 72 = .ok (.iload_n 3, 1) := by decide +kernel
theorem dX4_readE_73 : decode cX4_readE 73 = .ok (.ifCond .ne 9, 3) := by decide +kernel
theorem dX4_readE_76 : decode cX4_readE 76 = .ok (.aload_n 0, 1) := by decide +kernel
theorem dX4_readE_77 : decode cX4_readE 77 = .ok (.iload_n 1, 1) := by decide +kernel
theorem dX4_readE_78 : decode cX4_readE 78 = .ok (.invokevirtual 99, 3) := by decide +kernel
theorem dX4_readE_81 : decode cX4_readE 81 = .ok (.ireturn, 1) := by decide +kernel
theorem dX4_readE_82 : decode cX4_readE 82 = .ok (.aload_n 0, 1) := by decide +kernel
theorem dX4_readE_83 : decode cX4_readE 83 = .ok (.aload_n 0, 1) := by decide +kernel
theorem dX4_readE_84 : decode cX4_readE 84 = .ok (.getfield 12, 3) := by decide +kernel
theorem dX4_readE_87 : decode cX4_readE 87 = .ok (.getfield 49, 3) := by decide +kernel
theorem dX4_readE_90 : decode cX4_readE 90 = .ok (.lconst 0, 1) := by decide +kernel
theorem dX4_readE_91 : decode cX4_readE 91 = .ok (.invokevirtual 102, 3) := by decide +kernel
theorem dX4_readE_94 : decode cX4_readE 94 = .ok (.istore 4, 2) := by decide +kernel
theorem dX4_readE_96 : decode cX4_readE 96 = .ok (.iconst 0, 1) := by decide +kernel
theorem dX4_readE_97 : decode cX4_readE 97 = .ok (.istore 5, 2) := by decide +kernel
theorem dX4_readE_99 : decode cX4_readE 99 = .ok (.aload_n 0, 1) := by decide +kernel
theorem dX4_readE_100 : decode cX4_readE 100 = .ok (.getfield 21, 3) := by decide +kernel
theorem dX4_readE_103 : decode cX4_readE 103 = .ok (.iload 4, 2) := by decide +kernel
theorem dX4_readE_105 : decode cX4_readE 105 = .ok (.iload 5, 2) := by decide +kernel
theorem dX4_readE_107 : decode cX4_readE 107 = .ok (.iinc 5 1, 3) := by decide +kernel
theorem dX4_readE_110 : decode cX4_readE 110 = .ok (.aload_n 0, 1) := by decide +kernel
theorem dX4_readE_111 : decode cX4_readE 111 = .ok (.iload_n 1, 1) := by decide +kernel
theorem dX4_readE_112 : decode cX4_readE 112 = .ok (.iconst 1, 1) := by decide +kernel
theorem dX4_readE_113 : decode cX4_readE 113 = .ok (.iadd, 1) := by decide +kernel
theorem dX4_readE_114 : decode cX4_readE 114 = .ok (.invokevirtual 70, 3) := by decide +kernel
theorem dX4_readE_117 : decode cX4_readE 117 = .ok (.invokevirtual 105, 3) := by decide +kernel
theorem dX4_readE_120 : decode cX4_readE 120 = .ok (.iload_n 2, 1) := by decide +kernel
theorem dX4_readE_121 : decode cX4_readE 121 = .ok (.ifCond .eq 31, 3) := by decide +kernel
theorem dX4_readE_124 : decode cX4_readE 124 = .ok (.aload_n 0, 1) := by decide +kernel
theorem dX4_readE_125 : decode cX4_readE 125 = .ok (.sipush 147, 3) := by decide +kernel
theorem dX4_readE_128 : decode cX4_readE 128 = .ok (.invokevirtual 59, 3) := by decide +kernel
theorem dX4_readE_131 : decode cX4_readE 131 = .ok (.aload_n 0, 1) := by decide +kernel
theorem dX4_readE_132 : decode cX4_readE 132 = .ok (.getfield 21, 3) := by decide +kernel
theorem dX4_readE_135 : decode cX4_readE 135 = .ok (.iload 4, 2) := by decide +kernel
theorem dX4_readE_137 : decode cX4_readE 137 = .ok (.iload 5, 2) := by decide +kernel
theorem dX4_readE_139 : decode cX4_readE 139 = .ok (.iinc 5 1, 3) := by decide +kernel
theorem dX4_readE_142 : decode cX4_readE 142 = .ok (.aload_n 0, 1) := by decide +kernel
theorem dX4_readE_143 : decode cX4_readE 143 = .ok (.iload_n 1, 1) := by decide +kernel
theorem dX4_readE_144 : decode cX4_readE 144 = .ok (.iconst 1, 1) := by decide +kernel
theorem dX4_readE_145 : decode cX4_readE 145 = .ok (.iadd, 1) := by decide +kernel
theorem dX4_readE_146 : decode cX4_readE 146 = .ok (.invokevirtual 70, 3) := by decide +kernel
theorem dX4_readE_149 : decode cX4_readE 149 = .ok (.invokevirtual 105, 3) := by decide +kernel
theorem dX4_readE_152 : decode cX4_readE 152 = .ok (.aload_n 0, 1) := by decide +kernel
theorem dX4_readE_153 : decode cX4_readE 153 = .ok (.sipush 132, 3) := by decide +kernel
theorem dX4_readE_156 : decode cX4_readE 156 = .ok (.invokevirtual 59, 3) := by decide +kernel
theorem dX4_readE_159 : decode cX4_readE 159 = .ok (.aload_n 0, 1) := by decide +kernel
theorem dX4_readE_160 : decode cX4_readE 160 = .ok (.getfield 21, 3) := by decide +kernel
theorem dX4_readE_163 : decode cX4_readE 163 = .ok (.iload 4, 2) := by decide +kernel
theorem dX4_readE_165 : decode cX4_readE 165 = .ok (.iload 5, 2) := by decide +kernel
theorem dX4_readE_167 : decode cX4_readE 167 = .ok (.aload_n 0, 1) := by decide +kernel
theorem dX4_readE_168 : decode cX4_readE 168 = .ok (.iload_n 1, 1) := by decide +kernel
theorem dX4_readE_169 : decode cX4_readE 169 = .ok (.iconst 1, 1) := by decide +kernel
theorem dX4_readE_170 : decode cX4_readE 170 = .ok (.iadd, 1) := by decide +kernel
theorem dX4_readE_171 : decode cX4_readE 171 = .ok (.invokevirtual 70, 3) := by decide +kernel
theorem dX4_readE_174 : decode cX4_readE 174 = .ok (.invokevirtual 105, 3) := by decide +kernel
theorem dX4_readE_177 : decode cX4_readE 177 = .ok (.iload 4, 2) := by decide +kernel
theorem dX4_readE_179 : decode cX4_readE 179 = .ok (.ireturn, 1) := by decide +kernel
theorem dX4_readC_0 : decode cX4_readC 0 = .ok (.aload_n 0, 1) := by decide +kernel
theorem dX4_readC_1 : decode cX4_readC 1 = .ok (.iload_n 1, 1) := by decide +kernel
theorem dX4_readC_2 : decode cX4_readC 2 = .ok (.invokevirtual 109, 3) := by decide +kernel
theorem dX4_readC_5 : decode cX4_readC 5 = .ok (.istore_n 2, 1) := by decide +kernel
theorem dX4_readC_6 : decode cX4_readC 6 = .ok (.aload_n 0, 1) := by decide +kernel
theorem dX4_readC_7 : decode cX4_readC 7 = .ok (.bipush 60, 2) := by decide +kernel
theorem dX4_readC_9 : decode cX4_readC 9 = .ok (.invokevirtual 112, 3) := by decide +kernel
theorem dX4_readC_12 : decode cX4_readC 12 = .ok (.ifCond .ne 30, 3) := by decide +kernel
theorem dX4_readC_15 : decode cX4_readC 15 = .ok (.aload_n 0, 1) := by decide +kernel
theorem dX4_readC_16 : decode cX4_readC 16 = .ok (.bipush 9, 2) := by decide +kernel
theorem dX4_readC_18 : decode cX4_readC 18 = .ok (.invokevirtual 112, 3) := by decide +kernel
theorem dX4_readC_21 : decode cX4_readC 21 = .ok (.ifCond .ne 21, 3) := by decide +kernel
theorem dX4_readC_24 : decode cX4_readC 24 = .ok (.aload_n 0, 1) := by decide +kernel
theorem dX4_readC_25 : decode cX4_readC 25 = .ok (.bipush 61, 2) := by decide +kernel
theorem dX4_readC_27 : decode cX4_readC 27 = .ok (.invokevirtual 112, 3) := by decide +kernel
theorem dX4_readC_30 : decode cX4_readC 30 = .ok (.ifCond .ne 12, 3) := by decide +kernel
theorem dX4_readC_33 : decode cX4_readC 33 = .ok (.aload_n 0, 1) := by decide +kernel
theorem dX4_readC_34 : decode cX4_readC 34 = .ok (.bipush 10, 2) := by decide +kernel
theorem dX4_readC_36 : decode cX4_readC 36 = .ok (.invokevirtual 112, 3) := by decide +kernel
theorem dX4_readC_39 : decode cX4_readC 39 = .ok (.ifCond .eq 42, 3) := by decide +kernel
theorem dX4_readC_42 : decode cX4_readC 42 = .ok (.aload_n 0, 1) := by decide +kernel
theorem dX4_readC_43 : decode cX4_readC 43 = .ok (.aload_n 0, 1) := by decide +kernel
theorem dX4_readC_44 : decode cX4_readC 44 = .ok (.getfield 12, 3) := by decide +kernel
theorem dX4_readC_47 : decode cX4_readC 47 = .ok (.getfield 49, 3) := by decide +kernel
theorem dX4_readC_50 : decode cX4_readC 50 = .ok (.lconst 0, 1) := by decide +kernel
theorem dX4_readC_51 : decode cX4_readC 51 = .ok (.invokevirtual 102, 3) := by decide +kernel
theorem dX4_readC_54 : decode cX4_readC 54 = .ok (.istore_n 3, 1) := by decide +kernel
theorem dX4_readC_55 : decode cX4_readC 55 = .ok (.aload_n 0, 1) := by decide +kernel
theorem dX4_readC_56 : decode cX4_readC 56 = .ok (.getfield 21, 3) := by decide +kernel
theorem dX4_readC_59 : decode cX4_readC 59 = .ok (.iload_n 3, 1) := by decide +kernel
theorem dX4_readC_60 : decode cX4_readC 60 = .ok (.iconst 0, 1) := by decide +kernel
theorem dX4_readC_61 : decode cX4_readC 61 = .ok (.iload_n 2, 1) := by decide +kernel
theorem dX4_readC_62 : decode cX4_readC 62 = .ok (.invokevirtual 105, 3) := by decide +kernel
theorem dX4_readC_65 : decode cX4_readC 65 = .ok (.aload_n 0, 1) := by decide +kernel
theorem dX4_readC_66 : decode cX4_readC 66 = .ok (.getfield 21, 3) := by decide +kernel
theorem dX4_readC_69 : decode cX4_readC 69 = .ok (.iload_n 3, 1) := by decide +kernel
theorem dX4_readC_70 : decode cX4_readC 70 = .ok (.iconst 1, 1) := by decide +kernel
theorem dX4_readC_71 : decode cX4_readC 71 = .ok (.aload_n 0, 1) := by decide +kernel
theorem dX4_readC_72 : decode cX4_readC 72 = .ok (.iload_n 1, 1) := by decide +kernel
theorem dX4_readC_73 : decode cX4_readC 73 = .ok (.invokevirtual 109, 3) := by decide +kernel
theorem dX4_readC_76 : decode cX4_readC 76 = .ok (.invokevirtual 105, 3) := by decide +kernel
theorem dX4_readC_79 : decode cX4_readC 79 = .ok (.iload_n 3, 1) := by decide +kernel
theorem dX4_readC_80 : decode cX4_readC 80 = .ok (.ireturn, 1) := by decide +kernel
theorem dX4_readC_81 : decode cX4_readC 81 = .ok (.iload_n 2, 1) := by decide +kernel
theorem dX4_readC_82 : decode cX4_readC 82 = .ok (.ireturn, 1) := by decide +kernel
theorem dX4_readA_0 : decode cX4_readA 0 = .ok (.aload_n 0, 1) := by decide +kernel
theorem dX4_readA_1 : decode cX4_readA 1 = .ok (.iload_n 1, 1) := by decide +kernel
theorem dX4_readA_2 : decode cX4_readA 2 = .ok (.invokevirtual 116, 3) := by decide +kernel
theorem dX4_readA_5 : decode cX4_readA 5 = .ok (.istore_n 2, 1) := by decide +kernel
theorem dX4_readA_6 : decode cX4_readA 6 = .ok (.iconst 0, 1) := by decide +kernel
theorem dX4_readA_7 : decode cX4_readA 7 = .ok (.istore_n 3, 1) := by decide +kernel
theorem dX4_readA_8 : decode cX4_readA 8 = .ok (.iload_n 3, 1) := by decide +kernel
theorem dX4_readA_9 : decode cX4_readA 9 = .ok (.sipush 300, 3) := by decide +kernel
theorem dX4_readA_12 : decode cX4_readA 12 = .ok (.if_icmp .gt 70, 3) := by decide +kernel
theorem dX4_readA_15 : decode cX4_readA 15 = .ok (.aload_n 0, 1) := by decide +kernel
theorem dX4_readA_16 : decode cX4_readA 16 = .ok (.bipush 43, 2) := by decide +kernel
theorem dX4_readA_18 : decode cX4_readA 18 = .ok (.invokevirtual 112, 3) := by decide +kernel
theorem dX4_readA_21 : decode cX4_readA 21 = .ok (.ifCond .ne 12, 3) := by decide +kernel
theorem dX4_readA_24 : decode cX4_readA 24 = .ok (.aload_n 0, 1) := by decide +kernel
theorem dX4_readA_25 : decode cX4_readA 25 = .ok (.bipush 45, 2) := by decide +kernel
theorem dX4_readA_27 : decode cX4_readA 27 = .ok (.invokevirtual 112, 3) := by decide +kernel
theorem dX4_readA_30 : decode cX4_readA 30 = .ok (.ifCond .eq 52, 3) := by decide +kernel
theorem dX4_readA_33 : decode cX4_readA 33 = .ok (.aload_n 0, 1) := by decide +kernel
theorem dX4_readA_34 : decode cX4_readA 34 = .ok (.aload_n 0, 1) := by decide +kernel
theorem dX4_readA_35 : decode cX4_readA 35 = .ok (.getfield 12, 3) := by decide +kernel
theorem dX4_readA_38 : decode cX4_readA 38 = .ok (.getfield 49, 3) := by decide +kernel
theorem dX4_readA_41 : decode cX4_readA 41 = .ok (.lconst 0, 1) := by decide +kernel
theorem dX4_readA_42 : decode cX4_readA 42 = .ok (.invokevirtual 102, 3) := by decide +kernel
theorem dX4_readA_45 : decode cX4_readA 45 = .ok (.istore 4, 2) := by decide +kernel
theorem dX4_readA_47 : decode cX4_readA 47 = .ok (.aload_n 0, 1) := by decide +kernel
theorem dX4_readA_48 : decode cX4_readA 48 = .ok (.getfield 21, 3) := by decide +kernel
theorem dX4_readA_51 : decode cX4_readA 51 = .ok (.iload 4, 2) := by decide +kernel
theorem dX4_readA_53 : decode cX4_readA 53 = .ok (.iconst 0, 1) := by decide +kernel
theorem dX4_readA_54 : decode cX4_readA 54 = .ok (.iload_n 2, 1) := by decide +kernel
theorem dX4_readA_55 : decode cX4_readA 55 = .ok (.invokevirtual 105, 3) := by decide +kernel
theorem dX4_readA_58 : decode cX4_readA 58 = .ok (.aload_n 0, 1) := by decide +kernel
theorem dX4_readA_59 : decode cX4_readA 59 = .ok (.getfield 21, 3) := by decide +kernel
theorem dX4_readA_62 : decode cX4_readA 62 = .ok (.iload 4, 2) := by decide +kernel
theorem dX4_readA_64 : decode cX4_readA 64 = .ok (.iconst 1, 1) := by decide +kernel
theorem dX4_readA_65 : decode cX4_readA 65 = .ok (.aload_n 0, 1) := by decide +kernel
theorem dX4_readA_66 : decode cX4_readA 66 = .ok (.iload_n 1, 1) := by decide +kernel
theorem dX4_readA_67 : decode cX4_readA 67 = .ok (.invokevirtual 116, 3) := by decide +kernel
theorem dX4_readA_70 : decode cX4_readA 70 = .ok (.invokevirtual 105, 3) := by decide +kernel
theorem dX4_readA_73 : decode cX4_readA 73 = .ok (.iload 4, 2) := by decide +kernel
theorem dX4_readA_75 : decode cX4_readA 75 = .ok (.istore_n 2, 1) := by decide +kernel
theorem dX4_readA_76 : decode cX4_readA 76 = .ok (.iinc 3 1, 3) := by decide +kernel
theorem dX4_readA_79 : decode cX4_readA 79 = .ok (.goto (-71), 3) := by decide +kernel
theorem dX4_readA_82 : decode cX4_readA 82 = .ok (.iload_n 2, 1) := by decide +kernel
theorem dX4_readA_83 : decode cX4_readA 83 = .ok (.ireturn, 1) := by decide +kernel
theorem dX4_readM_0 : decode cX4_readM 0 = .ok (.aload_n 0, 1) := by decide +kernel
theorem dX4_readM_1 : decode cX4_readM 1 = .ok (.iload_n 1, 1) := by decide +kernel
theorem dX4_readM_2 : decode cX4_readM 2 = .ok (.iconst 1, 1) := by decide +kernel
theorem dX4_readM_3 : decode cX4_readM 3 = .ok (.iadd, 1) := by decide +kernel
theorem dX4_readM_4 : decode cX4_readM 4 = .ok (.invokevirtual 119, 3) := by decide +kernel
theorem dX4_readM_7 : decode cX4_readM 7 = .ok (.istore_n 2, 1) := by decide +kernel
theorem dX4_readM_8 : decode cX4_readM 8 = .ok (.iconst 0, 1) := by decide +kernel
theorem dX4_readM_9 : decode cX4_readM 9 = .ok (.istore_n 3, 1) := by decide +kernel
theorem dX4_readM_10 : decode cX4_readM 10 = .ok (.iload_n 3, 1) := by decide +kernel
theorem dX4_readM_11 : decode cX4_readM 11 = .ok (.sipush 300, 3) := by decide +kernel
theorem dX4_readM_14 : decode cX4_readM 14 = .ok (.if_icmp .gt 81, 3) := by decide +kernel
theorem dX4_readM_17 : decode cX4_readM 17 = .ok (.aload_n 0, 1) := by decide +kernel
theorem dX4_readM_18 : decode cX4_readM 18 = .ok (.bipush 42, 2) := by decide +kernel
theorem dX4_readM_20 : decode cX4_readM 20 = .ok (.invokevirtual 112, 3) := by decide +kernel
theorem dX4_readM_23 : decode cX4_readM 23 = .ok (.ifCond .ne 21, 3) := by decide +kernel
theorem dX4_readM_26 : decode cX4_readM 26 = .ok (.aload_n 0, 1) := by decide +kernel
theorem dX4_readM_27 : decode cX4_readM 27 = .ok (.bipush 47, 2) := by decide +kernel
theorem dX4_readM_29 : decode cX4_readM 29 = .ok (.invokevirtual 112, 3) := by decide +kernel
theorem dX4_readM_32 : decode cX4_readM 32 = .ok (.ifCond .ne 12, 3) := by decide +kernel
theorem dX4_readM_35 : decode cX4_readM 35 = .ok (.aload_n 0, 1) := by decide +kernel
theorem dX4_readM_36 : decode cX4_readM 36 = .ok (.bipush 37, 2) := by decide +kernel
theorem dX4_readM_38 : decode cX4_readM 38 = .ok (.invokevirtual 112, 3) := by decide +kernel
theorem dX4_readM_41 : decode cX4_readM 41 = .ok (.ifCond .eq 54, 3) := by decide +kernel
theorem dX4_readM_44 : decode cX4_readM 44 = .ok (.aload_n 0, 1) := by decide +kernel
theorem dX4_readM_45 : decode cX4_readM 45 = .ok (.aload_n 0, 1) := by decide +kernel
theorem dX4_readM_46 : decode cX4_readM 46 = .ok (.getfield 12, 3) := by decide +kernel
theorem dX4_readM_49 : decode cX4_readM 49 = .ok (.getfield 49, 3) := by decide +kernel
theorem dX4_readM_52 : decode cX4_readM 52 = .ok (.lconst 0, 1) := by decide +kernel
theorem dX4_readM_53 : decode cX4_readM 53 = .ok (.invokevirtual 102, 3) := by decide +kernel
theorem dX4_readM_56 : decode cX4_readM 56 = .ok (.istore 4, 2) := by decide +kernel
theorem dX4_readM_58 : decode cX4_readM 58 = .ok (.aload_n 0, 1) := by decide +kernel
theorem dX4_readM_59 : decode cX4_readM 59 = .ok (.getfield 21, 3) := by decide +kernel
theorem dX4_readM_62 : decode cX4_readM 62 = .ok (.iload 4, 2) := by decide +kernel
theorem dX4_readM_64 : decode cX4_readM 64 = .ok (.iconst 0, 1) := by decide +kernel
theorem dX4_readM_65 : decode cX4_readM 65 = .ok (.iload_n 2, 1) := by decide +kernel
theorem dX4_readM_66 : decode cX4_readM 66 = .ok (.invokevirtual 105, 3) := by decide +kernel
theorem dX4_readM_69 : decode cX4_readM 69 = .ok (.aload_n 0, 1) := by decide +kernel
theorem dX4_readM_70 : decode cX4_readM 70 = .ok (.getfield 21, 3) := by decide +kernel
theorem dX4_readM_73 : decode cX4_readM 73 = .ok (.iload 4, 2) := by decide +kernel
theorem dX4_readM_75 : decode cX4_readM 75 = .ok (.iconst 1, 1) := by decide +kernel
theorem dX4_readM_76 : decode cX4_readM 76 = .ok (.aload_n 0, 1) := by decide +kernel
theorem dX4_readM_77 : decode cX4_readM 77 = .ok (.iload_n 1, 1) := by decide +kernel
theorem dX4_readM_78 : decode cX4_readM 78 = .ok (.iconst 1, 1) := by decide +kernel
theorem dX4_readM_79 : decode cX4_readM 79 = .ok (.iadd, 1) := by decide +kernel
theorem dX4_readM_80 : decode cX4_readM 80 = .ok (.invokevirtual 119, 3) := by decide +kernel
theorem dX4_readM_83 : decode cX4_readM 83 = .ok (.invokevirtual 105, 3) := by decide +kernel
theorem dX4_readM_86 : decode cX4_readM 86 = .ok (.iload 4, 2) := by decide +kernel
theorem dX4_readM_88 : decode cX4_readM 88 = .ok (.istore_n 2, 1) := by decide +kernel
theorem dX4_readM_89 : decode cX4_readM 89 = .ok (.iinc 3 1, 3) := by decide +kernel
theorem dX4_readM_92 : decode cX4_readM 92 = .ok (.goto (-82), 3) := by decide +kernel
theorem dX4_readM_95 : decode cX4_readM 95 = .ok (.iload_n 2, 1) := by decide +kernel
theorem dX4_readM_96 : decode cX4_readM 96 = .ok (.ireturn, 1) := by decide +kernel
theorem dX4_readU_0 : decode cX4_readU 0 = .ok (.aload_n 0, 1) := by decide +kernel
theorem dX4_readU_1 : decode cX4_readU 1 = .ok (.aload_n 0, 1) := by decide +kernel
theorem dX4_readU_2 : decode cX4_readU 2 = .ok (.invokevirtual 91, 3) := by decide +kernel
theorem dX4_readU_5 : decode cX4_readU 5 = .ok (.iload_n 1, 1) := by decide +kernel
theorem dX4_readU_6 : decode cX4_readU 6 = .ok (.invokevirtual 95, 3) := by decide +kernel
theorem dX4_readU_9 : decode cX4_readU 9 = .ok (.ifCond .ne 5, 3) := by decide +kernel
theorem dX4_readU_12 : decode cX4_readU 12 = .ok (.iconst (-1), 1) := by decide +kernel
theorem dX4_readU_13 : decode cX4_readU 13 = .ok (.ireturn, 1) := by decide +kernel
theorem dX4_readU_14 : decode cX4_readU 14 = .ok (.aload_n 0, 1) := by decide +kernel
theorem dX4_readU_15 : decode cX4_readU 15 = .ok (.getfield 12, 3) := by decide +kernel
theorem dX4_readU_18 : decode cX4_readU 18 = .ok (.getfield 49, 3) := by decide +kernel
theorem dX4_readU_21 : decode cX4_readU 21 = .ok (.bipush 45, 2) := by decide +kernel
theorem dX4_readU_23 : decode cX4_readU 23 = .ok (.if_icmp .ne 28, 3) := by decide +kernel
theorem dX4_readU_26 : decode cX4_readU 26 = .ok (.aload_n 0, 1) := by decide +kernel
theorem dX4_readU_27 : decode cX4_readU 27 = .ok (.iconst 5, 1) := by decide +kernel
theorem dX4_readU_28 : decode cX4_readU 28 = .ok (.lconst 0, 1) := by decide +kernel
theorem dX4_readU_29 : decode cX4_readU 29 = .ok (.invokevirtual 102, 3) := by decide +kernel
theorem dX4_readU_32 : decode cX4_readU 32 = .ok (.istore_n 2, 1) := by decide +kernel
theorem dX4_readU_33 : decode cX4_readU 33 = .ok (.aload_n 0, 1) := by decide +kernel
theorem dX4_readU_34 : decode cX4_readU 34 = .ok (.getfield 21, 3) := by decide +kernel
theorem dX4_readU_37 : decode cX4_readU 37 = .ok (.iload_n 2, 1) := by decide +kernel
theorem dX4_readU_38 : decode cX4_readU 38 = .ok (.iconst 0, 1) := by decide +kernel
theorem dX4_readU_39 : decode cX4_readU 39 = .ok (.aload_n 0, 1) := by decide +kernel
theorem dX4_readU_40 : decode cX4_readU 40 = .ok (.iload_n 1, 1) := by decide +kernel
theorem dX4_readU_41 : decode cX4_readU 41 = .ok (.iconst 1, 1) := by decide +kernel
theorem dX4_readU_42 : decode cX4_readU 42 = .ok (.iadd, 1) := by decide +kernel
theorem dX4_readU_43 : decode cX4_readU 43 = .ok (.invokevirtual 119, 3) := by decide +kernel
theorem dX4_readU_46 : decode cX4_readU 46 = .ok (.invokevirtual 105, 3) := by decide +kernel
theorem dX4_readU_49 : decode cX4_readU 49 = .ok (.iload_n 2, 1) := by decide +kernel
theorem dX4_readU_50 : decode cX4_readU 50 = .ok (.ireturn, 1) := by decide +kernel
theorem dX4_readU_51 : decode cX4_readU 51 = .ok (.aload_n 0, 1) := by decide +kernel
theorem dX4_readU_52 : decode cX4_readU 52 = .ok (.iload_n 1, 1) := by decide +kernel
theorem dX4_readU_53 : decode cX4_readU 53 = .ok (.invokevirtual 122, 3) := by decide +kernel
theorem dX4_readU_56 : decode cX4_readU 56 = .ok (.istore_n 2, 1) := by decide +kernel
theorem dX4_readU_57 : decode cX4_readU 57 = .ok (.iconst 0, 1) := by decide +kernel
theorem dX4_readU_58 : decode cX4_readU 58 = .ok (.istore_n 3, 1) := by decide +kernel
theorem dX4_readU_59 : decode cX4_readU 59 = .ok (.iload_n 3, 1) := by decide +kernel
theorem dX4_readU_60 : decode cX4_readU 60 = .ok (.sipush 300, 3) := by decide +kernel
theorem dX4_readU_63 : decode cX4_readU 63 = .ok (.if_icmp .gt 64, 3) := by decide +kernel
theorem dX4_readU_66 : decode cX4_readU 66 = .ok (.aload_n 0, 1) := by decide +kernel
theorem dX4_readU_67 : decode cX4_readU 67 = .ok (.bipush 91, 2) := by decide +kernel
theorem dX4_readU_69 : decode cX4_readU 69 = .ok (.invokevirtual 112, 3) := by decide +kernel
theorem dX4_readU_72 : decode cX4_readU 72 = .ok (.ifCond .eq 55, 3) := by decide +kernel
theorem dX4_readU_75 : decode cX4_readU 75 = .ok (.aload_n 0, 1) := by decide +kernel
theorem dX4_readU_76 : decode cX4_readU 76 = .ok (.bipush 91, 2) := by decide +kernel
theorem dX4_readU_78 : decode cX4_readU 78 = .ok (.lconst 0, 1) := by decide +kernel
theorem dX4_readU_79 : decode cX4_readU 79 = .ok (.invokevirtual 102, 3) := by decide +kernel
theorem dX4_readU_82 : decode cX4_readU 82 = .ok (.istore 4, 2) := by decide +kernel
theorem dX4_readU_84 : decode cX4_readU 84 = .ok (.aload_n 0, 1) := by decide +kernel
theorem dX4_readU_85 : decode cX4_readU 85 = .ok (.getfield 21, 3) := by decide +kernel
theorem dX4_readU_88 : decode cX4_readU 88 = .ok (.iload 4, 2) := by decide +kernel
theorem dX4_readU_90 : decode cX4_readU 90 = .ok (.iconst 0, 1) := by decide +kernel
theorem dX4_readU_91 : decode cX4_readU 91 = .ok (.iload_n 2, 1) := by decide +kernel
theorem dX4_readU_92 : decode cX4_readU 92 = .ok (.invokevirtual 105, 3) := by decide +kernel
theorem dX4_readU_95 : decode cX4_readU 95 = .ok (.aload_n 0, 1) := by decide +kernel
theorem dX4_readU_96 : decode cX4_readU 96 = .ok (.getfield 21, 3) := by decide +kernel
theorem dX4_readU_99 : decode cX4_readU 99 = .ok (.iload 4, 2) := by decide +kernel
theorem dX4_readU_101 : decode cX4_readU 101 = .ok (.iconst 1, 1) := by decide +kernel
theorem dX4_readU_102 : decode cX4_readU 102 = .ok (.aload_n 0, 1) := by decide +kernel
theorem dX4_readU_103 : decode cX4_readU 103 = .ok (.iload_n 1, 1) := by decide +kernel
theorem dX4_readU_104 : decode cX4_readU 104 = .ok (.iconst 1, 1) := by decide +kernel
theorem dX4_readU_105 : decode cX4_readU 105 = .ok (.iadd, 1) := by decide +kernel
theorem dX4_readU_106 : decode cX4_readU 106 = .ok (.invokevirtual 70, 3) := by decide +kernel
theorem dX4_readU_109 : decode cX4_readU 109 = .ok (.invokevirtual 105, 3) := by decide +kernel
theorem dX4_readU_112 : decode cX4_readU 112 = .ok (.aload_n 0, 1) := by decide +kernel
theorem dX4_readU_113 : decode cX4_readU 113 = .ok (.bipush 93, 2) := by decide +kernel
theorem dX4_readU_115 : decode cX4_readU 115 = .ok (.invokevirtual 59, 3) := by decide +kernel
theorem dX4_readU_118 : decode cX4_readU 118 = .ok (.iload 4, 2) := by decide +kernel
theorem dX4_readU_120 : decode cX4_readU 120 = .ok (.istore_n 2, 1) := by decide +kernel
theorem dX4_readU_121 : decode cX4_readU 121 = .ok (.iinc 3 1, 3) := by decide +kernel
theorem dX4_readU_124 : decode cX4_readU 124 = .ok (.goto (-65), 3) := by decide +kernel
theorem dX4_readU_127 : decode cX4_readU 127 = .ok (.iload_n 2, 1) := by decide +kernel
theorem dX4_readU_128 : decode cX4_readU 128 = .ok (.ireturn, 1) := by decide +kernel
theorem dX4_readP_0 : decode cX4_readP 0 = .ok (.aload_n 0, 1) := by decide +kernel
theorem dX4_readP_1 : decode cX4_readP 1 = .ok (.getfield 12, 3) := by decide +kernel
theorem dX4_readP_4 : decode cX4_readP 4 = .ok (.getfield 49, 3) := by decide +kernel
theorem dX4_readP_7 : decode cX4_readP 7 = .ok (.lookupswitch 203 #[(2, 102), (3, 57), (4, 70), (40, 179), (131, 93), (146, 173)], 57) := by decide +kernel
theorem dX4_readP_64 : decode cX4_readP 64 = .ok (.aload_n 0, 1) := by decide +kernel
theorem dX4_readP_65 : decode cX4_readP 65 = .ok (.iconst 3, 1) := by decide +kernel
theorem dX4_readP_66 : decode cX4_readP 66 = .ok (.aload_n 0, 1) := by decide +kernel
theorem dX4_readP_67 : decode cX4_readP 67 = .ok (.getfield 12, 3) := by decide +kernel
theorem dX4_readP_70 : decode cX4_readP 70 = .ok (.getfield 62, 3) := by decide +kernel
theorem dX4_readP_73 : decode cX4_readP 73 = .ok (.invokevirtual 102, 3) := by decide +kernel
theorem dX4_readP_76 : decode cX4_readP 76 = .ok (.ireturn, 1) := by decide +kernel
theorem dX4_readP_77 : decode cX4_readP 77 = .ok (.aload_n 0, 1) := by decide +kernel
theorem dX4_readP_78 : decode cX4_readP 78 = .ok (.iconst 4, 1) := by decide +kernel
theorem dX4_readP_79 : decode cX4_readP 79 = .ok (.aload_n 0, 1) := by decide +kernel
theorem dX4_readP_80 : decode cX4_readP 80 = .ok (.getfield 12, 3) := by decide +kernel
theorem dX4_readP_83 : decode cX4_readP 83 = .ok (.getfield 62, 3) := by decide +kernel
theorem dX4_readP_86 : decode cX4_readP 86 = .ok (.aload_n 0, 1) := by decide +kernel
theorem dX4_readP_87 : decode cX4_readP 87 = .ok (.getfield 12, 3) := by decide +kernel
theorem dX4_readP_90 : decode cX4_readP 90 = .ok (.getfield 125, 3) := by decide +kernel
theorem dX4_readP_93 : decode cX4_readP 93 = .ok (.invokestatic 128, 3) := by decide +kernel
theorem dX4_readP_96 : decode cX4_readP 96 = .ok (.invokevirtual 102, 3) := by decide +kernel
theorem dX4_readP_99 : decode cX4_readP 99 = .ok (.ireturn, 1) := by decide +kernel
theorem dX4_readP_100 : decode cX4_readP 100 = .ok (.aload_n 0, 1) := by decide +kernel
theorem dX4_readP_101 : decode cX4_readP 101 = .ok (.sipush 131, 3) := by decide +kernel
theorem dX4_readP_104 : decode cX4_readP 104 = .ok (.lconst 0, 1) := by decide +kernel
theorem dX4_readP_105 : decode cX4_readP 105 = .ok (.invokevirtual 102, 3) := by decide +kernel
theorem dX4_readP_108 : decode cX4_readP 108 = .ok (.ireturn, 1) := by decide +kernel
theorem dX4_readP_109 : decode cX4_readP 109 = .ok (.aload_n 0, 1) := by decide +kernel
theorem dX4_readP_110 : decode cX4_readP 110 = .ok (.aload_n 0, 1) := by decide +kernel
theorem dX4_readP_111 : decode cX4_readP 111 = .ok (.getfield 12, 3) := by decide +kernel
theorem dX4_readP_114 : decode cX4_readP 114 = .ok (.getfield 62, 3) := by decide +kernel
theorem dX4_readP_117 : decode cX4_readP 117 = .ok (.invokevirtual 134, 3) := by decide +kernel
theorem dX4_readP_120 : decode cX4_readP 120 = .ok (.istore_n 2, 1) := by decide +kernel
theorem dX4_readP_121 : decode cX4_readP 121 = .ok (.aload_n 0, 1) := by decide +kernel
theorem dX4_readP_122 : decode cX4_readP 122 = .ok (.getfield 21, 3) := by decide +kernel
theorem dX4_readP_125 : decode cX4_readP 125 = .ok (.aload_n 0, 1) := by decide +kernel
theorem dX4_readP_126 : decode cX4_readP 126 = .ok (.getfield 12, 3) := by decide +kernel
theorem dX4_readP_129 : decode cX4_readP 129 = .ok (.getfield 62, 3) := by decide +kernel
theorem dX4_readP_132 : decode cX4_readP 132 = .ok (.invokevirtual 66, 3) := by decide +kernel
theorem dX4_readP_135 : decode cX4_readP 135 = .ok (.istore_n 3, 1) := by decide +kernel
theorem dX4_readP_136 : decode cX4_readP 136 = .ok (.iload_n 2, 1) := by decide +kernel
theorem dX4_readP_137 : decode cX4_readP 137 = .ok (.iconst (-1), 1) := by decide +kernel
theorem dX4_readP_138 : decode cX4_readP 138 = .ok (.if_icmp .eq 12, 3) := by decide +kernel
theorem dX4_readP_141 : decode cX4_readP 141 = .ok (.aload_n 0, 1) := by decide +kernel
theorem dX4_readP_142 : decode cX4_readP 142 = .ok (.bipush 6, 2) := by decide +kernel
theorem dX4_readP_144 : decode cX4_readP 144 = .ok (.iload_n 2, 1) := by decide +kernel
theorem dX4_readP_145 : decode cX4_readP 145 = .ok (.i2l, 1) := by decide +kernel
theorem dX4_readP_146 : decode cX4_readP 146 = .ok (.invokevirtual 102, 3) := by decide +kernel
theorem dX4_readP_149 : decode cX4_readP 149 = .ok (.ireturn, 1) := by decide +kernel
theorem dX4_readP_150 : decode cX4_readP 150 = .ok (.iload_n 3, 1) := by decide +kernel
theorem dX4_readP_151 : decode cX4_readP 151 = .ok (.iconst (-1), 1) := by decide +kernel
theorem dX4_readP_152 : decode cX4_readP 152 = .ok (.if_icmp .eq 14, 3) := by decide +kernel
theorem dX4_readP_155 : decode cX4_readP 155 = .ok (.aload_n 0, 1) := by decide +kernel
theorem dX4_readP_156 : decode cX4_readP 156 = .ok (.bipush 7, 2) := by decide +kernel
theorem dX4_readP_158 : decode cX4_readP 158 = .ok (.iload_n 3, 1) := by decide +kernel
theorem dX4_readP_159 : decode cX4_readP 159 = .ok (.i2l, 1) := by decide +kernel
theorem dX4_readP_160 : decode cX4_readP 160 = .ok (.invokevirtual 102, 3) := by decide +kernel
theorem dX4_readP_163 : decode cX4_readP 163 = .ok (.goto 16, 3) := by decide +kernel
theorem dX4_readP_166 : decode cX4_readP 166 = .ok (.aload_n 0, 1) := by decide +kernel
theorem dX4_readP_167 : decode cX4_readP 167 = .ok (.bipush 8, 2) := by decide +kernel
theorem dX4_readP_169 : decode cX4_readP 169 = .ok (.aload_n 0, 1) := by decide +kernel
theorem dX4_readP_170 : decode cX4_readP 170 = .ok (.getfield 12, 3) := by decide +kernel
theorem dX4_readP_173 : decode cX4_readP 173 = .ok (.getfield 62, 3) := by decide +kernel
theorem dX4_readP_176 : decode cX4_readP 176 = .ok (.invokevirtual 102, 3) := by decide +kernel
theorem dX4_readP_179 : decode cX4_readP 179 = .ok (.ireturn, 1) := by decide +kernel
theorem dX4_readP_180 : decode cX4_readP 180 = .ok (.aload_n 0, 1) := by decide +kernel
theorem dX4_readP_181 : decode cX4_readP 181 = .ok (.iload_n 1, 1) := by decide +kernel
theorem dX4_readP_182 : decode cX4_readP 182 = .ok (.invokevirtual 137, 3) := by decide +kernel
theorem dX4_readP_185 : decode cX4_readP 185 = .ok (.ireturn, 1) := by decide +kernel
theorem dX4_readP_186 : decode cX4_readP 186 = .ok (.aload_n 0, 1) := by decide +kernel
theorem dX4_readP_187 : decode cX4_readP 187 = .ok (.bipush 40, 2) := by decide +kernel
theorem dX4_readP_189 : decode cX4_readP 189 = .ok (.invokevirtual 59, 3) := by decide +kernel
theorem dX4_readP_192 : decode cX4_readP 192 = .ok (.aload_n 0, 1) := by decide +kernel
theorem dX4_readP_193 : decode cX4_readP 193 = .ok (.iload_n 1, 1) := by decide +kernel
theorem dX4_readP_194 : decode cX4_readP 194 = .ok (.iconst 1, 1) := by decide +kernel
theorem dX4_readP_195 : decode cX4_readP 195 = .ok (.iadd, 1) := by decide +kernel
theorem dX4_readP_196 : decode cX4_readP 196 = .ok (.invokevirtual 70, 3) := by decide +kernel
theorem dX4_readP_199 : decode cX4_readP 199 = .ok (.istore 4, 2) := by decide +kernel
theorem dX4_readP_201 : decode cX4_readP 201 = .ok (.aload_n 0, 1) := by decide +kernel
theorem dX4_readP_202 : decode cX4_readP 202 = .ok (.bipush 41, 2) := by decide +kernel
theorem dX4_readP_204 : decode cX4_readP 204 = .ok (.invokevirtual 59, 3) := by decide +kernel
theorem dX4_readP_207 : decode cX4_readP 207 = .ok (.iload 4, 2) := by decide +kernel
theorem dX4_readP_209 : decode cX4_readP 209 = .ok (.ireturn, 1) := by decide +kernel
theorem dX4_readP_210 : decode cX4_readP 210 = .ok (.aload_n 0, 1) := by decide +kernel
theorem dX4_readP_211 : decode cX4_readP 211 = .ok (.iload_n 1, 1) := by decide +kernel
theorem dX4_readP_212 : decode cX4_readP 212 = .ok (.invokevirtual 140, 3) := by decide +kernel
theorem dX4_readP_215 : decode cX4_readP 215 = .ok (.ireturn, 1) := by decide +kernel
theorem dX4_sumOf_0 : decode cX4_sumOf 0 = .ok (.aload_n 0, 1) := by decide +kernel
theorem dX4_sumOf_1 : decode cX4_sumOf 1 = .ok (.getfield 43, 3) := by decide +kernel
theorem dX4_sumOf_4 : decode cX4_sumOf 4 = .ok (.iconst 1, 1) := by decide +kernel
theorem dX4_sumOf_5 : decode cX4_sumOf 5 = .ok (.isub, 1) := by decide +kernel
theorem dX4_sumOf_6 : decode cX4_sumOf 6 = .ok (.istore_n 3, 1) := by decide +kernel
theorem dX4_sumOf_7 : decode cX4_sumOf 7 = .ok (.iload_n 3, 1) := by decide +kernel
theorem dX4_sumOf_8 : decode cX4_sumOf 8 = .ok (.ifCond .lt 27, 3) := by decide +kernel
theorem dX4_sumOf_11 : decode cX4_sumOf 11 = .ok (.aload_n 0, 1) := by decide +kernel
theorem dX4_sumOf_12 : decode cX4_sumOf 12 = .ok (.getfield 25, 3) := by decide +kernel
theorem dX4_sumOf_15 : decode cX4_sumOf 15 = .ok (.iload_n 3, 1) := by decide +kernel
theorem dX4_sumOf_16 : decode cX4_sumOf 16 = .ok (.laload, 1) := by decide +kernel
theorem dX4_sumOf_17 : decode cX4_sumOf 17 = .ok (.lload_n 1, 1) := by decide +kernel
theorem dX4_sumOf_18 : decode cX4_sumOf 18 = .ok (.lcmp, 1) := by decide +kernel
theorem dX4_sumOf_19 : decode cX4_sumOf 19 = .ok (.ifCond .ne 10, 3) := by decide +kernel
theorem dX4_sumOf_22 : decode cX4_sumOf 22 = .ok (.aload_n 0, 1) := by decide +kernel
theorem dX4_sumOf_23 : decode cX4_sumOf 23 = .ok (.getfield 29, 3) := by decide +kernel
theorem dX4_sumOf_26 : decode cX4_sumOf 26 = .ok (.iload_n 3, 1) := by decide +kernel
theorem dX4_sumOf_27 : decode cX4_sumOf 27 = .ok (.iaload, 1) := by decide +kernel
theorem dX4_sumOf_28 : decode cX4_sumOf 28 = .ok (.ireturn, 1) := by decide +kernel
theorem dX4_sumOf_29 : decode cX4_sumOf 29 = .ok (.iinc 3 (-1), 3) := by decide +kernel
theorem dX4_sumOf_32 : decode cX4_sumOf 32 = .ok (.goto (-25), 3) := by decide +kernel
theorem dX4_sumOf_35 : decode cX4_sumOf 35 = .ok (.iconst (-1), 1) := by decide +kernel
theorem dX4_sumOf_36 : decode cX4_sumOf 36 = .ok (.ireturn, 1) := by decide +kernel
theorem dX4_readSum_0 : decode cX4_readSum 0 = .ok (.aload_n 0, 1) := by decide +kernel
theorem dX4_readSum_1 : decode cX4_readSum 1 = .ok (.sipush 146, 3) := by decide +kernel
theorem dX4_readSum_4 : decode cX4_readSum 4 = .ok (.lconst 0, 1) := by decide +kernel
theorem dX4_readSum_5 : decode cX4_readSum 5 = .ok (.invokevirtual 102, 3) := by decide +kernel
theorem dX4_readSum_8 : decode cX4_readSum 8 = .ok (.istore_n 2, 1) := by decide +kernel
theorem dX4_readSum_9 : decode cX4_readSum 9 = .ok (.aload_n 0, 1) := by decide +kernel
theorem dX4_readSum_10 : decode cX4_readSum 10 = .ok (.getfield 12, 3) := by decide +kernel
theorem dX4_readSum_13 : decode cX4_readSum 13 = .ok (.getfield 62, 3) := by decide +kernel
theorem dX4_readSum_16 : decode cX4_readSum 16 = .ok (.lstore_n 3, 1) := by decide +kernel
theorem dX4_readSum_17 : decode cX4_readSum 17 = .ok (.aload_n 0, 1) := by decide +kernel
theorem dX4_readSum_18 : decode cX4_readSum 18 = .ok (.iconst 2, 1) := by decide +kernel
theorem dX4_readSum_19 : decode cX4_readSum 19 = .ok (.invokevirtual 59, 3) := by decide +kernel
theorem dX4_readSum_22 : decode cX4_readSum 22 = .ok (.aload_n 0, 1) := by decide +kernel
theorem dX4_readSum_23 : decode cX4_readSum 23 = .ok (.sipush 134, 3) := by decide +kernel
theorem dX4_readSum_26 : decode cX4_readSum 26 = .ok (.invokevirtual 59, 3) := by decide +kernel
theorem dX4_readSum_29 : decode cX4_readSum 29 = .ok (.aload_n 0, 1) := by decide +kernel
theorem dX4_readSum_30 : decode cX4_readSum 30 = .ok (.getfield 21, 3) := by decide +kernel
theorem dX4_readSum_33 : decode cX4_readSum 33 = .ok (.iload_n 2, 1) := by decide +kernel
theorem dX4_readSum_34 : decode cX4_readSum 34 = .ok (.iconst 0, 1) := by decide +kernel
theorem dX4_readSum_35 : decode cX4_readSum 35 = .ok (.aload_n 0, 1) := by decide +kernel
theorem dX4_readSum_36 : decode cX4_readSum 36 = .ok (.iload_n 1, 1) := by decide +kernel
theorem dX4_readSum_37 : decode cX4_readSum 37 = .ok (.iconst 1, 1) := by decide +kernel
theorem dX4_readSum_38 : decode cX4_readSum 38 = .ok (.iadd, 1) := by decide +kernel
theorem dX4_readSum_39 : decode cX4_readSum 39 = .ok (.invokevirtual 70, 3) := by decide +kernel
theorem dX4_readSum_42 : decode cX4_readSum 42 = .ok (.invokevirtual 105, 3) := by decide +kernel
theorem dX4_readSum_45 : decode cX4_readSum 45 = .ok (.aload_n 0, 1) := by decide +kernel
theorem dX4_readSum_46 : decode cX4_readSum 46 = .ok (.sipush 148, 3) := by decide +kernel
theorem dX4_readSum_49 : decode cX4_readSum 49 = .ok (.invokevirtual 59, 3) := by decide +kernel
theorem dX4_readSum_52 : decode cX4_readSum 52 = .ok (.aload_n 0, 1) := by decide +kernel
theorem dX4_readSum_53 : decode cX4_readSum 53 = .ok (.getfield 21, 3) := by decide +kernel
theorem dX4_readSum_56 : decode cX4_readSum 56 = .ok (.iload_n 2, 1) := by decide +kernel
theorem dX4_readSum_57 : decode cX4_readSum 57 = .ok (.iconst 1, 1) := by decide +kernel
theorem dX4_readSum_58 : decode cX4_readSum 58 = .ok (.aload_n 0, 1) := by decide +kernel
theorem dX4_readSum_59 : decode cX4_readSum 59 = .ok (.iload_n 1, 1) := by decide +kernel
theorem dX4_readSum_60 : decode cX4_readSum 60 = .ok (.iconst 1, 1) := by decide +kernel
theorem dX4_readSum_61 : decode cX4_readSum 61 = .ok (.iadd, 1) := by decide +kernel
theorem dX4_readSum_62 : decode cX4_readSum 62 = .ok (.invokevirtual 70, 3) := by decide +kernel
theorem dX4_readSum_65 : decode cX4_readSum 65 = .ok (.invokevirtual 105, 3) := by decide +kernel
theorem dX4_readSum_68 : decode cX4_readSum 68 = .ok (.aload_n 0, 1) := by decide +kernel
theorem dX4_readSum_69 : decode cX4_readSum 69 = .ok (.sipush 142, 3) := by decide +kernel
theorem dX4_readSum_72 : decode cX4_readSum 72 = .ok (.invokevirtual 59, 3) := by decide +kernel
theorem dX4_readSum_75 : decode cX4_readSum 75 = .ok (.aload_n 0, 1) := by decide +kernel
theorem dX4_readSum_76 : decode cX4_readSum 76 = .ok (.getfield 36, 3) := by decide +kernel
theorem dX4_readSum_79 : decode cX4_readSum 79 = .ok (.ifCond .ne 68, 3) := by decide +kernel
theorem dX4_readSum_82 : decode cX4_readSum 82 = .ok (.aload_n 0, 1) := by decide +kernel
theorem dX4_readSum_83 : decode cX4_readSum 83 = .ok (.getfield 43, 3) := by decide +kernel
theorem dX4_readSum_86 : decode cX4_readSum 86 = .ok (.bipush 20, 2) := by decide +kernel
theorem dX4_readSum_88 : decode cX4_readSum 88 = .ok (.if_icmp .ge 59, 3) := by decide +kernel
theorem dX4_readSum_91 : decode cX4_readSum 91 = .ok (.aload_n 0, 1) := by decide +kernel
theorem dX4_readSum_92 : decode cX4_readSum 92 = .ok (.getfield 25, 3) := by decide +kernel
theorem dX4_readSum_95 : decode cX4_readSum 95 = .ok (.aload_n 0, 1) := by decide +kernel
theorem dX4_readSum_96 : decode cX4_readSum 96 = .ok (.getfield 43, 3) := by decide +kernel
theorem dX4_readSum_99 : decode cX4_readSum 99 = .ok (.lload_n 3, 1) := by decide +kernel
theorem dX4_readSum_100 : decode cX4_readSum 100 = .ok (.lastore, 1) := by decide +kernel
theorem dX4_readSum_101 : decode cX4_readSum 101 = .ok (.aload_n 0, 1) := by decide +kernel
theorem dX4_readSum_102 : decode cX4_readSum 102 = .ok (.getfield 29, 3) := by decide +kernel
theorem dX4_readSum_105 : decode cX4_readSum 105 = .ok (.aload_n 0, 1) := by decide +kernel
theorem dX4_readSum_106 : decode cX4_readSum 106 = .ok (.getfield 43, 3) := by decide +kernel
theorem dX4_readSum_109 : decode cX4_readSum 109 = .ok (.iload_n 2, 1) := by decide +kernel
theorem dX4_readSum_110 : decode cX4_readSum 110 = .ok (.iastore, 1) := by decide +kernel
theorem dX4_readSum_111 : decode cX4_readSum 111 = .ok (.aload_n 0, 1) := by decide +kernel
theorem dX4_readSum_112 : decode cX4_readSum 112 = .ok (.dup, 1) := by decide +kernel
theorem dX4_readSum_113 : decode cX4_readSum 113 = .ok (.getfield 43, 3) := by decide +kernel
theorem dX4_readSum_116 : decode cX4_readSum 116 = .ok (.iconst 1, 1) := by decide +kernel
theorem dX4_readSum_117 : decode cX4_readSum 117 = .ok (.iadd, 1) := by decide +kernel
theorem dX4_readSum_118 : decode cX4_readSum 118 = .ok (.putfield 43, 3) := by decide +kernel
theorem dX4_readSum_121 : decode cX4_readSum 121 = .ok (.aload_n 0, 1) := by decide +kernel
theorem dX4_readSum_122 : decode cX4_readSum 122 = .ok (.getfield 21, 3) := by decide +kernel
theorem dX4_readSum_125 : decode cX4_readSum 125 = .ok (.iload_n 2, 1) := by decide +kernel
theorem dX4_readSum_126 : decode cX4_readSum 126 = .ok (.iconst 2, 1) := by decide +kernel
theorem dX4_readSum_127 : decode cX4_readSum 127 = .ok (.aload_n 0, 1) := by decide +kernel
theorem dX4_readSum_128 : decode cX4_readSum 128 = .ok (.iload_n 1, 1) := by decide +kernel
theorem dX4_readSum_129 : decode cX4_readSum 129 = .ok (.iconst 1, 1) := by decide +kernel
theorem dX4_readSum_130 : decode cX4_readSum 130 = .ok (.iadd, 1) := by decide +kernel
theorem dX4_readSum_131 : decode cX4_readSum 131 = .ok (.invokevirtual 119, 3) := by decide +kernel
theorem dX4_readSum_134 : decode cX4_readSum 134 = .ok (.invokevirtual 105, 3) := by decide +kernel
theorem dX4_readSum_137 : decode cX4_readSum 137 = .ok (.aload_n 0, 1) := by decide +kernel
theorem dX4_readSum_138 : decode cX4_readSum 138 = .ok (.dup, 1) := by decide +kernel
theorem dX4_readSum_139 : decode cX4_readSum 139 = .ok (.getfield 43, 3) := by decide +kernel
theorem dX4_readSum_142 : decode cX4_readSum 142 = .ok (.iconst 1, 1) := by decide +kernel
theorem dX4_readSum_143 : decode cX4_readSum 143 = .ok (.isub, 1) := by decide +kernel
theorem dX4_readSum_144 : decode cX4_readSum 144 = .ok (.putfield 43, 3) := by decide +kernel
theorem dX4_readSum_147 : decode cX4_readSum 147 = .ok (.iload_n 2, 1) := by decide +kernel
theorem dX4_readSum_148 : decode cX4_readSum 148 = .ok (.ireturn, 1) := by decide +kernel
theorem dX4_readFunction_0 : decode cX4_readFunction 0 = .ok (.aload_n 0, 1) := by decide +kernel
theorem dX4_readFunction_1 : decode cX4_readFunction 1 = .ok (.getfield 12, 3) := by decide +kernel
theorem dX4_readFunction_4 : decode cX4_readFunction 4 = .ok (.getfield 49, 3) := by decide +kernel
theorem dX4_readFunction_7 : decode cX4_readFunction 7 = .ok (.invokestatic 88, 3) := by decide +kernel
theorem dX4_readFunction_10 : decode cX4_readFunction 10 = .ok (.istore_n 2, 1) := by decide +kernel
theorem dX4_readFunction_11 : decode cX4_readFunction 11 = .ok (.aload_n 0, 1) := by decide +kernel
theorem dX4_readFunction_12 : decode cX4_readFunction 12 = .ok (.aload_n 0, 1) := by decide +kernel
theorem dX4_readFunction_13 : decode cX4_readFunction 13 = .ok (.getfield 12, 3) := by decide +kernel
theorem dX4_readFunction_16 : decode cX4_readFunction 16 = .ok (.getfield 49, 3) := by decide +kernel
theorem dX4_readFunction_19 : decode cX4_readFunction 19 = .ok (.lconst 0, 1) := by decide +kernel
theorem dX4_readFunction_20 : decode cX4_readFunction 20 = .ok (.invokevirtual 102, 3) := by decide +kernel
theorem dX4_readFunction_23 : decode cX4_readFunction 23 = .ok (.istore_n 3, 1) := by decide +kernel
theorem dX4_readFunction_24 : decode cX4_readFunction 24 = .ok (.iconst 0, 1) := by decide +kernel
theorem dX4_readFunction_25 : decode cX4_readFunction 25 = .ok (.istore 4, 2) := by decide +kernel
theorem dX4_readFunction_27 : decode cX4_readFunction 27 = .ok (.iload 4, 2) := by decide +kernel
theorem dX4_readFunction_29 : decode cX4_readFunction 29 = .ok (.iload_n 2, 1) := by decide +kernel
theorem dX4_readFunction_30 : decode cX4_readFunction 30 = .ok (.if_icmp .ge 42, 3) := by decide +kernel
theorem dX4_readFunction_33 : decode cX4_readFunction 33 = .ok (.aload_n 0, 1) := by decide +kernel
theorem dX4_readFunction_34 : decode cX4_readFunction 34 = .ok (.iload 4, 2) := by decide +kernel
theorem dX4_readFunction_36 : decode cX4_readFunction 36 = .ok (.ifCond .ne 8, 3) := by decide +kernel
theorem dX4_readFunction_39 : decode cX4_readFunction 39 = .ok (.bipush 40, 2) := by decide +kernel
theorem dX4_readFunction_41 : decode cX4_readFunction 41 = .ok (.goto 5, 3) := by decide +kernel
theorem dX4_readFunction_44 : decode cX4_readFunction 44 = .ok (.bipush 44, 2) := by decide +kernel
theorem dX4_readFunction_46 : decode cX4_readFunction 46 = .ok (.invokevirtual 59, 3) := by decide +kernel
theorem dX4_readFunction_49 : decode cX4_readFunction 49 = .ok (.aload_n 0, 1) := by decide +kernel
theorem dX4_readFunction_50 : decode cX4_readFunction 50 = .ok (.getfield 21, 3) := by decide +kernel
theorem dX4_readFunction_53 : decode cX4_readFunction 53 = .ok (.iload_n 3, 1) := by decide +kernel
theorem dX4_readFunction_54 : decode cX4_readFunction 54 = .ok (.iload 4, 2) := by decide +kernel
theorem dX4_readFunction_56 : decode cX4_readFunction 56 = .ok (.aload_n 0, 1) := by decide +kernel
theorem dX4_readFunction_57 : decode cX4_readFunction 57 = .ok (.iload_n 1, 1) := by decide +kernel
theorem dX4_readFunction_58 : decode cX4_readFunction 58 = .ok (.iconst 1, 1) := by decide +kernel
theorem dX4_readFunction_59 : decode cX4_readFunction 59 = .ok (.iadd, 1) := by decide +kernel
theorem dX4_readFunction_60 : decode cX4_readFunction 60 = .ok (.invokevirtual 70, 3) := by decide +kernel
theorem dX4_readFunction_63 : decode cX4_readFunction 63 = .ok (.invokevirtual 105, 3) := by decide +kernel
theorem dX4_readFunction_66 : decode cX4_readFunction 66 = .ok (.iinc 4 1, 3) := by decide +kernel
theorem dX4_readFunction_69 : decode cX4_readFunction 69 = .ok (.goto (-42), 3) := by decide +kernel
theorem dX4_readFunction_72 : decode cX4_readFunction 72 = .ok (.aload_n 0, 1) := by decide +kernel
theorem dX4_readFunction_73 : decode cX4_readFunction 73 = .ok (.bipush 41, 2) := by decide +kernel
theorem dX4_readFunction_75 : decode cX4_readFunction 75 = .ok (.invokevirtual 59, 3) := by decide +kernel
theorem dX4_readFunction_78 : decode cX4_readFunction 78 = .ok (.iload_n 3, 1) := by decide +kernel
theorem dX4_readFunction_79 : decode cX4_readFunction 79 = .ok (.ireturn, 1) := by decide +kernel
theorem dX5_isNot_0 : decode cX5_isNot 0 = .ok (.lload_n 0, 1) := by decide +kernel
theorem dX5_isNot_1 : decode cX5_isNot 1 = .ok (.ldc2_w 9, 3) := by decide +kernel
theorem dX5_isNot_4 : decode cX5_isNot 4 = .ok (.land, 1) := by decide +kernel
theorem dX5_isNot_5 : decode cX5_isNot 5 = .ok (.ldc2_w 11, 3) := by decide +kernel
theorem dX5_isNot_8 : decode cX5_isNot 8 = .ok (.lcmp, 1) := by decide +kernel
theorem dX5_isNot_9 : decode cX5_isNot 9 = .ok (.ifCond .le 7, 3) := by decide +kernel
theorem dX5_isNot_12 : decode cX5_isNot 12 = .ok (.iconst 1, 1) := by decide +kernel
theorem dX5_isNot_13 : decode cX5_isNot 13 = .ok (.goto 4, 3) := by decide +kernel
theorem dX5_isNot_16 : decode cX5_isNot 16 = .ok (.iconst 0, 1) := by decide +kernel
theorem dX5_isNot_17 : decode cX5_isNot 17 = .ok (.ireturn, 1) := by decide +kernel
theorem dX5_order_0 : decode cX5_order 0 = .ok (.lload_n 0, 1) := by decide +kernel
theorem dX5_order_1 : decode cX5_order 1 = .ok (.lconst 0, 1) := by decide +kernel
theorem dX5_order_2 : decode cX5_order 2 = .ok (.lcmp, 1) := by decide +kernel
theorem dX5_order_3 : decode cX5_order 3 = .ok (.ifCond .ge 11, 3) := by decide +kernel
theorem dX5_order_6 : decode cX5_order 6 = .ok (.lload_n 0, 1) := by decide +kernel
theorem dX5_order_7 : decode cX5_order 7 = .ok (.ldc2_w 9, 3) := by decide +kernel
theorem dX5_order_10 : decode cX5_order 10 = .ok (.lxor, 1) := by decide +kernel
theorem dX5_order_11 : decode cX5_order 11 = .ok (.goto 4, 3) := by decide +kernel
theorem dX5_order_14 : decode cX5_order 14 = .ok (.lload_n 0, 1) := by decide +kernel
theorem dX5_order_15 : decode cX5_order 15 = .ok (.lreturn, 1) := by decide +kernel
theorem dX5_orderWithoutSignOfZero_0 : decode cX5_orderWithoutSignOfZero 0 = .ok (.lload_n 0, 1) := by decide +kernel
theorem dX5_orderWithoutSignOfZero_1 : decode cX5_orderWithoutSignOfZero 1 = .ok (.ldc2_w 13, 3) := by decide +kernel
theorem dX5_orderWithoutSignOfZero_4 : decode cX5_orderWithoutSignOfZero 4 = .ok (.lcmp, 1) := by decide +kernel
theorem dX5_orderWithoutSignOfZero_5 : decode cX5_orderWithoutSignOfZero 5 = .ok (.ifCond .ne 7, 3) := by decide +kernel
theorem dX5_orderWithoutSignOfZero_8 : decode cX5_orderWithoutSignOfZero 8 = .ok (.lconst 0, 1) := by decide +kernel
theorem dX5_orderWithoutSignOfZero_9 : decode cX5_orderWithoutSignOfZero 9 = .ok (.goto 7, 3) := by decide +kernel
theorem dX5_orderWithoutSignOfZero_12 : decode cX5_orderWithoutSignOfZero 12 = .ok (.lload_n 0, 1) := by decide +kernel
theorem dX5_orderWithoutSignOfZero_13 : decode cX5_orderWithoutSignOfZero 13 = .ok (.invokestatic 15, 3) := by decide +kernel
theorem dX5_orderWithoutSignOfZero_16 : decode cX5_orderWithoutSignOfZero 16 = .ok (.lreturn, 1) := by decide +kernel
theorem dX5_mantissa_0 : decode cX5_mantissa 0 = .ok (.lload_n 0, 1) := by decide +kernel
theorem dX5_mantissa_1 : decode cX5_mantissa 1 = .ok (.ldc2_w 11, 3) := by decide +kernel
theorem dX5_mantissa_4 : decode cX5_mantissa 4 = .ok (.land, 1) := by decide +kernel
theorem dX5_mantissa_5 : decode cX5_mantissa 5 = .ok (.lconst 0, 1) := by decide +kernel
theorem dX5_mantissa_6 : decode cX5_mantissa 6 = .ok (.lcmp, 1) := by decide +kernel
theorem dX5_mantissa_7 : decode cX5_mantissa 7 = .ok (.ifCond .eq 13, 3) := by decide +kernel
theorem dX5_mantissa_10 : decode cX5_mantissa 10 = .ok (.lload_n 0, 1) := by decide +kernel
theorem dX5_mantissa_11 : decode cX5_mantissa 11 = .ok (.ldc2_w 19, 3) := by decide +kernel
theorem dX5_mantissa_14 : decode cX5_mantissa 14 = .ok (.land, 1) := by decide +kernel
theorem dX5_mantissa_15 : decode cX5_mantissa 15 = .ok (.ldc2_w 21, 3) := by decide +kernel
theorem dX5_mantissa_18 : decode cX5_mantissa 18 = .ok (.lor, 1) := by decide +kernel
theorem dX5_mantissa_19 : decode cX5_mantissa 19 = .ok (.lreturn, 1) := by decide +kernel
theorem dX5_mantissa_20 : decode cX5_mantissa 20 = .ok (.lload_n 0, 1) := by decide +kernel
theorem dX5_mantissa_21 : decode cX5_mantissa 21 = .ok (.ldc2_w 19, 3) := by decide +kernel
theorem dX5_mantissa_24 : decode cX5_mantissa 24 = .ok (.land, 1) := by decide +kernel
theorem dX5_mantissa_25 : decode cX5_mantissa 25 = .ok (.lstore_n 2, 1) := by decide +kernel
theorem dX5_mantissa_26 : decode cX5_mantissa 26 = .ok (.iconst 0, 1) := by decide +kernel
theorem dX5_mantissa_27 : decode cX5_mantissa 27 = .ok (.istore 4, 2) := by decide +kernel
theorem dX5_mantissa_29 : decode cX5_mantissa 29 = .ok (.iload 4, 2) := by decide +kernel
theorem dX5_mantissa_31 : decode cX5_mantissa 31 = .ok (.bipush 52, 2) := by decide +kernel
theorem dX5_mantissa_33 : decode cX5_mantissa 33 = .ok (.if_icmp .ge 21, 3) := by decide +kernel
theorem dX5_mantissa_36 : decode cX5_mantissa 36 = .ok (.lload_n 2, 1) := by decide +kernel
theorem dX5_mantissa_37 : decode cX5_mantissa 37 = .ok (.ldc2_w 21, 3) := by decide +kernel
theorem dX5_mantissa_40 : decode cX5_mantissa 40 = .ok (.lcmp, 1) := by decide +kernel
theorem dX5_mantissa_41 : decode cX5_mantissa 41 = .ok (.ifCond .ge 13, 3) := by decide +kernel
theorem dX5_mantissa_44 : decode cX5_mantissa 44 = .ok (.lload_n 2, 1) := by decide +kernel
theorem dX5_mantissa_45 : decode cX5_mantissa 45 = .ok (.iconst 1, 1) := by decide +kernel
theorem dX5_mantissa_46 : decode cX5_mantissa 46 = .ok (.lshl, 1) := by decide +kernel
theorem dX5_mantissa_47 : decode cX5_mantissa 47 = .ok (.lstore_n 2, 1) := by decide +kernel
theorem dX5_mantissa_48 : decode cX5_mantissa 48 = .ok (.iinc 4 1, 3) := by decide +kernel
theorem dX5_mantissa_51 : decode cX5_mantissa 51 = .ok (.goto (-22), 3) := by decide +kernel
theorem dX5_mantissa_54 : decode cX5_mantissa 54 = .ok (.lload_n 2, 1) := by decide +kernel
theorem dX5_mantissa_55 : decode cX5_mantissa 55 = .ok (.lreturn, 1) := by decide +kernel
theorem dX5_exponent_0 : decode cX5_exponent 0 = .ok (.lload_n 0, 1) := by decide +kernel
theorem dX5_exponent_1 : decode cX5_exponent 1 = .ok (.ldc2_w 11, 3) := by decide +kernel
theorem dX5_exponent_4 : decode cX5_exponent 4 = .ok (.land, 1) := by decide +kernel
theorem dX5_exponent_5 : decode cX5_exponent 5 = .ok (.bipush 52, 2) := by decide +kernel
theorem dX5_exponent_7 : decode cX5_exponent 7 = .ok (.lushr, 1) := by decide +kernel
theorem dX5_exponent_8 : decode cX5_exponent 8 = .ok (.l2i, 1) := by decide +kernel
theorem dX5_exponent_9 : decode cX5_exponent 9 = .ok (.istore_n 2, 1) := by decide +kernel
theorem dX5_exponent_10 : decode cX5_exponent 10 = .ok (.iload_n 2, 1) := by decide +kernel
theorem dX5_exponent_11 : decode cX5_exponent 11 = .ok (.ifCond .eq 9, 3) := by decide +kernel
theorem dX5_exponent_14 : decode cX5_exponent 14 = .ok (.iload_n 2, 1) := by decide +kernel
theorem dX5_exponent_15 : decode cX5_exponent 15 = .ok (.sipush 1075, 3) := by decide +kernel
theorem dX5_exponent_18 : decode cX5_exponent 18 = .ok (.isub, 1) := by decide +kernel
theorem dX5_exponent_19 : decode cX5_exponent 19 = .ok (.ireturn, 1) := by decide +kernel
theorem dX5_exponent_20 : decode cX5_exponent 20 = .ok (.sipush (-1074), 3) := by decide +kernel
theorem dX5_exponent_23 : decode cX5_exponent 23 = .ok (.istore_n 3, 1) := by decide +kernel
theorem dX5_exponent_24 : decode cX5_exponent 24 = .ok (.lload_n 0, 1) := by decide +kernel
theorem dX5_exponent_25 : decode cX5_exponent 25 = .ok (.ldc2_w 19, 3) := by decide +kernel
theorem dX5_exponent_28 : decode cX5_exponent 28 = .ok (.land, 1) := by decide +kernel
theorem dX5_exponent_29 : decode cX5_exponent 29 = .ok (.lstore 4, 2) := by decide +kernel
theorem dX5_exponent_31 : decode cX5_exponent 31 = .ok (.iload_n 3, 1) := by decide +kernel
theorem dX5_exponent_32 : decode cX5_exponent 32 = .ok (.sipush (-1126), 3) := by decide +kernel
theorem dX5_exponent_35 : decode cX5_exponent 35 = .ok (.if_icmp .le 24, 3) := by decide +kernel
theorem dX5_exponent_38 : decode cX5_exponent 38 = .ok (.lload 4, 2) := by decide +kernel
theorem dX5_exponent_40 : decode cX5_exponent 40 = .ok (.ldc2_w 21, 3) := by decide +kernel
theorem dX5_exponent_43 : decode cX5_exponent 43 = .ok (.lcmp, 1) := by decide +kernel
theorem dX5_exponent_44 : decode cX5_exponent 44 = .ok (.ifCond .ge 15, 3) := by decide +kernel
theorem dX5_exponent_47 : decode cX5_exponent 47 = .ok (.iinc 3 (-1), 3) := by decide +kernel
theorem dX5_exponent_50 : decode cX5_exponent 50 = .ok (.lload 4, 2) := by decide +kernel
theorem dX5_exponent_52 : decode cX5_exponent 52 = .ok (.iconst 1, 1) := by decide +kernel
theorem dX5_exponent_53 : decode cX5_exponent 53 = .ok (.lshl, 1) := by decide +kernel
theorem dX5_exponent_54 : decode cX5_exponent 54 = .ok (.lstore 4, 2) := by decide +kernel
theorem dX5_exponent_56 : decode cX5_exponent 56 = .ok (.goto (-25), 3) := by decide +kernel
theorem dX5_exponent_59 : decode cX5_exponent 59 = .ok (.iload_n 3, 1) := by decide +kernel
theorem dX5_exponent_60 : decode cX5_exponent 60 = .ok (.ireturn, 1) := by decide +kernel
theorem dX5_rounded_0 : decode cX5_rounded 0 = .ok (.lload_n 3, 1) := by decide +kernel
theorem dX5_rounded_1 : decode cX5_rounded 1 = .ok (.lstore 5, 2) := by decide +kernel
theorem dX5_rounded_3 : decode cX5_rounded 3 = .ok (.iload_n 2, 1) := by decide +kernel
theorem dX5_rounded_4 : decode cX5_rounded 4 = .ok (.istore 7, 2) := by decide +kernel
theorem dX5_rounded_6 : decode cX5_rounded 6 = .ok (.bipush 32, 2) := by decide +kernel
theorem dX5_rounded_8 : decode cX5_rounded 8 = .ok (.istore 8, 2) := by decide +kernel
theorem dX5_rounded_10 : decode cX5_rounded 10 = .ok (.iload 8, 2) := by decide +kernel
theorem dX5_rounded_12 : decode cX5_rounded 12 = .ok (.ifCond .le 39, 3) := by decide +kernel
theorem dX5_rounded_15 : decode cX5_rounded 15 = .ok (.lload 5, 2) := by decide +kernel
theorem dX5_rounded_17 : decode cX5_rounded 17 = .ok (.bipush 63, 2) := by decide +kernel
theorem dX5_rounded_19 : decode cX5_rounded 19 = .ok (.iload 8, 2) := by decide +kernel
theorem dX5_rounded_21 : decode cX5_rounded 21 = .ok (.isub, 1) := by decide +kernel
theorem dX5_rounded_22 : decode cX5_rounded 22 = .ok (.lushr, 1) := by decide +kernel
theorem dX5_rounded_23 : decode cX5_rounded 23 = .ok (.lconst 0, 1) := by decide +kernel
theorem dX5_rounded_24 : decode cX5_rounded 24 = .ok (.lcmp, 1) := by decide +kernel
theorem dX5_rounded_25 : decode cX5_rounded 25 = .ok (.ifCond .ne 17, 3) := by decide +kernel
theorem dX5_rounded_28 : decode cX5_rounded 28 = .ok (.lload 5, 2) := by decide +kernel
theorem dX5_rounded_30 : decode cX5_rounded 30 = .ok (.iload 8, 2) := by decide +kernel
theorem dX5_rounded_32 : decode cX5_rounded 32 = .ok (.lshl, 1) := by decide +kernel
theorem dX5_rounded_33 : decode cX5_rounded 33 = .ok (.lstore 5, 2) := by decide +kernel
theorem dX5_rounded_35 : decode cX5_rounded 35 = .ok (.iload 7, 2) := by decide +kernel
theorem dX5_rounded_37 : decode cX5_rounded 37 = .ok (.iload 8, 2) := by decide +kernel
theorem dX5_rounded_39 : decode cX5_rounded 39 = .ok (.isub, 1) := by decide +kernel
theorem dX5_rounded_40 : decode cX5_rounded 40 = .ok (.istore 7, 2) := by decide +kernel
theorem dX5_rounded_42 : decode cX5_rounded 42 = .ok (.iload 8, 2) := by decide +kernel
theorem dX5_rounded_44 : decode cX5_rounded 44 = .ok (.iconst 1, 1) := by decide +kernel
theorem dX5_rounded_45 : decode cX5_rounded 45 = .ok (.ishr, 1) := by decide +kernel
theorem dX5_rounded_46 : decode cX5_rounded 46 = .ok (.istore 8, 2) := by decide +kernel
theorem dX5_rounded_48 : decode cX5_rounded 48 = .ok (.goto (-38), 3) := by decide +kernel
theorem dX5_rounded_51 : decode cX5_rounded 51 = .ok (.iload 7, 2) := by decide +kernel
theorem dX5_rounded_53 : decode cX5_rounded 53 = .ok (.sipush 1085, 3) := by decide +kernel
theorem dX5_rounded_56 : decode cX5_rounded 56 = .ok (.iadd, 1) := by decide +kernel
theorem dX5_rounded_57 : decode cX5_rounded 57 = .ok (.istore 8, 2) := by decide +kernel
theorem dX5_rounded_59 : decode cX5_rounded 59 = .ok (.iload 8, 2) := by decide +kernel
theorem dX5_rounded_61 : decode cX5_rounded 61 = .ok (.sipush 2047, 3) := by decide +kernel
theorem dX5_rounded_64 : decode cX5_rounded 64 = .ok (.if_icmp .lt 9, 3) := by decide +kernel
theorem dX5_rounded_67 : decode cX5_rounded 67 = .ok (.lload_n 0, 1) := by decide +kernel
theorem dX5_rounded_68 : decode cX5_rounded 68 = .ok (.ldc2_w 11, 3) := by decide +kernel
theorem dX5_rounded_71 : decode cX5_rounded 71 = .ok (.lor, 1) := by decide +kernel
theorem dX5_rounded_72 : decode cX5_rounded 72 = .ok (.lreturn, 1) := by decide +kernel
theorem dX5_rounded_73 : decode cX5_rounded 73 = .ok (.iload 8, 2) := by decide +kernel
theorem dX5_rounded_75 : decode cX5_rounded 75 = .ok (.ifCond .le 8, 3) := by decide +kernel
theorem dX5_rounded_78 : decode cX5_rounded 78 = .ok (.bipush 10, 2) := by decide +kernel
theorem dX5_rounded_80 : decode cX5_rounded 80 = .ok (.goto 8, 3) := by decide +kernel
theorem dX5_rounded_83 : decode cX5_rounded 83 = .ok (.bipush 11, 2) := by decide +kernel
theorem dX5_rounded_85 : decode cX5_rounded 85 = .ok (.iload 8, 2) := by decide +kernel
theorem dX5_rounded_87 : decode cX5_rounded 87 = .ok (.isub, 1) := by decide +kernel
theorem dX5_rounded_88 : decode cX5_rounded 88 = .ok (.istore 9, 2) := by decide +kernel
theorem dX5_rounded_90 : decode cX5_rounded 90 = .ok (.iload 9, 2) := by decide +kernel
theorem dX5_rounded_92 : decode cX5_rounded 92 = .ok (.bipush 63, 2) := by decide +kernel
theorem dX5_rounded_94 : decode cX5_rounded 94 = .ok (.if_icmp .le 5, 3) := by decide +kernel
theorem dX5_rounded_97 : decode cX5_rounded 97 = .ok (.lload_n 0, 1) := by decide +kernel
theorem dX5_rounded_98 : decode cX5_rounded 98 = .ok (.lreturn, 1) := by decide +kernel
theorem dX5_rounded_99 : decode cX5_rounded 99 = .ok (.lload 5, 2) := by decide +kernel
theorem dX5_rounded_101 : decode cX5_rounded 101 = .ok (.iload 9, 2) := by decide +kernel
theorem dX5_rounded_103 : decode cX5_rounded 103 = .ok (.lushr, 1) := by decide +kernel
theorem dX5_rounded_104 : decode cX5_rounded 104 = .ok (.lstore 10, 2) := by decide +kernel
theorem dX5_rounded_106 : decode cX5_rounded 106 = .ok (.lload 5, 2) := by decide +kernel
theorem dX5_rounded_108 : decode cX5_rounded 108 = .ok (.lconst 1, 1) := by decide +kernel
theorem dX5_rounded_109 : decode cX5_rounded 109 = .ok (.iload 9, 2) := by decide +kernel
theorem dX5_rounded_111 : decode cX5_rounded 111 = .ok (.lshl, 1) := by decide +kernel
theorem dX5_rounded_112 : decode cX5_rounded 112 = .ok (.lconst 1, 1) := by decide +kernel
theorem dX5_rounded_113 : decode cX5_rounded 113 = .ok (.lsub, 1) := by decide +kernel
theorem dX5_rounded_114 : decode cX5_rounded 114 = .ok (.land, 1) := by decide +kernel
theorem dX5_rounded_115 : decode cX5_rounded 115 = .ok (.lstore 12, 2) := by decide +kernel
theorem dX5_rounded_117 : decode cX5_rounded 117 = .ok (.lconst 1, 1) := by decide +kernel
theorem dX5_rounded_118 : decode cX5_rounded 118 = .ok (.iload 9, 2) := by decide +kernel
theorem dX5_rounded_120 : decode cX5_rounded 120 = .ok (.iconst 1, 1) := by decide +kernel
theorem dX5_rounded_121 : decode cX5_rounded 121 = .ok (.isub, 1) := by decide +kernel
theorem dX5_rounded_122 : decode cX5_rounded 122 = .ok (.lshl, 1) := by decide +kernel
theorem dX5_rounded_123 : decode cX5_rounded 123 = .ok (.lstore 14, 2) := by decide +kernel
theorem dX5_rounded_125 : decode cX5_rounded 125 = .ok (.lload 12, 2) := by decide +kernel
theorem dX5_rounded_127 : decode cX5_rounded 127 = .ok (.lload 14, 2) := by decide +kernel
theorem dX5_rounded_129 : decode cX5_rounded 129 = .ok (.lcmp, 1) := by decide +kernel
theorem dX5_rounded_130 : decode cX5_rounded 130 = .ok (.ifCond .gt 20, 3) := by decide +kernel
theorem dX5_rounded_133 : decode cX5_rounded 133 = .ok (.lload 12, 2) := by decide +kernel
theorem dX5_rounded_135 : decode cX5_rounded 135 = .ok (.lload 14, 2) := by decide +kernel
theorem dX5_rounded_137 : decode cX5_rounded 137 = .ok (.lcmp, 1) := by decide +kernel
theorem dX5_rounded_138 : decode cX5_rounded 138 = .ok (.ifCond .ne 18, 3) := by decide +kernel
theorem dX5_rounded_141 : decode cX5_rounded 141 = .ok (.lload 10, 2) := by decide +kernel
theorem dX5_rounded_143 : decode cX5_rounded 143 = .ok (.lconst 1, 1) := by decide +kernel
theorem dX5_rounded_144 : decode cX5_rounded 144 = .ok (.land, 1) := by decide +kernel
theorem dX5_rounded_145 : decode cX5_rounded 145 = .ok (.lconst 0, 1) := by decide +kernel
theorem dX5_rounded_146 : decode cX5_rounded 146 = .ok (.lcmp, 1) := by decide +kernel
theorem dX5_rounded_147 : decode cX5_rounded 147 = .ok (.ifCond .eq 9, 3) := by decide +kernel
theorem dX5_rounded_150 : decode cX5_rounded 150 = .ok (.lload 10, 2) := by decide +kernel
theorem dX5_rounded_152 : decode cX5_rounded 152 = .ok (.lconst 1, 1) := by decide +kernel
theorem dX5_rounded_153 : decode cX5_rounded 153 = .ok (.ladd, 1) := by decide +kernel
theorem dX5_rounded_154 : decode cX5_rounded 154 = .ok (.lstore 10, 2) := by decide +kernel
theorem dX5_rounded_156 : decode cX5_rounded 156 = .ok (.lload_n 0, 1) := by decide +kernel
theorem dX5_rounded_157 : decode cX5_rounded 157 = .ok (.iload 8, 2) := by decide +kernel
theorem dX5_rounded_159 : decode cX5_rounded 159 = .ok (.ifCond .le 17, 3) := by decide +kernel
theorem dX5_rounded_162 : decode cX5_rounded 162 = .ok (.iload 8, 2) := by decide +kernel
theorem dX5_rounded_164 : decode cX5_rounded 164 = .ok (.iconst 1, 1) := by decide +kernel
theorem dX5_rounded_165 : decode cX5_rounded 165 = .ok (.isub, 1) := by decide +kernel
theorem dX5_rounded_166 : decode cX5_rounded 166 = .ok (.i2l, 1) := by decide +kernel
theorem dX5_rounded_167 : decode cX5_rounded 167 = .ok (.bipush 52, 2) := by decide +kernel
theorem dX5_rounded_169 : decode cX5_rounded 169 = .ok (.lshl, 1) := by decide +kernel
theorem dX5_rounded_170 : decode cX5_rounded 170 = .ok (.lload 10, 2) := by decide +kernel
theorem dX5_rounded_172 : decode cX5_rounded 172 = .ok (.ladd, 1) := by decide +kernel
theorem dX5_rounded_173 : decode cX5_rounded 173 = .ok (.goto 5, 3) := by decide +kernel
theorem dX5_rounded_176 : decode cX5_rounded 176 = .ok (.lload 10, 2) := by decide +kernel
theorem dX5_rounded_178 : decode cX5_rounded 178 = .ok (.lor, 1) := by decide +kernel
theorem dX5_rounded_179 : decode cX5_rounded 179 = .ok (.lreturn, 1) := by decide +kernel
theorem dX5_nearest_0 : decode cX5_nearest 0 = .ok (.lload_n 0, 1) := by decide +kernel
theorem dX5_nearest_1 : decode cX5_nearest 1 = .ok (.lconst 0, 1) := by decide +kernel
theorem dX5_nearest_2 : decode cX5_nearest 2 = .ok (.lcmp, 1) := by decide +kernel
theorem dX5_nearest_3 : decode cX5_nearest 3 = .ok (.ifCond .ne 5, 3) := by decide +kernel
theorem dX5_nearest_6 : decode cX5_nearest 6 = .ok (.lconst 0, 1) := by decide +kernel
theorem dX5_nearest_7 : decode cX5_nearest 7 = .ok (.lreturn, 1) := by decide +kernel
theorem dX5_nearest_8 : decode cX5_nearest 8 = .ok (.lload_n 0, 1) := by decide +kernel
theorem dX5_nearest_9 : decode cX5_nearest 9 = .ok (.ldc2_w 13, 3) := by decide +kernel
theorem dX5_nearest_12 : decode cX5_nearest 12 = .ok (.lcmp, 1) := by decide +kernel
theorem dX5_nearest_13 : decode cX5_nearest 13 = .ok (.ifCond .ne 7, 3) := by decide +kernel
theorem dX5_nearest_16 : decode cX5_nearest 16 = .ok (.ldc2_w 23, 3) := by decide +kernel
theorem dX5_nearest_19 : decode cX5_nearest 19 = .ok (.lreturn, 1) := by decide +kernel
theorem dX5_nearest_20 : decode cX5_nearest 20 = .ok (.lload_n 0, 1) := by decide +kernel
theorem dX5_nearest_21 : decode cX5_nearest 21 = .ok (.lconst 0, 1) := by decide +kernel
theorem dX5_nearest_22 : decode cX5_nearest 22 = .ok (.lcmp, 1) := by decide +kernel
theorem dX5_nearest_23 : decode cX5_nearest 23 = .ok (.ifCond .ge 15, 3) := by decide +kernel
theorem dX5_nearest_26 : decode cX5_nearest 26 = .ok (.ldc2_w 13, 3) := by decide +kernel
theorem dX5_nearest_29 : decode cX5_nearest 29 = .ok (.iconst 0, 1) := by decide +kernel
theorem dX5_nearest_30 : decode cX5_nearest 30 = .ok (.lload_n 0, 1) := by decide +kernel
theorem dX5_nearest_31 : decode cX5_nearest 31 = .ok (.lneg, 1) := by decide +kernel
theorem dX5_nearest_32 : decode cX5_nearest 32 = .ok (.invokestatic 25, 3) := by decide +kernel
theorem dX5_nearest_35 : decode cX5_nearest 35 = .ok (.goto 9, 3) := by decide +kernel
theorem dX5_nearest_38 : decode cX5_nearest 38 = .ok (.lconst 0, 1) := by decide +kernel
theorem dX5_nearest_39 : decode cX5_nearest 39 = .ok (.iconst 0, 1) := by decide +kernel
theorem dX5_nearest_40 : decode cX5_nearest 40 = .ok (.lload_n 0, 1) := by decide +kernel
theorem dX5_nearest_41 : decode cX5_nearest 41 = .ok (.invokestatic 25, 3) := by decide +kernel
theorem dX5_nearest_44 : decode cX5_nearest 44 = .ok (.lreturn, 1) := by decide +kernel
theorem dX5_decimal_0 : decode cX5_decimal 0 = .ok (.lconst 1, 1) := by decide +kernel
theorem dX5_decimal_1 : decode cX5_decimal 1 = .ok (.lstore_n 3, 1) := by decide +kernel
theorem dX5_decimal_2 : decode cX5_decimal 2 = .ok (.iconst 0, 1) := by decide +kernel
theorem dX5_decimal_3 : decode cX5_decimal 3 = .ok (.istore 5, 2) := by decide +kernel
theorem dX5_decimal_5 : decode cX5_decimal 5 = .ok (.iload 5, 2) := by decide +kernel
theorem dX5_decimal_7 : decode cX5_decimal 7 = .ok (.iload_n 2, 1) := by decide +kernel
theorem dX5_decimal_8 : decode cX5_decimal 8 = .ok (.if_icmp .ge 15, 3) := by decide +kernel
theorem dX5_decimal_11 : decode cX5_decimal 11 = .ok (.lload_n 3, 1) := by decide +kernel
theorem dX5_decimal_12 : decode cX5_decimal 12 = .ok (.ldc2_w 29, 3) := by decide +kernel
theorem dX5_decimal_15 : decode cX5_decimal 15 = .ok (.lmul, 1) := by decide +kernel
theorem dX5_decimal_16 : decode cX5_decimal 16 = .ok (.lstore_n 3, 1) := by decide +kernel
theorem dX5_decimal_17 : decode cX5_decimal 17 = .ok (.iinc 5 1, 3) := by decide +kernel
theorem dX5_decimal_20 : decode cX5_decimal 20 = .ok (.goto (-15), 3) := by decide +kernel
theorem dX5_decimal_23 : decode cX5_decimal 23 = .ok (.lload_n 0, 1) := by decide +kernel
theorem dX5_decimal_24 : decode cX5_decimal 24 = .ok (.invokestatic 31, 3) := by decide +kernel
theorem dX5_decimal_27 : decode cX5_decimal 27 = .ok (.lload_n 3, 1) := by decide +kernel
theorem dX5_decimal_28 : decode cX5_decimal 28 = .ok (.invokestatic 31, 3) := by decide +kernel
theorem dX5_decimal_31 : decode cX5_decimal 31 = .ok (.invokestatic 34, 3) := by decide +kernel
theorem dX5_decimal_34 : decode cX5_decimal 34 = .ok (.lreturn, 1) := by decide +kernel
theorem dX5_plus_0 : decode cX5_plus 0 = .ok (.lload_n 0, 1) := by decide +kernel
theorem dX5_plus_1 : decode cX5_plus 1 = .ok (.invokestatic 38, 3) := by decide +kernel
theorem dX5_plus_4 : decode cX5_plus 4 = .ok (.ifCond .ne 10, 3) := by decide +kernel
theorem dX5_plus_7 : decode cX5_plus 7 = .ok (.lload_n 2, 1) := by decide +kernel
theorem dX5_plus_8 : decode cX5_plus 8 = .ok (.invokestatic 38, 3) := by decide +kernel
theorem dX5_plus_11 : decode cX5_plus 11 = .ok (.ifCond .eq 7, 3) := by decide +kernel
theorem dX5_plus_14 : decode cX5_plus 14 = .ok (.ldc2_w 42, 3) := by decide +kernel
theorem dX5_plus_17 : decode cX5_plus 17 = .ok (.lreturn, 1) := by decide +kernel
theorem dX5_plus_18 : decode cX5_plus 18 = .ok (.lload_n 0, 1) := by decide +kernel
theorem dX5_plus_19 : decode cX5_plus 19 = .ok (.ldc2_w 9, 3) := by decide +kernel
theorem dX5_plus_22 : decode cX5_plus 22 = .ok (.land, 1) := by decide +kernel
theorem dX5_plus_23 : decode cX5_plus 23 = .ok (.lload_n 2, 1) := by decide +kernel
theorem dX5_plus_24 : decode cX5_plus 24 = .ok (.ldc2_w 9, 3) := by decide +kernel
theorem dX5_plus_27 : decode cX5_plus 27 = .ok (.land, 1) := by decide +kernel
theorem dX5_plus_28 : decode cX5_plus 28 = .ok (.lcmp, 1) := by decide +kernel
theorem dX5_plus_29 : decode cX5_plus 29 = .ok (.ifCond .lt 7, 3) := by decide +kernel
theorem dX5_plus_32 : decode cX5_plus 32 = .ok (.iconst 1, 1) := by decide +kernel
theorem dX5_plus_33 : decode cX5_plus 33 = .ok (.goto 4, 3) := by decide +kernel
theorem dX5_plus_36 : decode cX5_plus 36 = .ok (.iconst 0, 1) := by decide +kernel
theorem dX5_plus_37 : decode cX5_plus 37 = .ok (.istore 4, 2) := by decide +kernel
theorem dX5_plus_39 : decode cX5_plus 39 = .ok (.iload 4, 2) := by decide +kernel
theorem dX5_plus_41 : decode cX5_plus 41 = .ok (.ifCond .eq 7, 3) := by decide +kernel
theorem dX5_plus_44 : decode cX5_plus 44 = .ok (.lload_n 0, 1) := by decide +kernel
theorem dX5_plus_45 : decode cX5_plus 45 = .ok (.goto 4, 3) := by decide +kernel
theorem dX5_plus_48 : decode cX5_plus 48 = .ok (.lload_n 2, 1) := by decide +kernel
theorem dX5_plus_49 : decode cX5_plus 49 = .ok (.lstore 5, 2) := by decide +kernel
theorem dX5_plus_51 : decode cX5_plus 51 = .ok (.iload 4, 2) := by decide +kernel
theorem dX5_plus_53 : decode cX5_plus 53 = .ok (.ifCond .eq 7, 3) := by decide +kernel
theorem dX5_plus_56 : decode cX5_plus 56 = .ok (.lload_n 2, 1) := by decide +kernel
theorem dX5_plus_57 : decode cX5_plus 57 = .ok (.goto 4, 3) := by decide +kernel
theorem dX5_plus_60 : decode cX5_plus 60 = .ok (.lload_n 0, 1) := by decide +kernel
theorem dX5_plus_61 : decode cX5_plus 61 = .ok (.lstore 7, 2) := by decide +kernel
theorem dX5_plus_63 : decode cX5_plus 63 = .ok (.lload 5, 2) := by decide +kernel
theorem dX5_plus_65 : decode cX5_plus 65 = .ok (.lload 7, 2) := by decide +kernel
theorem dX5_plus_67 : decode cX5_plus 67 = .ok (.lxor, 1) := by decide +kernel
theorem dX5_plus_68 : decode cX5_plus 68 = .ok (.lconst 0, 1) := by decide +kernel
theorem dX5_plus_69 : decode cX5_plus 69 = .ok (.lcmp, 1) := by decide +kernel
theorem dX5_plus_70 : decode cX5_plus 70 = .ok (.ifCond .lt 7, 3) := by decide +kernel
theorem dX5_plus_73 : decode cX5_plus 73 = .ok (.iconst 1, 1) := by decide +kernel
theorem dX5_plus_74 : decode cX5_plus 74 = .ok (.goto 4, 3) := by decide +kernel
theorem dX5_plus_77 : decode cX5_plus 77 = .ok (.iconst 0, 1) := by decide +kernel
theorem dX5_plus_78 : decode cX5_plus 78 = .ok (.istore 9, 2) := by decide +kernel
theorem dX5_plus_80 : decode cX5_plus 80 = .ok (.lload 5, 2) := by decide +kernel
theorem dX5_plus_82 : decode cX5_plus 82 = .ok (.ldc2_w 9, 3) := by decide +kernel
theorem dX5_plus_85 : decode cX5_plus 85 = .ok (.land, 1) := by decide +kernel
theorem dX5_plus_86 : decode cX5_plus 86 = .ok (.ldc2_w 11, 3) := by decide +kernel
theorem dX5_plus_89 : decode cX5_plus 89 = .ok (.lcmp, 1) := by decide +kernel
theorem dX5_plus_90 : decode cX5_plus 90 = .ok (.ifCond .ne 30, 3) := by decide +kernel
theorem dX5_plus_93 : decode cX5_plus 93 = .ok (.lload 7, 2) := by decide +kernel
theorem dX5_plus_95 : decode cX5_plus 95 = .ok (.ldc2_w 9, 3) := by decide +kernel
theorem dX5_plus_98 : decode cX5_plus 98 = .ok (.land, 1) := by decide +kernel
theorem dX5_plus_99 : decode cX5_plus 99 = .ok (.ldc2_w 11, 3) := by decide +kernel
theorem dX5_plus_102 : decode cX5_plus 102 = .ok (.lcmp, 1) := by decide +kernel
theorem dX5_plus_103 : decode cX5_plus 103 = .ok (.ifCond .ne 14, 3) := by decide +kernel
theorem dX5_plus_106 : decode cX5_plus 106 = .ok (.iload 9, 2) := by decide +kernel
theorem dX5_plus_108 : decode cX5_plus 108 = .ok (.ifCond .ne 9, 3) := by decide +kernel
theorem dX5_plus_111 : decode cX5_plus 111 = .ok (.ldc2_w 42, 3) := by decide +kernel
theorem dX5_plus_114 : decode cX5_plus 114 = .ok (.goto 5, 3) := by decide +kernel
theorem dX5_plus_117 : decode cX5_plus 117 = .ok (.lload 5, 2) := by decide +kernel
theorem dX5_plus_119 : decode cX5_plus 119 = .ok (.lreturn, 1) := by decide +kernel
theorem dX5_plus_120 : decode cX5_plus 120 = .ok (.lload 7, 2) := by decide +kernel
theorem dX5_plus_122 : decode cX5_plus 122 = .ok (.ldc2_w 9, 3) := by decide +kernel
theorem dX5_plus_125 : decode cX5_plus 125 = .ok (.land, 1) := by decide +kernel
theorem dX5_plus_126 : decode cX5_plus 126 = .ok (.lconst 0, 1) := by decide +kernel
theorem dX5_plus_127 : decode cX5_plus 127 = .ok (.lcmp, 1) := by decide +kernel
theorem dX5_plus_128 : decode cX5_plus 128 = .ok (.ifCond .ne 26, 3) := by decide +kernel
theorem dX5_plus_131 : decode cX5_plus 131 = .ok (.lload 5, 2) := by decide +kernel
theorem dX5_plus_133 : decode cX5_plus 133 = .ok (.ldc2_w 9, 3) := by decide +kernel
theorem dX5_plus_136 : decode cX5_plus 136 = .ok (.land, 1) := by decide +kernel
theorem dX5_plus_137 : decode cX5_plus 137 = .ok (.lconst 0, 1) := by decide +kernel
theorem dX5_plus_138 : decode cX5_plus 138 = .ok (.lcmp, 1) := by decide +kernel
theorem dX5_plus_139 : decode cX5_plus 139 = .ok (.ifCond .ne 12, 3) := by decide +kernel
theorem dX5_plus_142 : decode cX5_plus 142 = .ok (.iload 9, 2) := by decide +kernel
theorem dX5_plus_144 : decode cX5_plus 144 = .ok (.ifCond .ne 7, 3) := by decide +kernel
theorem dX5_plus_147 : decode cX5_plus 147 = .ok (.lconst 0, 1) := by decide +kernel
theorem dX5_plus_148 : decode cX5_plus 148 = .ok (.goto 5, 3) := by decide +kernel
theorem dX5_plus_151 : decode cX5_plus 151 = .ok (.lload 5, 2) := by decide +kernel
theorem dX5_plus_153 : decode cX5_plus 153 = .ok (.lreturn, 1) := by decide +kernel
theorem dX5_plus_154 : decode cX5_plus 154 = .ok (.lload 5, 2) := by decide +kernel
theorem dX5_plus_156 : decode cX5_plus 156 = .ok (.invokestatic 44, 3) := by decide +kernel
theorem dX5_plus_159 : decode cX5_plus 159 = .ok (.lload 7, 2) := by decide +kernel
theorem dX5_plus_161 : decode cX5_plus 161 = .ok (.invokestatic 44, 3) := by decide +kernel
theorem dX5_plus_164 : decode cX5_plus 164 = .ok (.isub, 1) := by decide +kernel
theorem dX5_plus_165 : decode cX5_plus 165 = .ok (.istore 10, 2) := by decide +kernel
theorem dX5_plus_167 : decode cX5_plus 167 = .ok (.lload 5, 2) := by decide +kernel
theorem dX5_plus_169 : decode cX5_plus 169 = .ok (.invokestatic 48, 3) := by decide +kernel
theorem dX5_plus_172 : decode cX5_plus 172 = .ok (.bipush 9, 2) := by decide +kernel
theorem dX5_plus_174 : decode cX5_plus 174 = .ok (.lshl, 1) := by decide +kernel
theorem dX5_plus_175 : decode cX5_plus 175 = .ok (.lstore 11, 2) := by decide +kernel
theorem dX5_plus_177 : decode cX5_plus 177 = .ok (.lload 7, 2) := by decide +kernel
theorem dX5_plus_179 : decode cX5_plus 179 = .ok (.invokestatic 48, 3) := by decide +kernel
theorem dX5_plus_182 : decode cX5_plus 182 = .ok (.bipush 9, 2) := by decide +kernel
theorem dX5_plus_184 : decode cX5_plus 184 = .ok (.lshl, 1) := by decide +kernel
theorem dX5_plus_185 : decode cX5_plus 185 = .ok (.lstore 13, 2) := by decide +kernel
theorem dX5_plus_187 : decode cX5_plus 187 = .ok (.iload 10, 2) := by decide +kernel
theorem dX5_plus_189 : decode cX5_plus 189 = .ok (.bipush 62, 2) := by decide +kernel
theorem dX5_plus_191 : decode cX5_plus 191 = .ok (.if_icmp .le 9, 3) := by decide +kernel
theorem dX5_plus_194 : decode cX5_plus 194 = .ok (.lconst 1, 1) := by decide +kernel
theorem dX5_plus_195 : decode cX5_plus 195 = .ok (.lstore 13, 2) := by decide +kernel
theorem dX5_plus_197 : decode cX5_plus 197 = .ok (.goto 35, 3) := by decide +kernel
theorem dX5_plus_200 : decode cX5_plus 200 = .ok (.lload 13, 2) := by decide +kernel
theorem dX5_plus_202 : decode cX5_plus 202 = .ok (.lconst 1, 1) := by decide +kernel
theorem dX5_plus_203 : decode cX5_plus 203 = .ok (.iload 10, 2) := by decide +kernel
theorem dX5_plus_205 : decode cX5_plus 205 = .ok (.lshl, 1) := by decide +kernel
theorem dX5_plus_206 : decode cX5_plus 206 = .ok (.lconst 1, 1) := by decide +kernel
theorem dX5_plus_207 : decode cX5_plus 207 = .ok (.lsub, 1) := by decide +kernel
theorem dX5_plus_208 : decode cX5_plus 208 = .ok (.land, 1) := by decide +kernel
theorem dX5_plus_209 : decode cX5_plus 209 = .ok (.lstore 15, 2) := by decide +kernel
theorem dX5_plus_211 : decode cX5_plus 211 = .ok (.lload 13, 2) := by decide +kernel
theorem dX5_plus_213 : decode cX5_plus 213 = .ok (.iload 10, 2) := by decide +kernel
theorem dX5_plus_215 : decode cX5_plus 215 = .ok (.lushr, 1) := by decide +kernel
theorem dX5_plus_216 : decode cX5_plus 216 = .ok (.lload 15, 2) := by decide +kernel
theorem dX5_plus_218 : decode cX5_plus 218 = .ok (.lconst 0, 1) := by decide +kernel
theorem dX5_plus_219 : decode cX5_plus 219 = .ok (.lcmp, 1) := by decide +kernel
theorem dX5_plus_220 : decode cX5_plus 220 = .ok (.ifCond .eq 7, 3) := by decide +kernel
theorem dX5_plus_223 : decode cX5_plus 223 = .ok (.iconst 1, 1) := by decide +kernel
theorem dX5_plus_224 : decode cX5_plus 224 = .ok (.goto 4, 3) := by decide +kernel
theorem dX5_plus_227 : decode cX5_plus 227 = .ok (.iconst 0, 1) := by decide +kernel
theorem dX5_plus_228 : decode cX5_plus 228 = .ok (.i2l, 1) := by decide +kernel
theorem dX5_plus_229 : decode cX5_plus 229 = .ok (.lor, 1) := by decide +kernel
theorem dX5_plus_230 : decode cX5_plus 230 = .ok (.lstore 13, 2) := by decide +kernel
theorem dX5_plus_232 : decode cX5_plus 232 = .ok (.iload 9, 2) := by decide +kernel
theorem dX5_plus_234 : decode cX5_plus 234 = .ok (.ifCond .eq 11, 3) := by decide +kernel
theorem dX5_plus_237 : decode cX5_plus 237 = .ok (.lload 11, 2) := by decide +kernel
theorem dX5_plus_239 : decode cX5_plus 239 = .ok (.lload 13, 2) := by decide +kernel
theorem dX5_plus_241 : decode cX5_plus 241 = .ok (.ladd, 1) := by decide +kernel
theorem dX5_plus_242 : decode cX5_plus 242 = .ok (.goto 8, 3) := by decide +kernel
theorem dX5_plus_245 : decode cX5_plus 245 = .ok (.lload 11, 2) := by decide +kernel
theorem dX5_plus_247 : decode cX5_plus 247 = .ok (.lload 13, 2) := by decide +kernel
theorem dX5_plus_249 : decode cX5_plus 249 = .ok (.lsub, 1) := by decide +kernel
theorem dX5_plus_250 : decode cX5_plus 250 = .ok (.lstore 15, 2) := by decide +kernel
theorem dX5_plus_252 : decode cX5_plus 252 = .ok (.lload 15, 2) := by decide +kernel
theorem dX5_plus_254 : decode cX5_plus 254 = .ok (.lconst 0, 1) := by decide +kernel
theorem dX5_plus_255 : decode cX5_plus 255 = .ok (.lcmp, 1) := by decide +kernel
theorem dX5_plus_256 : decode cX5_plus 256 = .ok (.ifCond .ne 7, 3) := by decide +kernel
theorem dX5_plus_259 : decode cX5_plus 259 = .ok (.lconst 0, 1) := by decide +kernel
theorem dX5_plus_260 : decode cX5_plus 260 = .ok (.goto 22, 3) := by decide +kernel
theorem dX5_plus_263 : decode cX5_plus 263 = .ok (.lload 5, 2) := by decide +kernel
theorem dX5_plus_265 : decode cX5_plus 265 = .ok (.ldc2_w 13, 3) := by decide +kernel
theorem dX5_plus_268 : decode cX5_plus 268 = .ok (.land, 1) := by decide +kernel
theorem dX5_plus_269 : decode cX5_plus 269 = .ok (.lload 5, 2) := by decide +kernel
theorem dX5_plus_271 : decode cX5_plus 271 = .ok (.invokestatic 44, 3) := by decide +kernel
theorem dX5_plus_274 : decode cX5_plus 274 = .ok (.bipush 9, 2) := by decide +kernel
theorem dX5_plus_276 : decode cX5_plus 276 = .ok (.isub, 1) := by decide +kernel
theorem dX5_plus_277 : decode cX5_plus 277 = .ok (.lload 15, 2) := by decide +kernel
theorem dX5_plus_279 : decode cX5_plus 279 = .ok (.invokestatic 25, 3) := by decide +kernel
theorem dX5_plus_282 : decode cX5_plus 282 = .ok (.lreturn, 1) := by decide +kernel
theorem dX5_times_0 : decode cX5_times 0 = .ok (.lload_n 0, 1) := by decide +kernel
theorem dX5_times_1 : decode cX5_times 1 = .ok (.lload_n 2, 1) := by decide +kernel
theorem dX5_times_2 : decode cX5_times 2 = .ok (.lxor, 1) := by decide +kernel
theorem dX5_times_3 : decode cX5_times 3 = .ok (.ldc2_w 13, 3) := by decide +kernel
theorem dX5_times_6 : decode cX5_times 6 = .ok (.land, 1) := by decide +kernel
theorem dX5_times_7 : decode cX5_times 7 = .ok (.lstore 4, 2) := by decide +kernel
theorem dX5_times_9 : decode cX5_times 9 = .ok (.lload_n 0, 1) := by decide +kernel
theorem dX5_times_10 : decode cX5_times 10 = .ok (.ldc2_w 9, 3) := by decide +kernel
theorem dX5_times_13 : decode cX5_times 13 = .ok (.land, 1) := by decide +kernel
theorem dX5_times_14 : decode cX5_times 14 = .ok (.lconst 0, 1) := by decide +kernel
theorem dX5_times_15 : decode cX5_times 15 = .ok (.lcmp, 1) := by decide +kernel
theorem dX5_times_16 : decode cX5_times 16 = .ok (.ifCond .eq 13, 3) := by decide +kernel
theorem dX5_times_19 : decode cX5_times 19 = .ok (.lload_n 2, 1) := by decide +kernel
theorem dX5_times_20 : decode cX5_times 20 = .ok (.ldc2_w 9, 3) := by decide +kernel
theorem dX5_times_23 : decode cX5_times 23 = .ok (.land, 1) := by decide +kernel
theorem dX5_times_24 : decode cX5_times 24 = .ok (.lconst 0, 1) := by decide +kernel
theorem dX5_times_25 : decode cX5_times 25 = .ok (.lcmp, 1) := by decide +kernel
theorem dX5_times_26 : decode cX5_times 26 = .ok (.ifCond .ne 7, 3) := by decide +kernel
theorem dX5_times_29 : decode cX5_times 29 = .ok (.iconst 1, 1) := by decide +kernel
theorem dX5_times_30 : decode cX5_times 30 = .ok (.goto 4, 3) := by decide +kernel
theorem dX5_times_33 : decode cX5_times 33 = .ok (.iconst 0, 1) := by decide +kernel
theorem dX5_times_34 : decode cX5_times 34 = .ok (.istore 6, 2) := by decide +kernel
theorem dX5_times_36 : decode cX5_times 36 = .ok (.lload_n 0, 1) := by decide +kernel
theorem dX5_times_37 : decode cX5_times 37 = .ok (.ldc2_w 9, 3) := by decide +kernel
theorem dX5_times_40 : decode cX5_times 40 = .ok (.land, 1) := by decide +kernel
theorem dX5_times_41 : decode cX5_times 41 = .ok (.ldc2_w 11, 3) := by decide +kernel
theorem dX5_times_44 : decode cX5_times 44 = .ok (.lcmp, 1) := by decide +kernel
theorem dX5_times_45 : decode cX5_times 45 = .ok (.ifCond .eq 15, 3) := by decide +kernel
theorem dX5_times_48 : decode cX5_times 48 = .ok (.lload_n 2, 1) := by decide +kernel
theorem dX5_times_49 : decode cX5_times 49 = .ok (.ldc2_w 9, 3) := by decide +kernel
theorem dX5_times_52 : decode cX5_times 52 = .ok (.land, 1) := by decide +kernel
theorem dX5_times_53 : decode cX5_times 53 = .ok (.ldc2_w 11, 3) := by decide +kernel
theorem dX5_times_56 : decode cX5_times 56 = .ok (.lcmp, 1) := by decide +kernel
theorem dX5_times_57 : decode cX5_times 57 = .ok (.ifCond .ne 7, 3) := by decide +kernel
theorem dX5_times_60 : decode cX5_times 60 = .ok (.iconst 1, 1) := by decide +kernel
theorem dX5_times_61 : decode cX5_times 61 = .ok (.goto 4, 3) := by decide +kernel
theorem dX5_times_64 : decode cX5_times 64 = .ok (.iconst 0, 1) := by decide +kernel
theorem dX5_times_65 : decode cX5_times 65 = .ok (.istore 7, 2) := by decide +kernel
theorem dX5_times_67 : decode cX5_times 67 = .ok (.lload_n 0, 1) := by decide +kernel
theorem dX5_times_68 : decode cX5_times 68 = .ok (.invokestatic 38, 3) := by decide +kernel
theorem dX5_times_71 : decode cX5_times 71 = .ok (.ifCond .ne 20, 3) := by decide +kernel
theorem dX5_times_74 : decode cX5_times 74 = .ok (.lload_n 2, 1) := by decide +kernel
theorem dX5_times_75 : decode cX5_times 75 = .ok (.invokestatic 38, 3) := by decide +kernel
theorem dX5_times_78 : decode cX5_times 78 = .ok (.ifCond .ne 13, 3) := by decide +kernel
theorem dX5_times_81 : decode cX5_times 81 = .ok (.iload 6, 2) := by decide +kernel
theorem dX5_times_83 : decode cX5_times 83 = .ok (.ifCond .eq 12, 3) := by decide +kernel
theorem dX5_times_86 : decode cX5_times 86 = .ok (.iload 7, 2) := by decide +kernel
theorem dX5_times_88 : decode cX5_times 88 = .ok (.ifCond .eq 7, 3) := by decide +kernel
theorem dX5_times_91 : decode cX5_times 91 = .ok (.ldc2_w 42, 3) := by decide +kernel
theorem dX5_times_94 : decode cX5_times 94 = .ok (.lreturn, 1) := by decide +kernel
theorem dX5_times_95 : decode cX5_times 95 = .ok (.iload 6, 2) := by decide +kernel
theorem dX5_times_97 : decode cX5_times 97 = .ok (.ifCond .ne 8, 3) := by decide +kernel
theorem dX5_times_100 : decode cX5_times 100 = .ok (.iload 7, 2) := by decide +kernel
theorem dX5_times_102 : decode cX5_times 102 = .ok (.ifCond .eq 20, 3) := by decide +kernel
theorem dX5_times_105 : decode cX5_times 105 = .ok (.iload 6, 2) := by decide +kernel
theorem dX5_times_107 : decode cX5_times 107 = .ok (.ifCond .eq 8, 3) := by decide +kernel
theorem dX5_times_110 : decode cX5_times 110 = .ok (.lload 4, 2) := by decide +kernel
theorem dX5_times_112 : decode cX5_times 112 = .ok (.goto 9, 3) := by decide +kernel
theorem dX5_times_115 : decode cX5_times 115 = .ok (.lload 4, 2) := by decide +kernel
theorem dX5_times_117 : decode cX5_times 117 = .ok (.ldc2_w 11, 3) := by decide +kernel
theorem dX5_times_120 : decode cX5_times 120 = .ok (.lor, 1) := by decide +kernel
theorem dX5_times_121 : decode cX5_times 121 = .ok (.lreturn, 1) := by decide +kernel
theorem dX5_times_122 : decode cX5_times 122 = .ok (.lload_n 0, 1) := by decide +kernel
theorem dX5_times_123 : decode cX5_times 123 = .ok (.invokestatic 48, 3) := by decide +kernel
theorem dX5_times_126 : decode cX5_times 126 = .ok (.lstore 8, 2) := by decide +kernel
theorem dX5_times_128 : decode cX5_times 128 = .ok (.lload_n 2, 1) := by decide +kernel
theorem dX5_times_129 : decode cX5_times 129 = .ok (.invokestatic 48, 3) := by decide +kernel
theorem dX5_times_132 : decode cX5_times 132 = .ok (.lstore 10, 2) := by decide +kernel
theorem dX5_times_134 : decode cX5_times 134 = .ok (.ldc2_w 51, 3) := by decide +kernel
theorem dX5_times_137 : decode cX5_times 137 = .ok (.lstore 12, 2) := by decide +kernel
theorem dX5_times_139 : decode cX5_times 139 = .ok (.lload 8, 2) := by decide +kernel
theorem dX5_times_141 : decode cX5_times 141 = .ok (.lload 12, 2) := by decide +kernel
theorem dX5_times_143 : decode cX5_times 143 = .ok (.land, 1) := by decide +kernel
theorem dX5_times_144 : decode cX5_times 144 = .ok (.lload 10, 2) := by decide +kernel
theorem dX5_times_146 : decode cX5_times 146 = .ok (.lload 12, 2) := by decide +kernel
theorem dX5_times_148 : decode cX5_times 148 = .ok (.land, 1) := by decide +kernel
theorem dX5_times_149 : decode cX5_times 149 = .ok (.lmul, 1) := by decide +kernel
theorem dX5_times_150 : decode cX5_times 150 = .ok (.lstore 14, 2) := by decide +kernel
theorem dX5_times_152 : decode cX5_times 152 = .ok (.lload 8, 2) := by decide +kernel
theorem dX5_times_154 : decode cX5_times 154 = .ok (.bipush 26, 2) := by decide +kernel
theorem dX5_times_156 : decode cX5_times 156 = .ok (.lushr, 1) := by decide +kernel
theorem dX5_times_157 : decode cX5_times 157 = .ok (.lload 10, 2) := by decide +kernel
theorem dX5_times_159 : decode cX5_times 159 = .ok (.lload 12, 2) := by decide +kernel
theorem dX5_times_161 : decode cX5_times 161 = .ok (.land, 1) := by decide +kernel
theorem dX5_times_162 : decode cX5_times 162 = .ok (.lmul, 1) := by decide +kernel
theorem dX5_times_163 : decode cX5_times 163 = .ok (.lload 8, 2) := by decide +kernel
theorem dX5_times_165 : decode cX5_times 165 = .ok (.lload 12, 2) := by decide +kernel
theorem dX5_times_167 : decode cX5_times 167 = .ok (.land, 1) := by decide +kernel
theorem dX5_times_168 : decode cX5_times 168 = .ok (.lload 10, 2) := by decide +kernel
theorem dX5_times_170 : decode cX5_times 170 = .ok (.bipush 26, 2) := by decide +kernel
theorem dX5_times_172 : decode cX5_times 172 = .ok (.lushr, 1) := by decide +kernel
theorem dX5_times_173 : decode cX5_times 173 = .ok (.lmul, 1) := by decide +kernel
theorem dX5_times_174 : decode cX5_times 174 = .ok (.ladd, 1) := by decide +kernel
theorem dX5_times_175 : decode cX5_times 175 = .ok (.lload 14, 2) := by decide +kernel
theorem dX5_times_177 : decode cX5_times 177 = .ok (.bipush 26, 2) := by decide +kernel
theorem dX5_times_179 : decode cX5_times 179 = .ok (.lushr, 1) := by decide +kernel
theorem dX5_times_180 : decode cX5_times 180 = .ok (.ladd, 1) := by decide +kernel
theorem dX5_times_181 : decode cX5_times 181 = .ok (.lstore 16, 2) := by decide +kernel
theorem dX5_times_183 : decode cX5_times 183 = .ok (.lload 8, 2) := by decide +kernel
theorem dX5_times_185 : decode cX5_times 185 = .ok (.bipush 26, 2) := by decide +kernel
theorem dX5_times_187 : decode cX5_times 187 = .ok (.lushr, 1) := by decide +kernel
theorem dX5_times_188 : decode cX5_times 188 = .ok (.lload 10, 2) := by decide +kernel
theorem dX5_times_190 : decode cX5_times 190 = .ok (.bipush 26, 2) := by decide +kernel
theorem dX5_times_192 : decode cX5_times 192 = .ok (.lushr, 1) := by decide +kernel
theorem dX5_times_193 : decode cX5_times 193 = .ok (.lmul, 1) := by decide +kernel
theorem dX5_times_194 : decode cX5_times 194 = .ok (.lload 16, 2) := by decide +kernel
theorem dX5_times_196 : decode cX5_times 196 = .ok (.bipush 26, 2) := by decide +kernel
theorem dX5_times_198 : decode cX5_times 198 = .ok (.lushr, 1) := by decide +kernel
theorem dX5_times_199 : decode cX5_times 199 = .ok (.ladd, 1) := by decide +kernel
theorem dX5_times_200 : decode cX5_times 200 = .ok (.lstore 18, 2) := by decide +kernel
theorem dX5_times_202 : decode cX5_times 202 = .ok (.lload 16, 2) := by decide +kernel
theorem dX5_times_204 : decode cX5_times 204 = .ok (.lload 12, 2) := by decide +kernel
theorem dX5_times_206 : decode cX5_times 206 = .ok (.land, 1) := by decide +kernel
theorem dX5_times_207 : decode cX5_times 207 = .ok (.bipush 26, 2) := by decide +kernel
theorem dX5_times_209 : decode cX5_times 209 = .ok (.lshl, 1) := by decide +kernel
theorem dX5_times_210 : decode cX5_times 210 = .ok (.lload 14, 2) := by decide +kernel
theorem dX5_times_212 : decode cX5_times 212 = .ok (.lload 12, 2) := by decide +kernel
theorem dX5_times_214 : decode cX5_times 214 = .ok (.land, 1) := by decide +kernel
theorem dX5_times_215 : decode cX5_times 215 = .ok (.lor, 1) := by decide +kernel
theorem dX5_times_216 : decode cX5_times 216 = .ok (.lstore 20, 2) := by decide +kernel
theorem dX5_times_218 : decode cX5_times 218 = .ok (.lload 20, 2) := by decide +kernel
theorem dX5_times_220 : decode cX5_times 220 = .ok (.ldc2_w 53, 3) := by decide +kernel
theorem dX5_times_223 : decode cX5_times 223 = .ok (.land, 1) := by decide +kernel
theorem dX5_times_224 : decode cX5_times 224 = .ok (.lstore 22, 2) := by decide +kernel
theorem dX5_times_226 : decode cX5_times 226 = .ok (.lload 18, 2) := by decide +kernel
theorem dX5_times_228 : decode cX5_times 228 = .ok (.bipush 8, 2) := by decide +kernel
theorem dX5_times_230 : decode cX5_times 230 = .ok (.lshl, 1) := by decide +kernel
theorem dX5_times_231 : decode cX5_times 231 = .ok (.lload 20, 2) := by decide +kernel
theorem dX5_times_233 : decode cX5_times 233 = .ok (.bipush 44, 2) := by decide +kernel
theorem dX5_times_235 : decode cX5_times 235 = .ok (.lushr, 1) := by decide +kernel
theorem dX5_times_236 : decode cX5_times 236 = .ok (.lor, 1) := by decide +kernel
theorem dX5_times_237 : decode cX5_times 237 = .ok (.lload 22, 2) := by decide +kernel
theorem dX5_times_239 : decode cX5_times 239 = .ok (.lconst 0, 1) := by decide +kernel
theorem dX5_times_240 : decode cX5_times 240 = .ok (.lcmp, 1) := by decide +kernel
theorem dX5_times_241 : decode cX5_times 241 = .ok (.ifCond .eq 7, 3) := by decide +kernel
theorem dX5_times_244 : decode cX5_times 244 = .ok (.iconst 1, 1) := by decide +kernel
theorem dX5_times_245 : decode cX5_times 245 = .ok (.goto 4, 3) := by decide +kernel
theorem dX5_times_248 : decode cX5_times 248 = .ok (.iconst 0, 1) := by decide +kernel
theorem dX5_times_249 : decode cX5_times 249 = .ok (.i2l, 1) := by decide +kernel
theorem dX5_times_250 : decode cX5_times 250 = .ok (.lor, 1) := by decide +kernel
theorem dX5_times_251 : decode cX5_times 251 = .ok (.lstore 24, 2) := by decide +kernel
theorem dX5_times_253 : decode cX5_times 253 = .ok (.lload 4, 2) := by decide +kernel
theorem dX5_times_255 : decode cX5_times 255 = .ok (.lload_n 0, 1) := by decide +kernel
theorem dX5_times_256 : decode cX5_times 256 = .ok (.invokestatic 44, 3) := by decide +kernel
theorem dX5_times_259 : decode cX5_times 259 = .ok (.lload_n 2, 1) := by decide +kernel
theorem dX5_times_260 : decode cX5_times 260 = .ok (.invokestatic 44, 3) := by decide +kernel
theorem dX5_times_263 : decode cX5_times 263 = .ok (.iadd, 1) := by decide +kernel
theorem dX5_times_264 : decode cX5_times 264 = .ok (.bipush 44, 2) := by decide +kernel
theorem dX5_times_266 : decode cX5_times 266 = .ok (.iadd, 1) := by decide +kernel
theorem dX5_times_267 : decode cX5_times 267 = .ok (.lload 24, 2) := by decide +kernel
theorem dX5_times_269 : decode cX5_times 269 = .ok (.invokestatic 25, 3) := by decide +kernel
theorem dX5_times_272 : decode cX5_times 272 = .ok (.lreturn, 1) := by decide +kernel
theorem dX5_over_0 : decode cX5_over 0 = .ok (.lload_n 0, 1) := by decide +kernel
theorem dX5_over_1 : decode cX5_over 1 = .ok (.lload_n 2, 1) := by decide +kernel
theorem dX5_over_2 : decode cX5_over 2 = .ok (.lxor, 1) := by decide +kernel
theorem dX5_over_3 : decode cX5_over 3 = .ok (.ldc2_w 13, 3) := by decide +kernel
theorem dX5_over_6 : decode cX5_over 6 = .ok (.land, 1) := by decide +kernel
theorem dX5_over_7 : decode cX5_over 7 = .ok (.lstore 4, 2) := by decide +kernel
theorem dX5_over_9 : decode cX5_over 9 = .ok (.lload_n 0, 1) := by decide +kernel
theorem dX5_over_10 : decode cX5_over 10 = .ok (.ldc2_w 9, 3) := by decide +kernel
theorem dX5_over_13 : decode cX5_over 13 = .ok (.land, 1) := by decide +kernel
theorem dX5_over_14 : decode cX5_over 14 = .ok (.lconst 0, 1) := by decide +kernel
theorem dX5_over_15 : decode cX5_over 15 = .ok (.lcmp, 1) := by decide +kernel
theorem dX5_over_16 : decode cX5_over 16 = .ok (.ifCond .ne 7, 3) := by decide +kernel
theorem dX5_over_19 : decode cX5_over 19 = .ok (.iconst 1, 1) := by decide +kernel
theorem dX5_over_20 : decode cX5_over 20 = .ok (.goto 4, 3) := by decide +kernel
theorem dX5_over_23 : decode cX5_over 23 = .ok (.iconst 0, 1) := by decide +kernel
theorem dX5_over_24 : decode cX5_over 24 = .ok (.istore 6, 2) := by decide +kernel
theorem dX5_over_26 : decode cX5_over 26 = .ok (.lload_n 2, 1) := by decide +kernel
theorem dX5_over_27 : decode cX5_over 27 = .ok (.ldc2_w 9, 3) := by decide +kernel
theorem dX5_over_30 : decode cX5_over 30 = .ok (.land, 1) := by decide +kernel
theorem dX5_over_31 : decode cX5_over 31 = .ok (.lconst 0, 1) := by decide +kernel
theorem dX5_over_32 : decode cX5_over 32 = .ok (.lcmp, 1) := by decide +kernel
theorem dX5_over_33 : decode cX5_over 33 = .ok (.ifCond .ne 7, 3) := by decide +kernel
theorem dX5_over_36 : decode cX5_over 36 = .ok (.iconst 1, 1) := by decide +kernel
theorem dX5_over_37 : decode cX5_over 37 = .ok (.goto 4, 3) := by decide +kernel
theorem dX5_over_40 : decode cX5_over 40 = .ok (.iconst 0, 1) := by decide +kernel
theorem dX5_over_41 : decode cX5_over 41 = .ok (.istore 7, 2) := by decide +kernel
theorem dX5_over_43 : decode cX5_over 43 = .ok (.lload_n 0, 1) := by decide +kernel
theorem dX5_over_44 : decode cX5_over 44 = .ok (.ldc2_w 9, 3) := by decide +kernel
theorem dX5_over_47 : decode cX5_over 47 = .ok (.land, 1) := by decide +kernel
theorem dX5_over_48 : decode cX5_over 48 = .ok (.ldc2_w 11, 3) := by decide +kernel
theorem dX5_over_51 : decode cX5_over 51 = .ok (.lcmp, 1) := by decide +kernel
theorem dX5_over_52 : decode cX5_over 52 = .ok (.ifCond .ne 7, 3) := by decide +kernel
theorem dX5_over_55 : decode cX5_over 55 = .ok (.iconst 1, 1) := by decide +kernel
theorem dX5_over_56 : decode cX5_over 56 = .ok (.goto 4, 3) := by decide +kernel
theorem dX5_over_59 : decode cX5_over 59 = .ok (.iconst 0, 1) := by decide +kernel
theorem dX5_over_60 : decode cX5_over 60 = .ok (.istore 8, 2) := by decide +kernel
theorem dX5_over_62 : decode cX5_over 62 = .ok (.lload_n 2, 1) := by decide +kernel
theorem dX5_over_63 : decode cX5_over 63 = .ok (.ldc2_w 9, 3) := by decide +kernel
theorem dX5_over_66 : decode cX5_over 66 = .ok (.land, 1) := by decide +kernel
theorem dX5_over_67 : decode cX5_over 67 = .ok (.ldc2_w 11, 3) := by decide +kernel
theorem dX5_over_70 : decode cX5_over 70 = .ok (.lcmp, 1) := by decide +kernel
theorem dX5_over_71 : decode cX5_over 71 = .ok (.ifCond .ne 7, 3) := by decide +kernel
theorem dX5_over_74 : decode cX5_over 74 = .ok (.iconst 1, 1) := by decide +kernel
theorem dX5_over_75 : decode cX5_over 75 = .ok (.goto 4, 3) := by decide +kernel
theorem dX5_over_78 : decode cX5_over 78 = .ok (.iconst 0, 1) := by decide +kernel
theorem dX5_over_79 : decode cX5_over 79 = .ok (.istore 9, 2) := by decide +kernel
theorem dX5_over_81 : decode cX5_over 81 = .ok (.lload_n 0, 1) := by decide +kernel
theorem dX5_over_82 : decode cX5_over 82 = .ok (.invokestatic 38, 3) := by decide +kernel
theorem dX5_over_85 : decode cX5_over 85 = .ok (.ifCond .ne 30, 3) := by decide +kernel
theorem dX5_over_88 : decode cX5_over 88 = .ok (.lload_n 2, 1) := by decide +kernel
theorem dX5_over_89 : decode cX5_over 89 = .ok (.invokestatic 38, 3) := by decide +kernel
theorem dX5_over_92 : decode cX5_over 92 = .ok (.ifCond .ne 23, 3) := by decide +kernel
theorem dX5_over_95 : decode cX5_over 95 = .ok (.iload 6, 2) := by decide +kernel
theorem dX5_over_97 : decode cX5_over 97 = .ok (.ifCond .eq 8, 3) := by decide +kernel
theorem dX5_over_100 : decode cX5_over 100 = .ok (.iload 7, 2) := by decide +kernel
theorem dX5_over_102 : decode cX5_over 102 = .ok (.ifCond .ne 13, 3) := by decide +kernel
theorem dX5_over_105 : decode cX5_over 105 = .ok (.iload 8, 2) := by decide +kernel
theorem dX5_over_107 : decode cX5_over 107 = .ok (.ifCond .eq 12, 3) := by decide +kernel
theorem dX5_over_110 : decode cX5_over 110 = .ok (.iload 9, 2) := by decide +kernel
theorem dX5_over_112 : decode cX5_over 112 = .ok (.ifCond .eq 7, 3) := by decide +kernel
theorem dX5_over_115 : decode cX5_over 115 = .ok (.ldc2_w 42, 3) := by decide +kernel
theorem dX5_over_118 : decode cX5_over 118 = .ok (.lreturn, 1) := by decide +kernel
theorem dX5_over_119 : decode cX5_over 119 = .ok (.iload 6, 2) := by decide +kernel
theorem dX5_over_121 : decode cX5_over 121 = .ok (.ifCond .ne 8, 3) := by decide +kernel
theorem dX5_over_124 : decode cX5_over 124 = .ok (.iload 9, 2) := by decide +kernel
theorem dX5_over_126 : decode cX5_over 126 = .ok (.ifCond .eq 6, 3) := by decide +kernel
theorem dX5_over_129 : decode cX5_over 129 = .ok (.lload 4, 2) := by decide +kernel
theorem dX5_over_131 : decode cX5_over 131 = .ok (.lreturn, 1) := by decide +kernel
theorem dX5_over_132 : decode cX5_over 132 = .ok (.iload 8, 2) := by decide +kernel
theorem dX5_over_134 : decode cX5_over 134 = .ok (.ifCond .ne 8, 3) := by decide +kernel
theorem dX5_over_137 : decode cX5_over 137 = .ok (.iload 7, 2) := by decide +kernel
theorem dX5_over_139 : decode cX5_over 139 = .ok (.ifCond .eq 10, 3) := by decide +kernel
theorem dX5_over_142 : decode cX5_over 142 = .ok (.lload 4, 2) := by decide +kernel
theorem dX5_over_144 : decode cX5_over 144 = .ok (.ldc2_w 11, 3) := by decide +kernel
theorem dX5_over_147 : decode cX5_over 147 = .ok (.lor, 1) := by decide +kernel
theorem dX5_over_148 : decode cX5_over 148 = .ok (.lreturn, 1) := by decide +kernel
theorem dX5_over_149 : decode cX5_over 149 = .ok (.lload_n 0, 1) := by decide +kernel
theorem dX5_over_150 : decode cX5_over 150 = .ok (.invokestatic 48, 3) := by decide +kernel
theorem dX5_over_153 : decode cX5_over 153 = .ok (.lstore 10, 2) := by decide +kernel
theorem dX5_over_155 : decode cX5_over 155 = .ok (.lload_n 2, 1) := by decide +kernel
theorem dX5_over_156 : decode cX5_over 156 = .ok (.invokestatic 48, 3) := by decide +kernel
theorem dX5_over_159 : decode cX5_over 159 = .ok (.lstore 12, 2) := by decide +kernel
theorem dX5_over_161 : decode cX5_over 161 = .ok (.lconst 0, 1) := by decide +kernel
theorem dX5_over_162 : decode cX5_over 162 = .ok (.lstore 14, 2) := by decide +kernel
theorem dX5_over_164 : decode cX5_over 164 = .ok (.iconst 0, 1) := by decide +kernel
theorem dX5_over_165 : decode cX5_over 165 = .ok (.istore 16, 2) := by decide +kernel
theorem dX5_over_167 : decode cX5_over 167 = .ok (.iload 16, 2) := by decide +kernel
theorem dX5_over_169 : decode cX5_over 169 = .ok (.bipush 60, 2) := by decide +kernel
theorem dX5_over_171 : decode cX5_over 171 = .ok (.if_icmp .gt 42, 3) := by decide +kernel
theorem dX5_over_174 : decode cX5_over 174 = .ok (.lload 14, 2) := by decide +kernel
theorem dX5_over_176 : decode cX5_over 176 = .ok (.iconst 1, 1) := by decide +kernel
theorem dX5_over_177 : decode cX5_over 177 = .ok (.lshl, 1) := by decide +kernel
theorem dX5_over_178 : decode cX5_over 178 = .ok (.lstore 14, 2) := by decide +kernel
theorem dX5_over_180 : decode cX5_over 180 = .ok (.lload 10, 2) := by decide +kernel
theorem dX5_over_182 : decode cX5_over 182 = .ok (.lload 12, 2) := by decide +kernel
theorem dX5_over_184 : decode cX5_over 184 = .ok (.lcmp, 1) := by decide +kernel
theorem dX5_over_185 : decode cX5_over 185 = .ok (.ifCond .lt 16, 3) := by decide +kernel
theorem dX5_over_188 : decode cX5_over 188 = .ok (.lload 10, 2) := by decide +kernel
theorem dX5_over_190 : decode cX5_over 190 = .ok (.lload 12, 2) := by decide +kernel
theorem dX5_over_192 : decode cX5_over 192 = .ok (.lsub, 1) := by decide +kernel
theorem dX5_over_193 : decode cX5_over 193 = .ok (.lstore 10, 2) := by decide +kernel
theorem dX5_over_195 : decode cX5_over 195 = .ok (.lload 14, 2) := by decide +kernel
theorem dX5_over_197 : decode cX5_over 197 = .ok (.lconst 1, 1) := by decide +kernel
theorem dX5_over_198 : decode cX5_over 198 = .ok (.lor, 1) := by decide +kernel
theorem dX5_over_199 : decode cX5_over 199 = .ok (.lstore 14, 2) := by decide +kernel
theorem dX5_over_201 : decode cX5_over 201 = .ok (.lload 10, 2) := by decide +kernel
theorem dX5_over_203 : decode cX5_over 203 = .ok (.iconst 1, 1) := by decide +kernel
theorem dX5_over_204 : decode cX5_over 204 = .ok (.lshl, 1) := by decide +kernel
theorem dX5_over_205 : decode cX5_over 205 = .ok (.lstore 10, 2) := by decide +kernel
theorem dX5_over_207 : decode cX5_over 207 = .ok (.iinc 16 1, 3) := by decide +kernel
theorem dX5_over_210 : decode cX5_over 210 = .ok (.goto (-43), 3) := by decide +kernel
theorem dX5_over_213 : decode cX5_over 213 = .ok (.lload 4, 2) := by decide +kernel
theorem dX5_over_215 : decode cX5_over 215 = .ok (.lload_n 0, 1) := by decide +kernel
theorem dX5_over_216 : decode cX5_over 216 = .ok (.invokestatic 44, 3) := by decide +kernel
theorem dX5_over_219 : decode cX5_over 219 = .ok (.lload_n 2, 1) := by decide +kernel
theorem dX5_over_220 : decode cX5_over 220 = .ok (.invokestatic 44, 3) := by decide +kernel
theorem dX5_over_223 : decode cX5_over 223 = .ok (.isub, 1) := by decide +kernel
theorem dX5_over_224 : decode cX5_over 224 = .ok (.bipush 60, 2) := by decide +kernel
theorem dX5_over_226 : decode cX5_over 226 = .ok (.isub, 1) := by decide +kernel
theorem dX5_over_227 : decode cX5_over 227 = .ok (.lload 14, 2) := by decide +kernel
theorem dX5_over_229 : decode cX5_over 229 = .ok (.lload 10, 2) := by decide +kernel
theorem dX5_over_231 : decode cX5_over 231 = .ok (.lconst 0, 1) := by decide +kernel
theorem dX5_over_232 : decode cX5_over 232 = .ok (.lcmp, 1) := by decide +kernel
theorem dX5_over_233 : decode cX5_over 233 = .ok (.ifCond .eq 7, 3) := by decide +kernel
theorem dX5_over_236 : decode cX5_over 236 = .ok (.iconst 1, 1) := by decide +kernel
theorem dX5_over_237 : decode cX5_over 237 = .ok (.goto 4, 3) := by decide +kernel
theorem dX5_over_240 : decode cX5_over 240 = .ok (.iconst 0, 1) := by decide +kernel
theorem dX5_over_241 : decode cX5_over 241 = .ok (.i2l, 1) := by decide +kernel
theorem dX5_over_242 : decode cX5_over 242 = .ok (.lor, 1) := by decide +kernel
theorem dX5_over_243 : decode cX5_over 243 = .ok (.invokestatic 25, 3) := by decide +kernel
theorem dX5_over_246 : decode cX5_over 246 = .ok (.lreturn, 1) := by decide +kernel
theorem dX5_remainder_0 : decode cX5_remainder 0 = .ok (.lload_n 0, 1) := by decide +kernel
theorem dX5_remainder_1 : decode cX5_remainder 1 = .ok (.invokestatic 38, 3) := by decide +kernel
theorem dX5_remainder_4 : decode cX5_remainder 4 = .ok (.ifCond .ne 32, 3) := by decide +kernel
theorem dX5_remainder_7 : decode cX5_remainder 7 = .ok (.lload_n 2, 1) := by decide +kernel
theorem dX5_remainder_8 : decode cX5_remainder 8 = .ok (.invokestatic 38, 3) := by decide +kernel
theorem dX5_remainder_11 : decode cX5_remainder 11 = .ok (.ifCond .ne 25, 3) := by decide +kernel
theorem dX5_remainder_14 : decode cX5_remainder 14 = .ok (.lload_n 0, 1) := by decide +kernel
theorem dX5_remainder_15 : decode cX5_remainder 15 = .ok (.ldc2_w 9, 3) := by decide +kernel
theorem dX5_remainder_18 : decode cX5_remainder 18 = .ok (.land, 1) := by decide +kernel
theorem dX5_remainder_19 : decode cX5_remainder 19 = .ok (.ldc2_w 11, 3) := by decide +kernel
theorem dX5_remainder_22 : decode cX5_remainder 22 = .ok (.lcmp, 1) := by decide +kernel
theorem dX5_remainder_23 : decode cX5_remainder 23 = .ok (.ifCond .eq 13, 3) := by decide +kernel
theorem dX5_remainder_26 : decode cX5_remainder 26 = .ok (.lload_n 2, 1) := by decide +kernel
theorem dX5_remainder_27 : decode cX5_remainder 27 = .ok (.ldc2_w 9, 3) := by decide +kernel
theorem dX5_remainder_30 : decode cX5_remainder 30 = .ok (.land, 1) := by decide +kernel
theorem dX5_remainder_31 : decode cX5_remainder 31 = .ok (.lconst 0, 1) := by decide +kernel
theorem dX5_remainder_32 : decode cX5_remainder 32 = .ok (.lcmp, 1) := by decide +kernel
theorem dX5_remainder_33 : decode cX5_remainder 33 = .ok (.ifCond .ne 7, 3) := by decide +kernel
theorem dX5_remainder_36 : decode cX5_remainder 36 = .ok (.ldc2_w 42, 3) := by decide +kernel
theorem dX5_remainder_39 : decode cX5_remainder 39 = .ok (.lreturn, 1) := by decide +kernel
theorem dX5_remainder_40 : decode cX5_remainder 40 = .ok (.lload_n 0, 1) := by decide +kernel
theorem dX5_remainder_41 : decode cX5_remainder 41 = .ok (.ldc2_w 9, 3) := by decide +kernel
theorem dX5_remainder_44 : decode cX5_remainder 44 = .ok (.land, 1) := by decide +kernel
theorem dX5_remainder_45 : decode cX5_remainder 45 = .ok (.lload_n 2, 1) := by decide +kernel
theorem dX5_remainder_46 : decode cX5_remainder 46 = .ok (.ldc2_w 9, 3) := by decide +kernel
theorem dX5_remainder_49 : decode cX5_remainder 49 = .ok (.land, 1) := by decide +kernel
theorem dX5_remainder_50 : decode cX5_remainder 50 = .ok (.lcmp, 1) := by decide +kernel
theorem dX5_remainder_51 : decode cX5_remainder 51 = .ok (.ifCond .ge 5, 3) := by decide +kernel
theorem dX5_remainder_54 : decode cX5_remainder 54 = .ok (.lload_n 0, 1) := by decide +kernel
theorem dX5_remainder_55 : decode cX5_remainder 55 = .ok (.lreturn, 1) := by decide +kernel
theorem dX5_remainder_56 : decode cX5_remainder 56 = .ok (.lload_n 2, 1) := by decide +kernel
theorem dX5_remainder_57 : decode cX5_remainder 57 = .ok (.invokestatic 48, 3) := by decide +kernel
theorem dX5_remainder_60 : decode cX5_remainder 60 = .ok (.lstore 4, 2) := by decide +kernel
theorem dX5_remainder_62 : decode cX5_remainder 62 = .ok (.lload 4, 2) := by decide +kernel
theorem dX5_remainder_64 : decode cX5_remainder 64 = .ok (.lconst 0, 1) := by decide +kernel
theorem dX5_remainder_65 : decode cX5_remainder 65 = .ok (.lcmp, 1) := by decide +kernel
theorem dX5_remainder_66 : decode cX5_remainder 66 = .ok (.ifCond .ne 7, 3) := by decide +kernel
theorem dX5_remainder_69 : decode cX5_remainder 69 = .ok (.ldc2_w 42, 3) := by decide +kernel
theorem dX5_remainder_72 : decode cX5_remainder 72 = .ok (.lreturn, 1) := by decide +kernel
theorem dX5_remainder_73 : decode cX5_remainder 73 = .ok (.lload_n 0, 1) := by decide +kernel
theorem dX5_remainder_74 : decode cX5_remainder 74 = .ok (.invokestatic 48, 3) := by decide +kernel
theorem dX5_remainder_77 : decode cX5_remainder 77 = .ok (.lload 4, 2) := by decide +kernel
theorem dX5_remainder_79 : decode cX5_remainder 79 = .ok (.lrem, 1) := by decide +kernel
theorem dX5_remainder_80 : decode cX5_remainder 80 = .ok (.lstore 6, 2) := by decide +kernel
theorem dX5_remainder_82 : decode cX5_remainder 82 = .ok (.lload_n 0, 1) := by decide +kernel
theorem dX5_remainder_83 : decode cX5_remainder 83 = .ok (.invokestatic 44, 3) := by decide +kernel
theorem dX5_remainder_86 : decode cX5_remainder 86 = .ok (.lload_n 2, 1) := by decide +kernel
theorem dX5_remainder_87 : decode cX5_remainder 87 = .ok (.invokestatic 44, 3) := by decide +kernel
theorem dX5_remainder_90 : decode cX5_remainder 90 = .ok (.isub, 1) := by decide +kernel
theorem dX5_remainder_91 : decode cX5_remainder 91 = .ok (.istore 8, 2) := by decide +kernel
theorem dX5_remainder_93 : decode cX5_remainder 93 = .ok (.iload 8, 2) := by decide +kernel
theorem dX5_remainder_95 : decode cX5_remainder 95 = .ok (.ifCond .le 24, 3) := by decide +kernel
theorem dX5_remainder_98 : decode cX5_remainder 98 = .ok (.lload 6, 2) := by decide +kernel
theorem dX5_remainder_100 : decode cX5_remainder 100 = .ok (.iload 8, 2) := by decide +kernel
theorem dX5_remainder_102 : decode cX5_remainder 102 = .ok (.bipush 10, 2) := by decide +kernel
theorem dX5_remainder_104 : decode cX5_remainder 104 = .ok (.invokestatic 55, 3) := by decide +kernel
theorem dX5_remainder_107 : decode cX5_remainder 107 = .ok (.lshl, 1) := by decide +kernel
theorem dX5_remainder_108 : decode cX5_remainder 108 = .ok (.lload 4, 2) := by decide +kernel
theorem dX5_remainder_110 : decode cX5_remainder 110 = .ok (.lrem, 1) := by decide +kernel
theorem dX5_remainder_111 : decode cX5_remainder 111 = .ok (.lstore 6, 2) := by decide +kernel
theorem dX5_remainder_113 : decode cX5_remainder 113 = .ok (.iinc 8 (-10), 3) := by decide +kernel
theorem dX5_remainder_116 : decode cX5_remainder 116 = .ok (.goto (-23), 3) := by decide +kernel
theorem dX5_remainder_119 : decode cX5_remainder 119 = .ok (.lload 6, 2) := by decide +kernel
theorem dX5_remainder_121 : decode cX5_remainder 121 = .ok (.lconst 0, 1) := by decide +kernel
theorem dX5_remainder_122 : decode cX5_remainder 122 = .ok (.lcmp, 1) := by decide +kernel
theorem dX5_remainder_123 : decode cX5_remainder 123 = .ok (.ifCond .ne 11, 3) := by decide +kernel
theorem dX5_remainder_126 : decode cX5_remainder 126 = .ok (.lload_n 0, 1) := by decide +kernel
theorem dX5_remainder_127 : decode cX5_remainder 127 = .ok (.ldc2_w 13, 3) := by decide +kernel
theorem dX5_remainder_130 : decode cX5_remainder 130 = .ok (.land, 1) := by decide +kernel
theorem dX5_remainder_131 : decode cX5_remainder 131 = .ok (.goto 17, 3) := by decide +kernel
theorem dX5_remainder_134 : decode cX5_remainder 134 = .ok (.lload_n 0, 1) := by decide +kernel
theorem dX5_remainder_135 : decode cX5_remainder 135 = .ok (.ldc2_w 13, 3) := by decide +kernel
theorem dX5_remainder_138 : decode cX5_remainder 138 = .ok (.land, 1) := by decide +kernel
theorem dX5_remainder_139 : decode cX5_remainder 139 = .ok (.lload_n 2, 1) := by decide +kernel
theorem dX5_remainder_140 : decode cX5_remainder 140 = .ok (.invokestatic 44, 3) := by decide +kernel
theorem dX5_remainder_143 : decode cX5_remainder 143 = .ok (.lload 6, 2) := by decide +kernel
theorem dX5_remainder_145 : decode cX5_remainder 145 = .ok (.invokestatic 25, 3) := by decide +kernel
theorem dX5_remainder_148 : decode cX5_remainder 148 = .ok (.lreturn, 1) := by decide +kernel
theorem dX5_root_0 : decode cX5_root 0 = .ok (.lload_n 0, 1) := by decide +kernel
theorem dX5_root_1 : decode cX5_root 1 = .ok (.invokestatic 38, 3) := by decide +kernel
theorem dX5_root_4 : decode cX5_root 4 = .ok (.ifCond .ne 21, 3) := by decide +kernel
theorem dX5_root_7 : decode cX5_root 7 = .ok (.lload_n 0, 1) := by decide +kernel
theorem dX5_root_8 : decode cX5_root 8 = .ok (.ldc2_w 9, 3) := by decide +kernel
theorem dX5_root_11 : decode cX5_root 11 = .ok (.land, 1) := by decide +kernel
theorem dX5_root_12 : decode cX5_root 12 = .ok (.lconst 0, 1) := by decide +kernel
theorem dX5_root_13 : decode cX5_root 13 = .ok (.lcmp, 1) := by decide +kernel
theorem dX5_root_14 : decode cX5_root 14 = .ok (.ifCond .eq 11, 3) := by decide +kernel
theorem dX5_root_17 : decode cX5_root 17 = .ok (.lload_n 0, 1) := by decide +kernel
theorem dX5_root_18 : decode cX5_root 18 = .ok (.ldc2_w 11, 3) := by decide +kernel
theorem dX5_root_21 : decode cX5_root 21 = .ok (.lcmp, 1) := by decide +kernel
theorem dX5_root_22 : decode cX5_root 22 = .ok (.ifCond .ne 5, 3) := by decide +kernel
theorem dX5_root_25 : decode cX5_root 25 = .ok (.lload_n 0, 1) := by decide +kernel
theorem dX5_root_26 : decode cX5_root 26 = .ok (.lreturn, 1) := by decide +kernel
theorem dX5_root_27 : decode cX5_root 27 = .ok (.lload_n 0, 1) := by decide +kernel
theorem dX5_root_28 : decode cX5_root 28 = .ok (.lconst 0, 1) := by decide +kernel
theorem dX5_root_29 : decode cX5_root 29 = .ok (.lcmp, 1) := by decide +kernel
theorem dX5_root_30 : decode cX5_root 30 = .ok (.ifCond .ge 7, 3) := by decide +kernel
theorem dX5_root_33 : decode cX5_root 33 = .ok (.ldc2_w 42, 3) := by decide +kernel
theorem dX5_root_36 : decode cX5_root 36 = .ok (.lreturn, 1) := by decide +kernel
theorem dX5_root_37 : decode cX5_root 37 = .ok (.lload_n 0, 1) := by decide +kernel
theorem dX5_root_38 : decode cX5_root 38 = .ok (.invokestatic 44, 3) := by decide +kernel
theorem dX5_root_41 : decode cX5_root 41 = .ok (.iconst 1, 1) := by decide +kernel
theorem dX5_root_42 : decode cX5_root 42 = .ok (.iand, 1) := by decide +kernel
theorem dX5_root_43 : decode cX5_root 43 = .ok (.ifCond .eq 7, 3) := by decide +kernel
theorem dX5_root_46 : decode cX5_root 46 = .ok (.iconst 1, 1) := by decide +kernel
theorem dX5_root_47 : decode cX5_root 47 = .ok (.goto 4, 3) := by decide +kernel
theorem dX5_root_50 : decode cX5_root 50 = .ok (.iconst 0, 1) := by decide +kernel
theorem dX5_root_51 : decode cX5_root 51 = .ok (.istore_n 2, 1) := by decide +kernel
theorem dX5_root_52 : decode cX5_root 52 = .ok (.iload_n 2, 1) := by decide +kernel
theorem dX5_root_53 : decode cX5_root 53 = .ok (.ifCond .eq 12, 3) := by decide +kernel
theorem dX5_root_56 : decode cX5_root 56 = .ok (.lload_n 0, 1) := by decide +kernel
theorem dX5_root_57 : decode cX5_root 57 = .ok (.invokestatic 48, 3) := by decide +kernel
theorem dX5_root_60 : decode cX5_root 60 = .ok (.iconst 1, 1) := by decide +kernel
theorem dX5_root_61 : decode cX5_root 61 = .ok (.lshl, 1) := by decide +kernel
theorem dX5_root_62 : decode cX5_root 62 = .ok (.goto 7, 3) := by decide +kernel
theorem dX5_root_65 : decode cX5_root 65 = .ok (.lload_n 0, 1) := by decide +kernel
theorem dX5_root_66 : decode cX5_root 66 = .ok (.invokestatic 48, 3) := by decide +kernel
theorem dX5_root_69 : decode cX5_root 69 = .ok (.lstore_n 3, 1) := by decide +kernel
theorem dX5_root_70 : decode cX5_root 70 = .ok (.iload_n 2, 1) := by decide +kernel
theorem dX5_root_71 : decode cX5_root 71 = .ok (.ifCond .eq 12, 3) := by decide +kernel
theorem dX5_root_74 : decode cX5_root 74 = .ok (.lload_n 0, 1) := by decide +kernel
theorem dX5_root_75 : decode cX5_root 75 = .ok (.invokestatic 44, 3) := by decide +kernel
theorem dX5_root_78 : decode cX5_root 78 = .ok (.iconst 1, 1) := by decide +kernel
theorem dX5_root_79 : decode cX5_root 79 = .ok (.isub, 1) := by decide +kernel
theorem dX5_root_80 : decode cX5_root 80 = .ok (.goto 7, 3) := by decide +kernel
theorem dX5_root_83 : decode cX5_root 83 = .ok (.lload_n 0, 1) := by decide +kernel
theorem dX5_root_84 : decode cX5_root 84 = .ok (.invokestatic 44, 3) := by decide +kernel
theorem dX5_root_87 : decode cX5_root 87 = .ok (.istore 5, 2) := by decide +kernel
theorem dX5_root_89 : decode cX5_root 89 = .ok (.lconst 0, 1) := by decide +kernel
theorem dX5_root_90 : decode cX5_root 90 = .ok (.lstore 6, 2) := by decide +kernel
theorem dX5_root_92 : decode cX5_root 92 = .ok (.lconst 0, 1) := by decide +kernel
theorem dX5_root_93 : decode cX5_root 93 = .ok (.lstore 8, 2) := by decide +kernel
theorem dX5_root_95 : decode cX5_root 95 = .ok (.iconst 0, 1) := by decide +kernel
theorem dX5_root_96 : decode cX5_root 96 = .ok (.istore 10, 2) := by decide +kernel
theorem dX5_root_98 : decode cX5_root 98 = .ok (.iload 10, 2) := by decide +kernel
theorem dX5_root_100 : decode cX5_root 100 = .ok (.bipush 57, 2) := by decide +kernel
theorem dX5_root_102 : decode cX5_root 102 = .ok (.if_icmp .ge 79, 3) := by decide +kernel
theorem dX5_root_105 : decode cX5_root 105 = .ok (.iload 10, 2) := by decide +kernel
theorem dX5_root_107 : decode cX5_root 107 = .ok (.bipush 27, 2) := by decide +kernel
theorem dX5_root_109 : decode cX5_root 109 = .ok (.if_icmp .ge 19, 3) := by decide +kernel
theorem dX5_root_112 : decode cX5_root 112 = .ok (.lload_n 3, 1) := by decide +kernel
theorem dX5_root_113 : decode cX5_root 113 = .ok (.bipush 52, 2) := by decide +kernel
theorem dX5_root_115 : decode cX5_root 115 = .ok (.iconst 2, 1) := by decide +kernel
theorem dX5_root_116 : decode cX5_root 116 = .ok (.iload 10, 2) := by decide +kernel
theorem dX5_root_118 : decode cX5_root 118 = .ok (.imul, 1) := by decide +kernel
theorem dX5_root_119 : decode cX5_root 119 = .ok (.isub, 1) := by decide +kernel
theorem dX5_root_120 : decode cX5_root 120 = .ok (.lushr, 1) := by decide +kernel
theorem dX5_root_121 : decode cX5_root 121 = .ok (.ldc2_w 61, 3) := by decide +kernel
theorem dX5_root_124 : decode cX5_root 124 = .ok (.land, 1) := by decide +kernel
theorem dX5_root_125 : decode cX5_root 125 = .ok (.goto 4, 3) := by decide +kernel
theorem dX5_root_128 : decode cX5_root 128 = .ok (.lconst 0, 1) := by decide +kernel
theorem dX5_root_129 : decode cX5_root 129 = .ok (.lstore 11, 2) := by decide +kernel
theorem dX5_root_131 : decode cX5_root 131 = .ok (.lload 8, 2) := by decide +kernel
theorem dX5_root_133 : decode cX5_root 133 = .ok (.iconst 2, 1) := by decide +kernel
theorem dX5_root_134 : decode cX5_root 134 = .ok (.lshl, 1) := by decide +kernel
theorem dX5_root_135 : decode cX5_root 135 = .ok (.lload 11, 2) := by decide +kernel
theorem dX5_root_137 : decode cX5_root 137 = .ok (.lor, 1) := by decide +kernel
theorem dX5_root_138 : decode cX5_root 138 = .ok (.lstore 8, 2) := by decide +kernel
theorem dX5_root_140 : decode cX5_root 140 = .ok (.lload 6, 2) := by decide +kernel
theorem dX5_root_142 : decode cX5_root 142 = .ok (.iconst 2, 1) := by decide +kernel
theorem dX5_root_143 : decode cX5_root 143 = .ok (.lshl, 1) := by decide +kernel
theorem dX5_root_144 : decode cX5_root 144 = .ok (.lconst 1, 1) := by decide +kernel
theorem dX5_root_145 : decode cX5_root 145 = .ok (.lor, 1) := by decide +kernel
theorem dX5_root_146 : decode cX5_root 146 = .ok (.lstore 13, 2) := by decide +kernel
theorem dX5_root_148 : decode cX5_root 148 = .ok (.lload 6, 2) := by decide +kernel
theorem dX5_root_150 : decode cX5_root 150 = .ok (.iconst 1, 1) := by decide +kernel
theorem dX5_root_151 : decode cX5_root 151 = .ok (.lshl, 1) := by decide +kernel
theorem dX5_root_152 : decode cX5_root 152 = .ok (.lstore 6, 2) := by decide +kernel
theorem dX5_root_154 : decode cX5_root 154 = .ok (.lload 8, 2) := by decide +kernel
theorem dX5_root_156 : decode cX5_root 156 = .ok (.lload 13, 2) := by decide +kernel
theorem dX5_root_158 : decode cX5_root 158 = .ok (.lcmp, 1) := by decide +kernel
theorem dX5_root_159 : decode cX5_root 159 = .ok (.ifCond .lt 16, 3) := by decide +kernel
theorem dX5_root_162 : decode cX5_root 162 = .ok (.lload 8, 2) := by decide +kernel
theorem dX5_root_164 : decode cX5_root 164 = .ok (.lload 13, 2) := by decide +kernel
theorem dX5_root_166 : decode cX5_root 166 = .ok (.lsub, 1) := by decide +kernel
theorem dX5_root_167 : decode cX5_root 167 = .ok (.lstore 8, 2) := by decide +kernel
theorem dX5_root_169 : decode cX5_root 169 = .ok (.lload 6, 2) := by decide +kernel
theorem dX5_root_171 : decode cX5_root 171 = .ok (.lconst 1, 1) := by decide +kernel
theorem dX5_root_172 : decode cX5_root 172 = .ok (.lor, 1) := by decide +kernel
theorem dX5_root_173 : decode cX5_root 173 = .ok (.lstore 6, 2) := by decide +kernel
theorem dX5_root_175 : decode cX5_root 175 = .ok (.iinc 10 1, 3) := by decide +kernel
theorem dX5_root_178 : decode cX5_root 178 = .ok (.goto (-80), 3) := by decide +kernel
theorem dX5_root_181 : decode cX5_root 181 = .ok (.lconst 0, 1) := by decide +kernel
theorem dX5_root_182 : decode cX5_root 182 = .ok (.iload 5, 2) := by decide +kernel
theorem dX5_root_184 : decode cX5_root 184 = .ok (.bipush 60, 2) := by decide +kernel
theorem dX5_root_186 : decode cX5_root 186 = .ok (.isub, 1) := by decide +kernel
theorem dX5_root_187 : decode cX5_root 187 = .ok (.iconst 2, 1) := by decide +kernel
theorem dX5_root_188 : decode cX5_root 188 = .ok (.idiv, 1) := by decide +kernel
theorem dX5_root_189 : decode cX5_root 189 = .ok (.iconst 1, 1) := by decide +kernel
theorem dX5_root_190 : decode cX5_root 190 = .ok (.isub, 1) := by decide +kernel
theorem dX5_root_191 : decode cX5_root 191 = .ok (.lload 6, 2) := by decide +kernel
theorem dX5_root_193 : decode cX5_root 193 = .ok (.iconst 1, 1) := by decide +kernel
theorem dX5_root_194 : decode cX5_root 194 = .ok (.lshl, 1) := by decide +kernel
theorem dX5_root_195 : decode cX5_root 195 = .ok (.lload 8, 2) := by decide +kernel
theorem dX5_root_197 : decode cX5_root 197 = .ok (.lconst 0, 1) := by decide +kernel
theorem dX5_root_198 : decode cX5_root 198 = .ok (.lcmp, 1) := by decide +kernel
theorem dX5_root_199 : decode cX5_root 199 = .ok (.ifCond .eq 7, 3) := by decide +kernel
theorem dX5_root_202 : decode cX5_root 202 = .ok (.iconst 1, 1) := by decide +kernel
theorem dX5_root_203 : decode cX5_root 203 = .ok (.goto 4, 3) := by decide +kernel
theorem dX5_root_206 : decode cX5_root 206 = .ok (.iconst 0, 1) := by decide +kernel
theorem dX5_root_207 : decode cX5_root 207 = .ok (.i2l, 1) := by decide +kernel
theorem dX5_root_208 : decode cX5_root 208 = .ok (.lor, 1) := by decide +kernel
theorem dX5_root_209 : decode cX5_root 209 = .ok (.invokestatic 25, 3) := by decide +kernel
theorem dX5_root_212 : decode cX5_root 212 = .ok (.lreturn, 1) := by decide +kernel
theorem dX5_power_0 : decode cX5_power 0 = .ok (.lload_n 0, 1) := by decide +kernel
theorem dX5_power_1 : decode cX5_power 1 = .ok (.ldc2_w 11, 3) := by decide +kernel
theorem dX5_power_4 : decode cX5_power 4 = .ok (.land, 1) := by decide +kernel
theorem dX5_power_5 : decode cX5_power 5 = .ok (.bipush 52, 2) := by decide +kernel
theorem dX5_power_7 : decode cX5_power 7 = .ok (.lushr, 1) := by decide +kernel
theorem dX5_power_8 : decode cX5_power 8 = .ok (.l2i, 1) := by decide +kernel
theorem dX5_power_9 : decode cX5_power 9 = .ok (.sipush 1023, 3) := by decide +kernel
theorem dX5_power_12 : decode cX5_power 12 = .ok (.isub, 1) := by decide +kernel
theorem dX5_power_13 : decode cX5_power 13 = .ok (.ireturn, 1) := by decide +kernel
theorem dX5_below_0 : decode cX5_below 0 = .ok (.lload_n 0, 1) := by decide +kernel
theorem dX5_below_1 : decode cX5_below 1 = .ok (.invokestatic 63, 3) := by decide +kernel
theorem dX5_below_4 : decode cX5_below 4 = .ok (.istore_n 2, 1) := by decide +kernel
theorem dX5_below_5 : decode cX5_below 5 = .ok (.iload_n 2, 1) := by decide +kernel
theorem dX5_below_6 : decode cX5_below 6 = .ok (.bipush 52, 2) := by decide +kernel
theorem dX5_below_8 : decode cX5_below 8 = .ok (.if_icmp .lt 5, 3) := by decide +kernel
theorem dX5_below_11 : decode cX5_below 11 = .ok (.lload_n 0, 1) := by decide +kernel
theorem dX5_below_12 : decode cX5_below 12 = .ok (.lreturn, 1) := by decide +kernel
theorem dX5_below_13 : decode cX5_below 13 = .ok (.iload_n 2, 1) := by decide +kernel
theorem dX5_below_14 : decode cX5_below 14 = .ok (.ifCond .ge 29, 3) := by decide +kernel
theorem dX5_below_17 : decode cX5_below 17 = .ok (.lload_n 0, 1) := by decide +kernel
theorem dX5_below_18 : decode cX5_below 18 = .ok (.lconst 0, 1) := by decide +kernel
theorem dX5_below_19 : decode cX5_below 19 = .ok (.lcmp, 1) := by decide +kernel
theorem dX5_below_20 : decode cX5_below 20 = .ok (.ifCond .ge 11, 3) := by decide +kernel
theorem dX5_below_23 : decode cX5_below 23 = .ok (.lload_n 0, 1) := by decide +kernel
theorem dX5_below_24 : decode cX5_below 24 = .ok (.ldc2_w 13, 3) := by decide +kernel
theorem dX5_below_27 : decode cX5_below 27 = .ok (.lcmp, 1) := by decide +kernel
theorem dX5_below_28 : decode cX5_below 28 = .ok (.ifCond .ne 11, 3) := by decide +kernel
theorem dX5_below_31 : decode cX5_below 31 = .ok (.lload_n 0, 1) := by decide +kernel
theorem dX5_below_32 : decode cX5_below 32 = .ok (.ldc2_w 13, 3) := by decide +kernel
theorem dX5_below_35 : decode cX5_below 35 = .ok (.land, 1) := by decide +kernel
theorem dX5_below_36 : decode cX5_below 36 = .ok (.goto 6, 3) := by decide +kernel
theorem dX5_below_39 : decode cX5_below 39 = .ok (.ldc2_w 66, 3) := by decide +kernel
theorem dX5_below_42 : decode cX5_below 42 = .ok (.lreturn, 1) := by decide +kernel
theorem dX5_below_43 : decode cX5_below 43 = .ok (.ldc2_w 19, 3) := by decide +kernel
theorem dX5_below_46 : decode cX5_below 46 = .ok (.iload_n 2, 1) := by decide +kernel
theorem dX5_below_47 : decode cX5_below 47 = .ok (.lushr, 1) := by decide +kernel
theorem dX5_below_48 : decode cX5_below 48 = .ok (.lstore_n 3, 1) := by decide +kernel
theorem dX5_below_49 : decode cX5_below 49 = .ok (.lload_n 0, 1) := by decide +kernel
theorem dX5_below_50 : decode cX5_below 50 = .ok (.lconst 0, 1) := by decide +kernel
theorem dX5_below_51 : decode cX5_below 51 = .ok (.lcmp, 1) := by decide +kernel
theorem dX5_below_52 : decode cX5_below 52 = .ok (.ifCond .ge 15, 3) := by decide +kernel
theorem dX5_below_55 : decode cX5_below 55 = .ok (.lload_n 0, 1) := by decide +kernel
theorem dX5_below_56 : decode cX5_below 56 = .ok (.lload_n 3, 1) := by decide +kernel
theorem dX5_below_57 : decode cX5_below 57 = .ok (.ladd, 1) := by decide +kernel
theorem dX5_below_58 : decode cX5_below 58 = .ok (.lload_n 3, 1) := by decide +kernel
theorem dX5_below_59 : decode cX5_below 59 = .ok (.ldc2_w 68, 3) := by decide +kernel
theorem dX5_below_62 : decode cX5_below 62 = .ok (.lxor, 1) := by decide +kernel
theorem dX5_below_63 : decode cX5_below 63 = .ok (.land, 1) := by decide +kernel
theorem dX5_below_64 : decode cX5_below 64 = .ok (.goto 10, 3) := by decide +kernel
theorem dX5_below_67 : decode cX5_below 67 = .ok (.lload_n 0, 1) := by decide +kernel
theorem dX5_below_68 : decode cX5_below 68 = .ok (.lload_n 3, 1) := by decide +kernel
theorem dX5_below_69 : decode cX5_below 69 = .ok (.ldc2_w 68, 3) := by decide +kernel
theorem dX5_below_72 : decode cX5_below 72 = .ok (.lxor, 1) := by decide +kernel
theorem dX5_below_73 : decode cX5_below 73 = .ok (.land, 1) := by decide +kernel
theorem dX5_below_74 : decode cX5_below 74 = .ok (.lreturn, 1) := by decide +kernel
theorem dX5_near_0 : decode cX5_near 0 = .ok (.lload_n 0, 1) := by decide +kernel
theorem dX5_near_1 : decode cX5_near 1 = .ok (.invokestatic 63, 3) := by decide +kernel
theorem dX5_near_4 : decode cX5_near 4 = .ok (.istore_n 2, 1) := by decide +kernel
theorem dX5_near_5 : decode cX5_near 5 = .ok (.iload_n 2, 1) := by decide +kernel
theorem dX5_near_6 : decode cX5_near 6 = .ok (.bipush 52, 2) := by decide +kernel
theorem dX5_near_8 : decode cX5_near 8 = .ok (.if_icmp .lt 5, 3) := by decide +kernel
theorem dX5_near_11 : decode cX5_near 11 = .ok (.lload_n 0, 1) := by decide +kernel
theorem dX5_near_12 : decode cX5_near 12 = .ok (.lreturn, 1) := by decide +kernel
theorem dX5_near_13 : decode cX5_near 13 = .ok (.iload_n 2, 1) := by decide +kernel
theorem dX5_near_14 : decode cX5_near 14 = .ok (.ifCond .ge 33, 3) := by decide +kernel
theorem dX5_near_17 : decode cX5_near 17 = .ok (.lload_n 0, 1) := by decide +kernel
theorem dX5_near_18 : decode cX5_near 18 = .ok (.ldc2_w 9, 3) := by decide +kernel
theorem dX5_near_21 : decode cX5_near 21 = .ok (.land, 1) := by decide +kernel
theorem dX5_near_22 : decode cX5_near 22 = .ok (.ldc2_w 70, 3) := by decide +kernel
theorem dX5_near_25 : decode cX5_near 25 = .ok (.lcmp, 1) := by decide +kernel
theorem dX5_near_26 : decode cX5_near 26 = .ok (.ifCond .le 15, 3) := by decide +kernel
theorem dX5_near_29 : decode cX5_near 29 = .ok (.lload_n 0, 1) := by decide +kernel
theorem dX5_near_30 : decode cX5_near 30 = .ok (.ldc2_w 13, 3) := by decide +kernel
theorem dX5_near_33 : decode cX5_near 33 = .ok (.land, 1) := by decide +kernel
theorem dX5_near_34 : decode cX5_near 34 = .ok (.ldc2_w 72, 3) := by decide +kernel
theorem dX5_near_37 : decode cX5_near 37 = .ok (.lor, 1) := by decide +kernel
theorem dX5_near_38 : decode cX5_near 38 = .ok (.goto 8, 3) := by decide +kernel
theorem dX5_near_41 : decode cX5_near 41 = .ok (.lload_n 0, 1) := by decide +kernel
theorem dX5_near_42 : decode cX5_near 42 = .ok (.ldc2_w 13, 3) := by decide +kernel
theorem dX5_near_45 : decode cX5_near 45 = .ok (.land, 1) := by decide +kernel
theorem dX5_near_46 : decode cX5_near 46 = .ok (.lreturn, 1) := by decide +kernel
theorem dX5_near_47 : decode cX5_near 47 = .ok (.ldc2_w 19, 3) := by decide +kernel
theorem dX5_near_50 : decode cX5_near 50 = .ok (.iload_n 2, 1) := by decide +kernel
theorem dX5_near_51 : decode cX5_near 51 = .ok (.lushr, 1) := by decide +kernel
theorem dX5_near_52 : decode cX5_near 52 = .ok (.lstore_n 3, 1) := by decide +kernel
theorem dX5_near_53 : decode cX5_near 53 = .ok (.lload_n 3, 1) := by decide +kernel
theorem dX5_near_54 : decode cX5_near 54 = .ok (.lconst 1, 1) := by decide +kernel
theorem dX5_near_55 : decode cX5_near 55 = .ok (.ladd, 1) := by decide +kernel
theorem dX5_near_56 : decode cX5_near 56 = .ok (.lstore 5, 2) := by decide +kernel
theorem dX5_near_58 : decode cX5_near 58 = .ok (.lload 5, 2) := by decide +kernel
theorem dX5_near_60 : decode cX5_near 60 = .ok (.iconst 1, 1) := by decide +kernel
theorem dX5_near_61 : decode cX5_near 61 = .ok (.lushr, 1) := by decide +kernel
theorem dX5_near_62 : decode cX5_near 62 = .ok (.lstore 7, 2) := by decide +kernel
theorem dX5_near_64 : decode cX5_near 64 = .ok (.lload_n 0, 1) := by decide +kernel
theorem dX5_near_65 : decode cX5_near 65 = .ok (.lload_n 3, 1) := by decide +kernel
theorem dX5_near_66 : decode cX5_near 66 = .ok (.land, 1) := by decide +kernel
theorem dX5_near_67 : decode cX5_near 67 = .ok (.lstore 9, 2) := by decide +kernel
theorem dX5_near_69 : decode cX5_near 69 = .ok (.lload_n 0, 1) := by decide +kernel
theorem dX5_near_70 : decode cX5_near 70 = .ok (.lload 5, 2) := by decide +kernel
theorem dX5_near_72 : decode cX5_near 72 = .ok (.land, 1) := by decide +kernel
theorem dX5_near_73 : decode cX5_near 73 = .ok (.lconst 0, 1) := by decide +kernel
theorem dX5_near_74 : decode cX5_near 74 = .ok (.lcmp, 1) := by decide +kernel
theorem dX5_near_75 : decode cX5_near 75 = .ok (.ifCond .eq 7, 3) := by decide +kernel
theorem dX5_near_78 : decode cX5_near 78 = .ok (.iconst 1, 1) := by decide +kernel
theorem dX5_near_79 : decode cX5_near 79 = .ok (.goto 4, 3) := by decide +kernel
theorem dX5_near_82 : decode cX5_near 82 = .ok (.iconst 0, 1) := by decide +kernel
theorem dX5_near_83 : decode cX5_near 83 = .ok (.istore 11, 2) := by decide +kernel
theorem dX5_near_85 : decode cX5_near 85 = .ok (.lload_n 0, 1) := by decide +kernel
theorem dX5_near_86 : decode cX5_near 86 = .ok (.lload_n 3, 1) := by decide +kernel
theorem dX5_near_87 : decode cX5_near 87 = .ok (.ldc2_w 68, 3) := by decide +kernel
theorem dX5_near_90 : decode cX5_near 90 = .ok (.lxor, 1) := by decide +kernel
theorem dX5_near_91 : decode cX5_near 91 = .ok (.land, 1) := by decide +kernel
theorem dX5_near_92 : decode cX5_near 92 = .ok (.lload 9, 2) := by decide +kernel
theorem dX5_near_94 : decode cX5_near 94 = .ok (.lload 7, 2) := by decide +kernel
theorem dX5_near_96 : decode cX5_near 96 = .ok (.lcmp, 1) := by decide +kernel
theorem dX5_near_97 : decode cX5_near 97 = .ok (.ifCond .gt 16, 3) := by decide +kernel
theorem dX5_near_100 : decode cX5_near 100 = .ok (.lload 9, 2) := by decide +kernel
theorem dX5_near_102 : decode cX5_near 102 = .ok (.lload 7, 2) := by decide +kernel
theorem dX5_near_104 : decode cX5_near 104 = .ok (.lcmp, 1) := by decide +kernel
theorem dX5_near_105 : decode cX5_near 105 = .ok (.ifCond .ne 13, 3) := by decide +kernel
theorem dX5_near_108 : decode cX5_near 108 = .ok (.iload 11, 2) := by decide +kernel
theorem dX5_near_110 : decode cX5_near 110 = .ok (.ifCond .eq 8, 3) := by decide +kernel
theorem dX5_near_113 : decode cX5_near 113 = .ok (.lload 5, 2) := by decide +kernel
theorem dX5_near_115 : decode cX5_near 115 = .ok (.goto 4, 3) := by decide +kernel
theorem dX5_near_118 : decode cX5_near 118 = .ok (.lconst 0, 1) := by decide +kernel
theorem dX5_near_119 : decode cX5_near 119 = .ok (.ladd, 1) := by decide +kernel
theorem dX5_near_120 : decode cX5_near 120 = .ok (.lreturn, 1) := by decide +kernel
theorem dX5_cutOff_0 : decode cX5_cutOff 0 = .ok (.lload_n 0, 1) := by decide +kernel
theorem dX5_cutOff_1 : decode cX5_cutOff 1 = .ok (.invokestatic 63, 3) := by decide +kernel
theorem dX5_cutOff_4 : decode cX5_cutOff 4 = .ok (.istore_n 2, 1) := by decide +kernel
theorem dX5_cutOff_5 : decode cX5_cutOff 5 = .ok (.lload_n 0, 1) := by decide +kernel
theorem dX5_cutOff_6 : decode cX5_cutOff 6 = .ok (.invokestatic 38, 3) := by decide +kernel
theorem dX5_cutOff_9 : decode cX5_cutOff 9 = .ok (.ifCond .ne 7, 3) := by decide +kernel
theorem dX5_cutOff_12 : decode cX5_cutOff 12 = .ok (.iload_n 2, 1) := by decide +kernel
theorem dX5_cutOff_13 : decode cX5_cutOff 13 = .ok (.ifCond .ge 5, 3) := by decide +kernel
theorem dX5_cutOff_16 : decode cX5_cutOff 16 = .ok (.lconst 0, 1) := by decide +kernel
theorem dX5_cutOff_17 : decode cX5_cutOff 17 = .ok (.lreturn, 1) := by decide +kernel
theorem dX5_cutOff_18 : decode cX5_cutOff 18 = .ok (.iload_n 2, 1) := by decide +kernel
theorem dX5_cutOff_19 : decode cX5_cutOff 19 = .ok (.bipush 63, 2) := by decide +kernel
theorem dX5_cutOff_21 : decode cX5_cutOff 21 = .ok (.if_icmp .lt 19, 3) := by decide +kernel
theorem dX5_cutOff_24 : decode cX5_cutOff 24 = .ok (.lload_n 0, 1) := by decide +kernel
theorem dX5_cutOff_25 : decode cX5_cutOff 25 = .ok (.lconst 0, 1) := by decide +kernel
theorem dX5_cutOff_26 : decode cX5_cutOff 26 = .ok (.lcmp, 1) := by decide +kernel
theorem dX5_cutOff_27 : decode cX5_cutOff 27 = .ok (.ifCond .ge 9, 3) := by decide +kernel
theorem dX5_cutOff_30 : decode cX5_cutOff 30 = .ok (.ldc2_w 13, 3) := by decide +kernel
theorem dX5_cutOff_33 : decode cX5_cutOff 33 = .ok (.goto 6, 3) := by decide +kernel
theorem dX5_cutOff_36 : decode cX5_cutOff 36 = .ok (.ldc2_w 9, 3) := by decide +kernel
theorem dX5_cutOff_39 : decode cX5_cutOff 39 = .ok (.lreturn, 1) := by decide +kernel
theorem dX5_cutOff_40 : decode cX5_cutOff 40 = .ok (.lload_n 0, 1) := by decide +kernel
theorem dX5_cutOff_41 : decode cX5_cutOff 41 = .ok (.ldc2_w 19, 3) := by decide +kernel
theorem dX5_cutOff_44 : decode cX5_cutOff 44 = .ok (.land, 1) := by decide +kernel
theorem dX5_cutOff_45 : decode cX5_cutOff 45 = .ok (.ldc2_w 21, 3) := by decide +kernel
theorem dX5_cutOff_48 : decode cX5_cutOff 48 = .ok (.lor, 1) := by decide +kernel
theorem dX5_cutOff_49 : decode cX5_cutOff 49 = .ok (.lstore_n 3, 1) := by decide +kernel
theorem dX5_cutOff_50 : decode cX5_cutOff 50 = .ok (.iload_n 2, 1) := by decide +kernel
theorem dX5_cutOff_51 : decode cX5_cutOff 51 = .ok (.bipush 52, 2) := by decide +kernel
theorem dX5_cutOff_53 : decode cX5_cutOff 53 = .ok (.if_icmp .le 12, 3) := by decide +kernel
theorem dX5_cutOff_56 : decode cX5_cutOff 56 = .ok (.lload_n 3, 1) := by decide +kernel
theorem dX5_cutOff_57 : decode cX5_cutOff 57 = .ok (.iload_n 2, 1) := by decide +kernel
theorem dX5_cutOff_58 : decode cX5_cutOff 58 = .ok (.bipush 52, 2) := by decide +kernel
theorem dX5_cutOff_60 : decode cX5_cutOff 60 = .ok (.isub, 1) := by decide +kernel
theorem dX5_cutOff_61 : decode cX5_cutOff 61 = .ok (.lshl, 1) := by decide +kernel
theorem dX5_cutOff_62 : decode cX5_cutOff 62 = .ok (.goto 9, 3) := by decide +kernel
theorem dX5_cutOff_65 : decode cX5_cutOff 65 = .ok (.lload_n 3, 1) := by decide +kernel
theorem dX5_cutOff_66 : decode cX5_cutOff 66 = .ok (.bipush 52, 2) := by decide +kernel
theorem dX5_cutOff_68 : decode cX5_cutOff 68 = .ok (.iload_n 2, 1) := by decide +kernel
theorem dX5_cutOff_69 : decode cX5_cutOff 69 = .ok (.isub, 1) := by decide +kernel
theorem dX5_cutOff_70 : decode cX5_cutOff 70 = .ok (.lushr, 1) := by decide +kernel
theorem dX5_cutOff_71 : decode cX5_cutOff 71 = .ok (.lstore 5, 2) := by decide +kernel
theorem dX5_cutOff_73 : decode cX5_cutOff 73 = .ok (.lload_n 0, 1) := by decide +kernel
theorem dX5_cutOff_74 : decode cX5_cutOff 74 = .ok (.lconst 0, 1) := by decide +kernel
theorem dX5_cutOff_75 : decode cX5_cutOff 75 = .ok (.lcmp, 1) := by decide +kernel
theorem dX5_cutOff_76 : decode cX5_cutOff 76 = .ok (.ifCond .ge 9, 3) := by decide +kernel
theorem dX5_cutOff_79 : decode cX5_cutOff 79 = .ok (.lload 5, 2) := by decide +kernel
theorem dX5_cutOff_81 : decode cX5_cutOff 81 = .ok (.lneg, 1) := by decide +kernel
theorem dX5_cutOff_82 : decode cX5_cutOff 82 = .ok (.goto 5, 3) := by decide +kernel
theorem dX5_cutOff_85 : decode cX5_cutOff 85 = .ok (.lload 5, 2) := by decide +kernel
theorem dX5_cutOff_87 : decode cX5_cutOff 87 = .ok (.lreturn, 1) := by decide +kernel
theorem dX6_init_0 : decode cX6_init 0 = .ok (.aload_n 0, 1) := by decide +kernel
theorem dX6_init_1 : decode cX6_init 1 = .ok (.invokespecial 3, 3) := by decide +kernel
theorem dX6_init_4 : decode cX6_init 4 = .ok (.aload_n 0, 1) := by decide +kernel
theorem dX6_init_5 : decode cX6_init 5 = .ok (.bipush 16, 2) := by decide +kernel
theorem dX6_init_7 : decode cX6_init 7 = .ok (.newarray .boolean, 2) := by decide +kernel
theorem dX6_init_9 : decode cX6_init 9 = .ok (.putfield 11, 3) := by decide +kernel
theorem dX6_init_12 : decode cX6_init 12 = .ok (.aload_n 0, 1) := by decide +kernel
theorem dX6_init_13 : decode cX6_init 13 = .ok (.bipush 16, 2) := by decide +kernel
theorem dX6_init_15 : decode cX6_init 15 = .ok (.newarray .int, 2) := by decide +kernel
theorem dX6_init_17 : decode cX6_init 17 = .ok (.putfield 15, 3) := by decide +kernel
theorem dX6_init_20 : decode cX6_init 20 = .ok (.aload_n 0, 1) := by decide +kernel
theorem dX6_init_21 : decode cX6_init 21 = .ok (.sipush 200, 3) := by decide +kernel
theorem dX6_init_24 : decode cX6_init 24 = .ok (.anewarray 19, 3) := by decide +kernel
theorem dX6_init_27 : decode cX6_init 27 = .ok (.putfield 21, 3) := by decide +kernel
theorem dX6_init_30 : decode cX6_init 30 = .ok (.iconst 0, 1) := by decide +kernel
theorem dX6_init_31 : decode cX6_init 31 = .ok (.istore_n 1, 1) := by decide +kernel
theorem dX6_init_32 : decode cX6_init 32 = .ok (.iload_n 1, 1) := by decide +kernel
theorem dX6_init_33 : decode cX6_init 33 = .ok (.aload_n 0, 1) := by decide +kernel
theorem dX6_init_34 : decode cX6_init 34 = .ok (.getfield 21, 3) := by decide +kernel
theorem dX6_init_37 : decode cX6_init 37 = .ok (.arraylength, 1) := by decide +kernel
theorem dX6_init_38 : decode cX6_init 38 = .ok (.if_icmp .ge 22, 3) := by decide +kernel
theorem dX6_init_41 : decode cX6_init 41 = .ok (.aload_n 0, 1) := by decide +kernel
theorem dX6_init_42 : decode cX6_init 42 = .ok (.getfield 21, 3) := by decide +kernel
theorem dX6_init_45 : decode cX6_init 45 = .ok (.iload_n 1, 1) := by decide +kernel
theorem dX6_init_46 : decode cX6_init 46 = .ok (.new 19, 3) := by decide +kernel
theorem dX6_init_49 : decode cX6_init 49 = .ok (.dup, 1) := by decide +kernel
theorem dX6_init_50 : decode cX6_init 50 = .ok (.invokespecial 25, 3) := by decide +kernel
theorem dX6_init_53 : decode cX6_init 53 = .ok (.aastore, 1) := by decide +kernel
theorem dX6_init_54 : decode cX6_init 54 = .ok (.iinc 1 1, 3) := by decide +kernel
theorem dX6_init_57 : decode cX6_init 57 = .ok (.goto (-25), 3) := by decide +kernel
theorem dX6_init_60 : decode cX6_init 60 = .ok (.return_, 1) := by decide +kernel
theorem dX6_addPerson_0 : decode cX6_addPerson 0 = .ok (.aload_n 0, 1) := by decide +kernel
theorem dX6_addPerson_1 : decode cX6_addPerson 1 = .ok (.getfield 26, 3) := by decide +kernel
theorem dX6_addPerson_4 : decode cX6_addPerson 4 = .ok (.bipush 16, 2) := by decide +kernel
theorem dX6_addPerson_6 : decode cX6_addPerson 6 = .ok (.if_icmp .lt 6, 3) := by decide +kernel
theorem dX6_addPerson_9 : decode cX6_addPerson 9 = .ok (.bipush (-5), 2) := by decide +kernel
theorem dX6_addPerson_11 : decode cX6_addPerson 11 = .ok (.ireturn, 1) := by decide +kernel
theorem dX6_addPerson_12 : decode cX6_addPerson 12 = .ok (.aload_n 0, 1) := by decide +kernel
theorem dX6_addPerson_13 : decode cX6_addPerson 13 = .ok (.getfield 11, 3) := by decide +kernel
theorem dX6_addPerson_16 : decode cX6_addPerson 16 = .ok (.aload_n 0, 1) := by decide +kernel
theorem dX6_addPerson_17 : decode cX6_addPerson 17 = .ok (.getfield 26, 3) := by decide +kernel
theorem dX6_addPerson_20 : decode cX6_addPerson 20 = .ok (.iload_n 1, 1) := by decide +kernel
theorem dX6_addPerson_21 : decode cX6_addPerson 21 = .ok (.bastore, 1) := by decide +kernel
theorem dX6_addPerson_22 : decode cX6_addPerson 22 = .ok (.aload_n 0, 1) := by decide +kernel
theorem dX6_addPerson_23 : decode cX6_addPerson 23 = .ok (.getfield 15, 3) := by decide +kernel
theorem dX6_addPerson_26 : decode cX6_addPerson 26 = .ok (.aload_n 0, 1) := by decide +kernel
theorem dX6_addPerson_27 : decode cX6_addPerson 27 = .ok (.getfield 26, 3) := by decide +kernel
theorem dX6_addPerson_30 : decode cX6_addPerson 30 = .ok (.iload_n 2, 1) := by decide +kernel
theorem dX6_addPerson_31 : decode cX6_addPerson 31 = .ok (.iastore, 1) := by decide +kernel
theorem dX6_addPerson_32 : decode cX6_addPerson 32 = .ok (.aload_n 0, 1) := by decide +kernel
theorem dX6_addPerson_33 : decode cX6_addPerson 33 = .ok (.dup, 1) := by decide +kernel
theorem dX6_addPerson_34 : decode cX6_addPerson 34 = .ok (.getfield 26, 3) := by decide +kernel
theorem dX6_addPerson_37 : decode cX6_addPerson 37 = .ok (.dup_x1, 1) := by decide +kernel
theorem dX6_addPerson_38 : decode cX6_addPerson 38 = .ok (.iconst 1, 1) := by decide +kernel
theorem dX6_addPerson_39 : decode cX6_addPerson 39 = .ok (.iadd, 1) := by decide +kernel
theorem dX6_addPerson_40 : decode cX6_addPerson 40 = .ok (.putfield 26, 3) := by decide +kernel
theorem dX6_addPerson_43 : decode cX6_addPerson 43 = .ok (.ireturn, 1) := by decide +kernel
theorem dX6_hasPerson_0 : decode cX6_hasPerson 0 = .ok (.lload_n 1, 1) := by decide +kernel
theorem dX6_hasPerson_1 : decode cX6_hasPerson 1 = .ok (.lconst 0, 1) := by decide +kernel
theorem dX6_hasPerson_2 : decode cX6_hasPerson 2 = .ok (.lcmp, 1) := by decide +kernel
theorem dX6_hasPerson_3 : decode cX6_hasPerson 3 = .ok (.ifCond .lt 17, 3) := by decide +kernel
theorem dX6_hasPerson_6 : decode cX6_hasPerson 6 = .ok (.lload_n 1, 1) := by decide +kernel
theorem dX6_hasPerson_7 : decode cX6_hasPerson 7 = .ok (.aload_n 0, 1) := by decide +kernel
theorem dX6_hasPerson_8 : decode cX6_hasPerson 8 = .ok (.getfield 26, 3) := by decide +kernel
theorem dX6_hasPerson_11 : decode cX6_hasPerson 11 = .ok (.i2l, 1) := by decide +kernel
theorem dX6_hasPerson_12 : decode cX6_hasPerson 12 = .ok (.lcmp, 1) := by decide +kernel
theorem dX6_hasPerson_13 : decode cX6_hasPerson 13 = .ok (.ifCond .ge 7, 3) := by decide +kernel
theorem dX6_hasPerson_16 : decode cX6_hasPerson 16 = .ok (.iconst 1, 1) := by decide +kernel
theorem dX6_hasPerson_17 : decode cX6_hasPerson 17 = .ok (.goto 4, 3) := by decide +kernel
theorem dX6_hasPerson_20 : decode cX6_hasPerson 20 = .ok (.iconst 0, 1) := by decide +kernel
theorem dX6_hasPerson_21 : decode cX6_hasPerson 21 = .ok (.ireturn, 1) := by decide +kernel
theorem dX6_belongs_0 : decode cX6_belongs 0 = .ok (.iload_n 1, 1) := by decide +kernel
theorem dX6_belongs_1 : decode cX6_belongs 1 = .ok (.iconst 5, 1) := by decide +kernel
theorem dX6_belongs_2 : decode cX6_belongs 2 = .ok (.if_icmp .eq 11, 3) := by decide +kernel
theorem dX6_belongs_5 : decode cX6_belongs 5 = .ok (.aload_n 0, 1) := by decide +kernel
theorem dX6_belongs_6 : decode cX6_belongs 6 = .ok (.lload_n 2, 1) := by decide +kernel
theorem dX6_belongs_7 : decode cX6_belongs 7 = .ok (.invokevirtual 32, 3) := by decide +kernel
theorem dX6_belongs_10 : decode cX6_belongs 10 = .ok (.ifCond .ne 5, 3) := by decide +kernel
theorem dX6_belongs_13 : decode cX6_belongs 13 = .ok (.iconst 1, 1) := by decide +kernel
theorem dX6_belongs_14 : decode cX6_belongs 14 = .ok (.ireturn, 1) := by decide +kernel
theorem dX6_belongs_15 : decode cX6_belongs 15 = .ok (.aload_n 0, 1) := by decide +kernel
theorem dX6_belongs_16 : decode cX6_belongs 16 = .ok (.getfield 11, 3) := by decide +kernel
theorem dX6_belongs_19 : decode cX6_belongs 19 = .ok (.lload_n 2, 1) := by decide +kernel
theorem dX6_belongs_20 : decode cX6_belongs 20 = .ok (.l2i, 1) := by decide +kernel
theorem dX6_belongs_21 : decode cX6_belongs 21 = .ok (.baload, 1) := by decide +kernel
theorem dX6_belongs_22 : decode cX6_belongs 22 = .ok (.iload_n 1, 1) := by decide +kernel
theorem dX6_belongs_23 : decode cX6_belongs 23 = .ok (.bipush 6, 2) := by decide +kernel
theorem dX6_belongs_25 : decode cX6_belongs 25 = .ok (.if_icmp .ne 7, 3) := by decide +kernel
theorem dX6_belongs_28 : decode cX6_belongs 28 = .ok (.iconst 1, 1) := by decide +kernel
theorem dX6_belongs_29 : decode cX6_belongs 29 = .ok (.goto 4, 3) := by decide +kernel
theorem dX6_belongs_32 : decode cX6_belongs 32 = .ok (.iconst 0, 1) := by decide +kernel
theorem dX6_belongs_33 : decode cX6_belongs 33 = .ok (.if_icmp .ne 7, 3) := by decide +kernel
theorem dX6_belongs_36 : decode cX6_belongs 36 = .ok (.iconst 1, 1) := by decide +kernel
theorem dX6_belongs_37 : decode cX6_belongs 37 = .ok (.goto 4, 3) := by decide +kernel
theorem dX6_belongs_40 : decode cX6_belongs 40 = .ok (.iconst 0, 1) := by decide +kernel
theorem dX6_belongs_41 : decode cX6_belongs 41 = .ok (.ireturn, 1) := by decide +kernel
theorem dX6_latest_0 : decode cX6_latest 0 = .ok (.aload_n 0, 1) := by decide +kernel
theorem dX6_latest_1 : decode cX6_latest 1 = .ok (.getfield 36, 3) := by decide +kernel
theorem dX6_latest_4 : decode cX6_latest 4 = .ok (.iconst 1, 1) := by decide +kernel
theorem dX6_latest_5 : decode cX6_latest 5 = .ok (.isub, 1) := by decide +kernel
theorem dX6_latest_6 : decode cX6_latest 6 = .ok (.istore 6, 2) := by decide +kernel
theorem dX6_latest_8 : decode cX6_latest 8 = .ok (.iload 6, 2) := by decide +kernel
theorem dX6_latest_10 : decode cX6_latest 10 = .ok (.ifCond .lt 52, 3) := by decide +kernel
theorem dX6_latest_13 : decode cX6_latest 13 = .ok (.aload_n 0, 1) := by decide +kernel
theorem dX6_latest_14 : decode cX6_latest 14 = .ok (.getfield 21, 3) := by decide +kernel
theorem dX6_latest_17 : decode cX6_latest 17 = .ok (.iload 6, 2) := by decide +kernel
theorem dX6_latest_19 : decode cX6_latest 19 = .ok (.aaload, 1) := by decide +kernel
theorem dX6_latest_20 : decode cX6_latest 20 = .ok (.astore 7, 2) := by decide +kernel
theorem dX6_latest_22 : decode cX6_latest 22 = .ok (.aload 7, 2) := by decide +kernel
theorem dX6_latest_24 : decode cX6_latest 24 = .ok (.getfield 39, 3) := by decide +kernel
theorem dX6_latest_27 : decode cX6_latest 27 = .ok (.iload_n 1, 1) := by decide +kernel
theorem dX6_latest_28 : decode cX6_latest 28 = .ok (.if_icmp .ne 28, 3) := by decide +kernel
theorem dX6_latest_31 : decode cX6_latest 31 = .ok (.aload 7, 2) := by decide +kernel
theorem dX6_latest_33 : decode cX6_latest 33 = .ok (.getfield 42, 3) := by decide +kernel
theorem dX6_latest_36 : decode cX6_latest 36 = .ok (.lload_n 2, 1) := by decide +kernel
theorem dX6_latest_37 : decode cX6_latest 37 = .ok (.lcmp, 1) := by decide +kernel
theorem dX6_latest_38 : decode cX6_latest 38 = .ok (.ifCond .ne 18, 3) := by decide +kernel
theorem dX6_latest_41 : decode cX6_latest 41 = .ok (.aload 7, 2) := by decide +kernel
theorem dX6_latest_43 : decode cX6_latest 43 = .ok (.iload 4, 2) := by decide +kernel
theorem dX6_latest_45 : decode cX6_latest 45 = .ok (.iload 5, 2) := by decide +kernel
theorem dX6_latest_47 : decode cX6_latest 47 = .ok (.invokevirtual 46, 3) := by decide +kernel
theorem dX6_latest_50 : decode cX6_latest 50 = .ok (.ifCond .eq 6, 3) := by decide +kernel
theorem dX6_latest_53 : decode cX6_latest 53 = .ok (.iload 6, 2) := by decide +kernel
theorem dX6_latest_55 : decode cX6_latest 55 = .ok (.ireturn, 1) := by decide +kernel
theorem dX6_latest_56 : decode cX6_latest 56 = .ok (.iinc 6 (-1), 3) := by decide +kernel
theorem dX6_latest_59 : decode cX6_latest 59 = .ok (.goto (-51), 3) := by decide +kernel
theorem dX6_latest_62 : decode cX6_latest 62 = .ok (.iconst (-1), 1) := by decide +kernel
theorem dX6_latest_63 : decode cX6_latest 63 = .ok (.ireturn, 1) := by decide +kernel
theorem dX7_init_0 : decode cX7_init 0 = .ok (.aload_n 0, 1) := by decide +kernel
theorem dX7_init_1 : decode cX7_init 1 = .ok (.invokespecial 1, 3) := by decide +kernel
theorem dX7_init_4 : decode cX7_init 4 = .ok (.aload_n 0, 1) := by decide +kernel
theorem dX7_init_5 : decode cX7_init 5 = .ok (.sipush 1600, 3) := by decide +kernel
theorem dX7_init_8 : decode cX7_init 8 = .ok (.newarray .byte, 2) := by decide +kernel
theorem dX7_init_10 : decode cX7_init 10 = .ok (.putfield 9, 3) := by decide +kernel
theorem dX7_init_13 : decode cX7_init 13 = .ok (.return_, 1) := by decide +kernel
theorem dX7_add_0 : decode cX7_add 0 = .ok (.aload_n 0, 1) := by decide +kernel
theorem dX7_add_1 : decode cX7_add 1 = .ok (.getfield 13, 3) := by decide +kernel
theorem dX7_add_4 : decode cX7_add 4 = .ok (.sipush 1600, 3) := by decide +kernel
theorem dX7_add_7 : decode cX7_add 7 = .ok (.if_icmp .ge 20, 3) := by decide +kernel
theorem dX7_add_10 : decode cX7_add 10 = .ok (.aload_n 0, 1) := by decide +kernel
theorem dX7_add_11 : decode cX7_add 11 = .ok (.getfield 9, 3) := by decide +kernel
theorem dX7_add_14 : decode cX7_add 14 = .ok (.aload_n 0, 1) := by decide +kernel
theorem dX7_add_15 : decode cX7_add 15 = .ok (.dup, 1) := by decide +kernel
theorem dX7_add_16 : decode cX7_add 16 = .ok (.getfield 13, 3) := by decide +kernel
theorem dX7_add_19 : decode cX7_add 19 = .ok (.dup_x1, 1) := by decide +kernel
theorem dX7_add_20 : decode cX7_add 20 = .ok (.iconst 1, 1) := by decide +kernel
theorem dX7_add_21 : decode cX7_add 21 = .ok (.iadd, 1) := by decide +kernel
theorem dX7_add_22 : decode cX7_add 22 = .ok (.putfield 13, 3) := by decide +kernel
theorem dX7_add_25 : decode cX7_add 25 = .ok (.iload_n 1, 1) := by decide +kernel
theorem dX7_add_26 : decode cX7_add 26 = .ok (.bastore, 1) := by decide +kernel
theorem dX7_add_27 : decode cX7_add 27 = .ok (.return_, 1) := by decide +kernel
theorem dX7_open_0 : decode cX7_open 0 = .ok (.aload_n 0, 1) := by decide +kernel
theorem dX7_open_1 : decode cX7_open 1 = .ok (.aload_n 0, 1) := by decide +kernel
theorem dX7_open_2 : decode cX7_open 2 = .ok (.getfield 13, 3) := by decide +kernel
theorem dX7_open_5 : decode cX7_open 5 = .ok (.putfield 17, 3) := by decide +kernel
theorem dX7_open_8 : decode cX7_open 8 = .ok (.aload_n 0, 1) := by decide +kernel
theorem dX7_open_9 : decode cX7_open 9 = .ok (.iconst 0, 1) := by decide +kernel
theorem dX7_open_10 : decode cX7_open 10 = .ok (.putfield 20, 3) := by decide +kernel
theorem dX7_open_13 : decode cX7_open 13 = .ok (.aload_n 0, 1) := by decide +kernel
theorem dX7_open_14 : decode cX7_open 14 = .ok (.iconst 0, 1) := by decide +kernel
theorem dX7_open_15 : decode cX7_open 15 = .ok (.putfield 13, 3) := by decide +kernel
theorem dX7_open_18 : decode cX7_open 18 = .ok (.return_, 1) := by decide +kernel
theorem dX7_takeName_0 : decode cX7_takeName 0 = .ok (.aload_n 0, 1) := by decide +kernel
theorem dX7_takeName_1 : decode cX7_takeName 1 = .ok (.invokevirtual 23, 3) := by decide +kernel
theorem dX7_takeName_4 : decode cX7_takeName 4 = .ok (.aload_n 0, 1) := by decide +kernel
theorem dX7_takeName_5 : decode cX7_takeName 5 = .ok (.invokevirtual 26, 3) := by decide +kernel
theorem dX7_takeName_8 : decode cX7_takeName 8 = .ok (.aload_n 0, 1) := by decide +kernel
theorem dX7_takeName_9 : decode cX7_takeName 9 = .ok (.getfield 29, 3) := by decide +kernel
theorem dX7_takeName_12 : decode cX7_takeName 12 = .ok (.iconst 2, 1) := by decide +kernel
theorem dX7_takeName_13 : decode cX7_takeName 13 = .ok (.if_icmp .eq 5, 3) := by decide +kernel
theorem dX7_takeName_16 : decode cX7_takeName 16 = .ok (.lconst 0, 1) := by decide +kernel
theorem dX7_takeName_17 : decode cX7_takeName 17 = .ok (.lreturn, 1) := by decide +kernel
theorem dX7_takeName_18 : decode cX7_takeName 18 = .ok (.aload_n 0, 1) := by decide +kernel
theorem dX7_takeName_19 : decode cX7_takeName 19 = .ok (.getfield 32, 3) := by decide +kernel
theorem dX7_takeName_22 : decode cX7_takeName 22 = .ok (.lstore_n 1, 1) := by decide +kernel
theorem dX7_takeName_23 : decode cX7_takeName 23 = .ok (.aload_n 0, 1) := by decide +kernel
theorem dX7_takeName_24 : decode cX7_takeName 24 = .ok (.invokevirtual 26, 3) := by decide +kernel
theorem dX7_takeName_27 : decode cX7_takeName 27 = .ok (.aload_n 0, 1) := by decide +kernel
theorem dX7_takeName_28 : decode cX7_takeName 28 = .ok (.getfield 29, 3) := by decide +kernel
theorem dX7_takeName_31 : decode cX7_takeName 31 = .ok (.ifCond .ne 7, 3) := by decide +kernel
theorem dX7_takeName_34 : decode cX7_takeName 34 = .ok (.lload_n 1, 1) := by decide +kernel
theorem dX7_takeName_35 : decode cX7_takeName 35 = .ok (.goto 4, 3) := by decide +kernel
theorem dX7_takeName_38 : decode cX7_takeName 38 = .ok (.lconst 0, 1) := by decide +kernel
theorem dX7_takeName_39 : decode cX7_takeName 39 = .ok (.lreturn, 1) := by decide +kernel
theorem dX7_next_0 : decode cX7_next 0 = .ok (.aload_n 0, 1) := by decide +kernel
theorem dX7_next_1 : decode cX7_next 1 = .ok (.getfield 20, 3) := by decide +kernel
theorem dX7_next_4 : decode cX7_next 4 = .ok (.aload_n 0, 1) := by decide +kernel
theorem dX7_next_5 : decode cX7_next 5 = .ok (.getfield 17, 3) := by decide +kernel
theorem dX7_next_8 : decode cX7_next 8 = .ok (.if_icmp .ge 42, 3) := by decide +kernel
theorem dX7_next_11 : decode cX7_next 11 = .ok (.aload_n 0, 1) := by decide +kernel
theorem dX7_next_12 : decode cX7_next 12 = .ok (.aload_n 0, 1) := by decide +kernel
theorem dX7_next_13 : decode cX7_next 13 = .ok (.getfield 20, 3) := by decide +kernel
theorem dX7_next_16 : decode cX7_next 16 = .ok (.invokevirtual 36, 3) := by decide +kernel
theorem dX7_next_19 : decode cX7_next 19 = .ok (.bipush 32, 2) := by decide +kernel
theorem dX7_next_21 : decode cX7_next 21 = .ok (.if_icmp .eq 16, 3) := by decide +kernel
theorem dX7_next_24 : decode cX7_next 24 = .ok (.aload_n 0, 1) := by decide +kernel
theorem dX7_next_25 : decode cX7_next 25 = .ok (.aload_n 0, 1) := by decide +kernel
theorem dX7_next_26 : decode cX7_next 26 = .ok (.getfield 20, 3) := by decide +kernel
theorem dX7_next_29 : decode cX7_next 29 = .ok (.invokevirtual 36, 3) := by decide +kernel
theorem dX7_next_32 : decode cX7_next 32 = .ok (.bipush 10, 2) := by decide +kernel
theorem dX7_next_34 : decode cX7_next 34 = .ok (.if_icmp .ne 16, 3) := by decide +kernel
theorem dX7_next_37 : decode cX7_next 37 = .ok (.aload_n 0, 1) := by decide +kernel
theorem dX7_next_38 : decode cX7_next 38 = .ok (.dup, 1) := by decide +kernel
theorem dX7_next_39 : decode cX7_next 39 = .ok (.getfield 20, 3) := by decide +kernel
theorem dX7_next_42 : decode cX7_next 42 = .ok (.iconst 1, 1) := by decide +kernel
theorem dX7_next_43 : decode cX7_next 43 = .ok (.iadd, 1) := by decide +kernel
theorem dX7_next_44 : decode cX7_next 44 = .ok (.putfield 20, 3) := by decide +kernel
theorem dX7_next_47 : decode cX7_next 47 = .ok (.goto (-47), 3) := by decide +kernel
theorem dX7_next_50 : decode cX7_next 50 = .ok (.aload_n 0, 1) := by decide +kernel
theorem dX7_next_51 : decode cX7_next 51 = .ok (.aload_n 0, 1) := by decide +kernel
theorem dX7_next_52 : decode cX7_next 52 = .ok (.getfield 20, 3) := by decide +kernel
theorem dX7_next_55 : decode cX7_next 55 = .ok (.putfield 40, 3) := by decide +kernel
theorem dX7_next_58 : decode cX7_next 58 = .ok (.aload_n 0, 1) := by decide +kernel
theorem dX7_next_59 : decode cX7_next 59 = .ok (.aload_n 0, 1) := by decide +kernel
theorem dX7_next_60 : decode cX7_next 60 = .ok (.getfield 20, 3) := by decide +kernel
theorem dX7_next_63 : decode cX7_next 63 = .ok (.invokevirtual 36, 3) := by decide +kernel
theorem dX7_next_66 : decode cX7_next 66 = .ok (.istore_n 1, 1) := by decide +kernel
theorem dX7_next_67 : decode cX7_next 67 = .ok (.aload_n 0, 1) := by decide +kernel
theorem dX7_next_68 : decode cX7_next 68 = .ok (.getfield 20, 3) := by decide +kernel
theorem dX7_next_71 : decode cX7_next 71 = .ok (.aload_n 0, 1) := by decide +kernel
theorem dX7_next_72 : decode cX7_next 72 = .ok (.getfield 17, 3) := by decide +kernel
theorem dX7_next_75 : decode cX7_next 75 = .ok (.if_icmp .lt 11, 3) := by decide +kernel
theorem dX7_next_78 : decode cX7_next 78 = .ok (.aload_n 0, 1) := by decide +kernel
theorem dX7_next_79 : decode cX7_next 79 = .ok (.iconst 0, 1) := by decide +kernel
theorem dX7_next_80 : decode cX7_next 80 = .ok (.putfield 29, 3) := by decide +kernel
theorem dX7_next_83 : decode cX7_next 83 = .ok (.goto 36, 3) := by decide +kernel
theorem dX7_next_86 : decode cX7_next 86 = .ok (.iload_n 1, 1) := by decide +kernel
theorem dX7_next_87 : decode cX7_next 87 = .ok (.invokestatic 43, 3) := by decide +kernel
theorem dX7_next_90 : decode cX7_next 90 = .ok (.ifCond .eq 10, 3) := by decide +kernel
theorem dX7_next_93 : decode cX7_next 93 = .ok (.aload_n 0, 1) := by decide +kernel
theorem dX7_next_94 : decode cX7_next 94 = .ok (.invokevirtual 47, 3) := by decide +kernel
theorem dX7_next_97 : decode cX7_next 97 = .ok (.goto 22, 3) := by decide +kernel
theorem dX7_next_100 : decode cX7_next 100 = .ok (.iload_n 1, 1) := by decide +kernel
theorem dX7_next_101 : decode cX7_next 101 = .ok (.invokestatic 50, 3) := by decide +kernel
theorem dX7_next_104 : decode cX7_next 104 = .ok (.ifCond .eq 10, 3) := by decide +kernel
theorem dX7_next_107 : decode cX7_next 107 = .ok (.aload_n 0, 1) := by decide +kernel
theorem dX7_next_108 : decode cX7_next 108 = .ok (.invokevirtual 53, 3) := by decide +kernel
theorem dX7_next_111 : decode cX7_next 111 = .ok (.goto 8, 3) := by decide +kernel
theorem dX7_next_114 : decode cX7_next 114 = .ok (.aload_n 0, 1) := by decide +kernel
theorem dX7_next_115 : decode cX7_next 115 = .ok (.iload_n 1, 1) := by decide +kernel
theorem dX7_next_116 : decode cX7_next 116 = .ok (.invokevirtual 56, 3) := by decide +kernel
theorem dX7_next_119 : decode cX7_next 119 = .ok (.return_, 1) := by decide +kernel
theorem dX7_byteAt_0 : decode cX7_byteAt 0 = .ok (.iload_n 1, 1) := by decide +kernel
theorem dX7_byteAt_1 : decode cX7_byteAt 1 = .ok (.ifCond .lt 31, 3) := by decide +kernel
theorem dX7_byteAt_4 : decode cX7_byteAt 4 = .ok (.iload_n 1, 1) := by decide +kernel
theorem dX7_byteAt_5 : decode cX7_byteAt 5 = .ok (.aload_n 0, 1) := by decide +kernel
theorem dX7_byteAt_6 : decode cX7_byteAt 6 = .ok (.getfield 17, 3) := by decide +kernel
theorem dX7_byteAt_9 : decode cX7_byteAt 9 = .ok (.if_icmp .ge 23, 3) := by decide +kernel
theorem dX7_byteAt_12 : decode cX7_byteAt 12 = .ok (.iload_n 1, 1) := by decide +kernel
theorem dX7_byteAt_13 : decode cX7_byteAt 13 = .ok (.sipush 1600, 3) := by decide +kernel
theorem dX7_byteAt_16 : decode cX7_byteAt 16 = .ok (.if_icmp .ge 16, 3) := by decide +kernel
theorem dX7_byteAt_19 : decode cX7_byteAt 19 = .ok (.aload_n 0, 1) := by decide +kernel
theorem dX7_byteAt_20 : decode cX7_byteAt 20 = .ok (.getfield 9, 3) := by decide +kernel
theorem dX7_byteAt_23 : decode cX7_byteAt 23 = .ok (.iload_n 1, 1) := by decide +kernel
theorem dX7_byteAt_24 : decode cX7_byteAt 24 = .ok (.baload, 1) := by decide +kernel
theorem dX7_byteAt_25 : decode cX7_byteAt 25 = .ok (.sipush 255, 3) := by decide +kernel
theorem dX7_byteAt_28 : decode cX7_byteAt 28 = .ok (.iand, 1) := by decide +kernel
theorem dX7_byteAt_29 : decode cX7_byteAt 29 = .ok (.goto 4, 3) := by decide +kernel
theorem dX7_byteAt_32 : decode cX7_byteAt 32 = .ok (.iconst (-1), 1) := by decide +kernel
theorem dX7_byteAt_33 : decode cX7_byteAt 33 = .ok (.ireturn, 1) := by decide +kernel
theorem dX7_isLetter_0 : decode cX7_isLetter 0 = .ok (.iload_n 0, 1) := by decide +kernel
theorem dX7_isLetter_1 : decode cX7_isLetter 1 = .ok (.bipush 97, 2) := by decide +kernel
theorem dX7_isLetter_3 : decode cX7_isLetter 3 = .ok (.if_icmp .lt 13, 3) := by decide +kernel
theorem dX7_isLetter_6 : decode cX7_isLetter 6 = .ok (.iload_n 0, 1) := by decide +kernel
theorem dX7_isLetter_7 : decode cX7_isLetter 7 = .ok (.bipush 122, 2) := by decide +kernel
theorem dX7_isLetter_9 : decode cX7_isLetter 9 = .ok (.if_icmp .gt 7, 3) := by decide +kernel
theorem dX7_isLetter_12 : decode cX7_isLetter 12 = .ok (.iconst 1, 1) := by decide +kernel
theorem dX7_isLetter_13 : decode cX7_isLetter 13 = .ok (.goto 4, 3) := by decide +kernel
theorem dX7_isLetter_16 : decode cX7_isLetter 16 = .ok (.iconst 0, 1) := by decide +kernel
theorem dX7_isLetter_17 : decode cX7_isLetter 17 = .ok (.ireturn, 1) := by decide +kernel
theorem dX7_isDigit_0 : decode cX7_isDigit 0 = .ok (.iload_n 0, 1) := by decide +kernel
theorem dX7_isDigit_1 : decode cX7_isDigit 1 = .ok (.bipush 48, 2) := by decide +kernel
theorem dX7_isDigit_3 : decode cX7_isDigit 3 = .ok (.if_icmp .lt 13, 3) := by decide +kernel
theorem dX7_isDigit_6 : decode cX7_isDigit 6 = .ok (.iload_n 0, 1) := by decide +kernel
theorem dX7_isDigit_7 : decode cX7_isDigit 7 = .ok (.bipush 57, 2) := by decide +kernel
theorem dX7_isDigit_9 : decode cX7_isDigit 9 = .ok (.if_icmp .gt 7, 3) := by decide +kernel
theorem dX7_isDigit_12 : decode cX7_isDigit 12 = .ok (.iconst 1, 1) := by decide +kernel
theorem dX7_isDigit_13 : decode cX7_isDigit 13 = .ok (.goto 4, 3) := by decide +kernel
theorem dX7_isDigit_16 : decode cX7_isDigit 16 = .ok (.iconst 0, 1) := by decide +kernel
theorem dX7_isDigit_17 : decode cX7_isDigit 17 = .ok (.ireturn, 1) := by decide +kernel
theorem dX7_readLetters_0 : decode cX7_readLetters 0 = .ok (.aload_n 0, 1) := by decide +kernel
theorem dX7_readLetters_1 : decode cX7_readLetters 1 = .ok (.lconst 0, 1) := by decide +kernel
theorem dX7_readLetters_2 : decode cX7_readLetters 2 = .ok (.putfield 32, 3) := by decide +kernel
theorem dX7_readLetters_5 : decode cX7_readLetters 5 = .ok (.aload_n 0, 1) := by decide +kernel
theorem dX7_readLetters_6 : decode cX7_readLetters 6 = .ok (.getfield 20, 3) := by decide +kernel
theorem dX7_readLetters_9 : decode cX7_readLetters 9 = .ok (.aload_n 0, 1) := by decide +kernel
theorem dX7_readLetters_10 : decode cX7_readLetters 10 = .ok (.getfield 17, 3) := by decide +kernel
theorem dX7_readLetters_13 : decode cX7_readLetters 13 = .ok (.if_icmp .ge 65, 3) := by decide +kernel
theorem dX7_readLetters_16 : decode cX7_readLetters 16 = .ok (.aload_n 0, 1) := by decide +kernel
theorem dX7_readLetters_17 : decode cX7_readLetters 17 = .ok (.aload_n 0, 1) := by decide +kernel
theorem dX7_readLetters_18 : decode cX7_readLetters 18 = .ok (.getfield 20, 3) := by decide +kernel
theorem dX7_readLetters_21 : decode cX7_readLetters 21 = .ok (.invokevirtual 36, 3) := by decide +kernel
theorem dX7_readLetters_24 : decode cX7_readLetters 24 = .ok (.invokestatic 43, 3) := by decide +kernel
theorem dX7_readLetters_27 : decode cX7_readLetters 27 = .ok (.ifCond .ne 17, 3) := by decide +kernel
theorem dX7_readLetters_30 : decode cX7_readLetters 30 = .ok (.aload_n 0, 1) := by decide +kernel
theorem dX7_readLetters_31 : decode cX7_readLetters 31 = .ok (.aload_n 0, 1) := by decide +kernel
theorem dX7_readLetters_32 : decode cX7_readLetters 32 = .ok (.getfield 20, 3) := by decide +kernel
theorem dX7_readLetters_35 : decode cX7_readLetters 35 = .ok (.invokevirtual 36, 3) := by decide +kernel
theorem dX7_readLetters_38 : decode cX7_readLetters 38 = .ok (.invokestatic 50, 3) := by decide +kernel
theorem dX7_readLetters_41 : decode cX7_readLetters 41 = .ok (.ifCond .eq 37, 3) := by decide +kernel
theorem dX7_readLetters_44 : decode cX7_readLetters 44 = .ok (.aload_n 0, 1) := by decide +kernel
theorem dX7_readLetters_45 : decode cX7_readLetters 45 = .ok (.aload_n 0, 1) := by decide +kernel
theorem dX7_readLetters_46 : decode cX7_readLetters 46 = .ok (.getfield 32, 3) := by decide +kernel
theorem dX7_readLetters_49 : decode cX7_readLetters 49 = .ok (.bipush 8, 2) := by decide +kernel
theorem dX7_readLetters_51 : decode cX7_readLetters 51 = .ok (.lshl, 1) := by decide +kernel
theorem dX7_readLetters_52 : decode cX7_readLetters 52 = .ok (.aload_n 0, 1) := by decide +kernel
theorem dX7_readLetters_53 : decode cX7_readLetters 53 = .ok (.aload_n 0, 1) := by decide +kernel
theorem dX7_readLetters_54 : decode cX7_readLetters 54 = .ok (.getfield 20, 3) := by decide +kernel
theorem dX7_readLetters_57 : decode cX7_readLetters 57 = .ok (.invokevirtual 36, 3) := by decide +kernel
theorem dX7_readLetters_60 : decode cX7_readLetters 60 = .ok (.i2l, 1) := by decide +kernel
theorem dX7_readLetters_61 : decode cX7_readLetters 61 = .ok (.lor, 1) := by decide +kernel
theorem dX7_readLetters_62 : decode cX7_readLetters 62 = .ok (.putfield 32, 3) := by decide +kernel
theorem dX7_readLetters_65 : decode cX7_readLetters 65 = .ok (.aload_n 0, 1) := by decide +kernel
theorem dX7_readLetters_66 : decode cX7_readLetters 66 = .ok (.dup, 1) := by decide +kernel
theorem dX7_readLetters_67 : decode cX7_readLetters 67 = .ok (.getfield 20, 3) := by decide +kernel
theorem dX7_readLetters_70 : decode cX7_readLetters 70 = .ok (.iconst 1, 1) := by decide +kernel
theorem dX7_readLetters_71 : decode cX7_readLetters 71 = .ok (.iadd, 1) := by decide +kernel
theorem dX7_readLetters_72 : decode cX7_readLetters 72 = .ok (.putfield 20, 3) := by decide +kernel
theorem dX7_readLetters_75 : decode cX7_readLetters 75 = .ok (.goto (-70), 3) := by decide +kernel
theorem dX7_readLetters_78 : decode cX7_readLetters 78 = .ok (.aload_n 0, 1) := by decide +kernel
theorem dX7_readLetters_79 : decode cX7_readLetters 79 = .ok (.aload_n 0, 1) := by decide +kernel
theorem dX7_readLetters_80 : decode cX7_readLetters 80 = .ok (.getfield 20, 3) := by decide +kernel
theorem dX7_readLetters_83 : decode cX7_readLetters 83 = .ok (.aload_n 0, 1) := by decide +kernel
theorem dX7_readLetters_84 : decode cX7_readLetters 84 = .ok (.getfield 40, 3) := by decide +kernel
theorem dX7_readLetters_87 : decode cX7_readLetters 87 = .ok (.isub, 1) := by decide +kernel
theorem dX7_readLetters_88 : decode cX7_readLetters 88 = .ok (.bipush 8, 2) := by decide +kernel
theorem dX7_readLetters_90 : decode cX7_readLetters 90 = .ok (.if_icmp .le 7, 3) := by decide +kernel
theorem dX7_readLetters_93 : decode cX7_readLetters 93 = .ok (.iconst 1, 1) := by decide +kernel
theorem dX7_readLetters_94 : decode cX7_readLetters 94 = .ok (.goto 10, 3) := by decide +kernel
theorem dX7_readLetters_97 : decode cX7_readLetters 97 = .ok (.aload_n 0, 1) := by decide +kernel
theorem dX7_readLetters_98 : decode cX7_readLetters 98 = .ok (.getfield 32, 3) := by decide +kernel
theorem dX7_readLetters_101 : decode cX7_readLetters 101 = .ok (.invokestatic 60, 3) := by decide +kernel
theorem dX7_readLetters_104 : decode cX7_readLetters 104 = .ok (.putfield 29, 3) := by decide +kernel
theorem dX7_readLetters_107 : decode cX7_readLetters 107 = .ok (.return_, 1) := by decide +kernel
theorem dX7_wordOrName_0 : decode cX7_wordOrName 0 = .ok (.sipush 128, 3) := by decide +kernel
theorem dX7_wordOrName_3 : decode cX7_wordOrName 3 = .ok (.istore_n 2, 1) := by decide +kernel
theorem dX7_wordOrName_4 : decode cX7_wordOrName 4 = .ok (.lconst 0, 1) := by decide +kernel
theorem dX7_wordOrName_5 : decode cX7_wordOrName 5 = .ok (.lstore_n 3, 1) := by decide +kernel
theorem dX7_wordOrName_6 : decode cX7_wordOrName 6 = .ok (.iconst 0, 1) := by decide +kernel
theorem dX7_wordOrName_7 : decode cX7_wordOrName 7 = .ok (.istore 5, 2) := by decide +kernel
theorem dX7_wordOrName_9 : decode cX7_wordOrName 9 = .ok (.iload 5, 2) := by decide +kernel
theorem dX7_wordOrName_11 : decode cX7_wordOrName 11 = .ok (.ldc 64, 2) := by decide +kernel
theorem dX7_wordOrName_13 : decode cX7_wordOrName 13 = .ok (.invokevirtual 66, 3) := by decide +kernel
theorem dX7_wordOrName_16 : decode cX7_wordOrName 16 = .ok (.if_icmp .ge 50, 3) := by decide +kernel
theorem dX7_wordOrName_19 : decode cX7_wordOrName 19 = .ok (.ldc 64, 2) := by decide +kernel
theorem dX7_wordOrName_21 : decode cX7_wordOrName 21 = .ok (.iload 5, 2) := by decide +kernel
theorem dX7_wordOrName_23 : decode cX7_wordOrName 23 = .ok (.invokevirtual 72, 3) := by decide +kernel
theorem dX7_wordOrName_26 : decode cX7_wordOrName 26 = .ok (.istore 6, 2) := by decide +kernel
theorem dX7_wordOrName_28 : decode cX7_wordOrName 28 = .ok (.iload 6, 2) := by decide +kernel
theorem dX7_wordOrName_30 : decode cX7_wordOrName 30 = .ok (.bipush 32, 2) := by decide +kernel
theorem dX7_wordOrName_32 : decode cX7_wordOrName 32 = .ok (.if_icmp .eq 15, 3) := by decide +kernel
theorem dX7_wordOrName_35 : decode cX7_wordOrName 35 = .ok (.lload_n 3, 1) := by decide +kernel
theorem dX7_wordOrName_36 : decode cX7_wordOrName 36 = .ok (.bipush 8, 2) := by decide +kernel
theorem dX7_wordOrName_38 : decode cX7_wordOrName 38 = .ok (.lshl, 1) := by decide +kernel
theorem dX7_wordOrName_39 : decode cX7_wordOrName 39 = .ok (.iload 6, 2) := by decide +kernel
theorem dX7_wordOrName_41 : decode cX7_wordOrName 41 = .ok (.i2l, 1) := by decide +kernel
theorem dX7_wordOrName_42 : decode cX7_wordOrName 42 = .ok (.lor, 1) := by decide +kernel
theorem dX7_wordOrName_43 : decode cX7_wordOrName 43 = .ok (.lstore_n 3, 1) := by decide +kernel
theorem dX7_wordOrName_44 : decode cX7_wordOrName 44 = .ok (.goto 16, 3) := by decide +kernel
theorem dX7_wordOrName_47 : decode cX7_wordOrName 47 = .ok (.lload_n 3, 1) := by decide +kernel
theorem dX7_wordOrName_48 : decode cX7_wordOrName 48 = .ok (.lload_n 0, 1) := by decide +kernel
theorem dX7_wordOrName_49 : decode cX7_wordOrName 49 = .ok (.lcmp, 1) := by decide +kernel
theorem dX7_wordOrName_50 : decode cX7_wordOrName 50 = .ok (.ifCond .ne 5, 3) := by decide +kernel
theorem dX7_wordOrName_53 : decode cX7_wordOrName 53 = .ok (.iload_n 2, 1) := by decide +kernel
theorem dX7_wordOrName_54 : decode cX7_wordOrName 54 = .ok (.ireturn, 1) := by decide +kernel
theorem dX7_wordOrName_55 : decode cX7_wordOrName 55 = .ok (.lconst 0, 1) := by decide +kernel
theorem dX7_wordOrName_56 : decode cX7_wordOrName 56 = .ok (.lstore_n 3, 1) := by decide +kernel
theorem dX7_wordOrName_57 : decode cX7_wordOrName 57 = .ok (.iinc 2 1, 3) := by decide +kernel
theorem dX7_wordOrName_60 : decode cX7_wordOrName 60 = .ok (.iinc 5 1, 3) := by decide +kernel
theorem dX7_wordOrName_63 : decode cX7_wordOrName 63 = .ok (.goto (-54), 3) := by decide +kernel
theorem dX7_wordOrName_66 : decode cX7_wordOrName 66 = .ok (.iconst 2, 1) := by decide +kernel
theorem dX7_wordOrName_67 : decode cX7_wordOrName 67 = .ok (.ireturn, 1) := by decide +kernel
theorem dX7_readDigits_0 : decode cX7_readDigits 0 = .ok (.aload_n 0, 1) := by decide +kernel
theorem dX7_readDigits_1 : decode cX7_readDigits 1 = .ok (.lconst 0, 1) := by decide +kernel
theorem dX7_readDigits_2 : decode cX7_readDigits 2 = .ok (.putfield 32, 3) := by decide +kernel
theorem dX7_readDigits_5 : decode cX7_readDigits 5 = .ok (.aload_n 0, 1) := by decide +kernel
theorem dX7_readDigits_6 : decode cX7_readDigits 6 = .ok (.iconst 0, 1) := by decide +kernel
theorem dX7_readDigits_7 : decode cX7_readDigits 7 = .ok (.putfield 76, 3) := by decide +kernel
theorem dX7_readDigits_10 : decode cX7_readDigits 10 = .ok (.iconst 0, 1) := by decide +kernel
theorem dX7_readDigits_11 : decode cX7_readDigits 11 = .ok (.istore_n 1, 1) := by decide +kernel
theorem dX7_readDigits_12 : decode cX7_readDigits 12 = .ok (.aload_n 0, 1) := by decide +kernel
theorem dX7_readDigits_13 : decode cX7_readDigits 13 = .ok (.getfield 20, 3) := by decide +kernel
theorem dX7_readDigits_16 : decode cX7_readDigits 16 = .ok (.aload_n 0, 1) := by decide +kernel
theorem dX7_readDigits_17 : decode cX7_readDigits 17 = .ok (.getfield 17, 3) := by decide +kernel
theorem dX7_readDigits_20 : decode cX7_readDigits 20 = .ok (.if_icmp .ge 124, 3) := by decide +kernel
theorem dX7_readDigits_23 : decode cX7_readDigits 23 = .ok (.aload_n 0, 1) := by decide +kernel
theorem dX7_readDigits_24 : decode cX7_readDigits 24 = .ok (.aload_n 0, 1) := by decide +kernel
theorem dX7_readDigits_25 : decode cX7_readDigits 25 = .ok (.getfield 20, 3) := by decide +kernel
theorem dX7_readDigits_28 : decode cX7_readDigits 28 = .ok (.invokevirtual 36, 3) := by decide +kernel
theorem dX7_readDigits_31 : decode cX7_readDigits 31 = .ok (.invokestatic 50, 3) := by decide +kernel
theorem dX7_readDigits_34 : decode cX7_readDigits 34 = .ok (.ifCond .ne 36, 3) := by decide +kernel
theorem dX7_readDigits_37 : decode cX7_readDigits 37 = .ok (.aload_n 0, 1) := by decide +kernel
theorem dX7_readDigits_38 : decode cX7_readDigits 38 = .ok (.aload_n 0, 1) := by decide +kernel
theorem dX7_readDigits_39 : decode cX7_readDigits 39 = .ok (.getfield 20, 3) := by decide +kernel
theorem dX7_readDigits_42 : decode cX7_readDigits 42 = .ok (.invokevirtual 36, 3) := by decide +kernel
theorem dX7_readDigits_45 : decode cX7_readDigits 45 = .ok (.bipush 46, 2) := by decide +kernel
theorem dX7_readDigits_47 : decode cX7_readDigits 47 = .ok (.if_icmp .ne 97, 3) := by decide +kernel
theorem dX7_readDigits_50 : decode cX7_readDigits 50 = .ok (.aload_n 0, 1) := by decide +kernel
theorem dX7_readDigits_51 : decode cX7_readDigits 51 = .ok (.aload_n 0, 1) := by decide +kernel
theorem dX7_readDigits_52 : decode cX7_readDigits 52 = .ok (.getfield 20, 3) := by decide +kernel
theorem dX7_readDigits_55 : decode cX7_readDigits 55 = .ok (.iconst 1, 1) := by decide +kernel
theorem dX7_readDigits_56 : decode cX7_readDigits 56 = .ok (.iadd, 1) := by decide +kernel
theorem dX7_readDigits_57 : decode cX7_readDigits 57 = .ok (.invokevirtual 36, 3) := by decide +kernel
theorem dX7_readDigits_60 : decode cX7_readDigits 60 = .ok (.invokestatic 50, 3) := by decide +kernel
theorem dX7_readDigits_63 : decode cX7_readDigits 63 = .ok (.ifCond .eq 81, 3) := by decide +kernel
theorem dX7_readDigits_66 : decode cX7_readDigits 66 = .ok (.iload_n 1, 1) := by decide +kernel
theorem dX7_readDigits_67 : decode cX7_readDigits 67 = .ok (.ifCond .ne 77, 3) := by decide +kernel
theorem dX7_readDigits_70 : decode cX7_readDigits 70 = .ok (.aload_n 0, 1) := by decide +kernel
theorem dX7_readDigits_71 : decode cX7_readDigits 71 = .ok (.aload_n 0, 1) := by decide +kernel
theorem dX7_readDigits_72 : decode cX7_readDigits 72 = .ok (.getfield 20, 3) := by decide +kernel
theorem dX7_readDigits_75 : decode cX7_readDigits 75 = .ok (.invokevirtual 36, 3) := by decide +kernel
theorem dX7_readDigits_78 : decode cX7_readDigits 78 = .ok (.bipush 46, 2) := by decide +kernel
theorem dX7_readDigits_80 : decode cX7_readDigits 80 = .ok (.if_icmp .ne 8, 3) := by decide +kernel
theorem dX7_readDigits_83 : decode cX7_readDigits 83 = .ok (.iconst 1, 1) := by decide +kernel
theorem dX7_readDigits_84 : decode cX7_readDigits 84 = .ok (.istore_n 1, 1) := by decide +kernel
theorem dX7_readDigits_85 : decode cX7_readDigits 85 = .ok (.goto 46, 3) := by decide +kernel
theorem dX7_readDigits_88 : decode cX7_readDigits 88 = .ok (.aload_n 0, 1) := by decide +kernel
theorem dX7_readDigits_89 : decode cX7_readDigits 89 = .ok (.aload_n 0, 1) := by decide +kernel
theorem dX7_readDigits_90 : decode cX7_readDigits 90 = .ok (.getfield 32, 3) := by decide +kernel
theorem dX7_readDigits_93 : decode cX7_readDigits 93 = .ok (.ldc2_w 79, 3) := by decide +kernel
theorem dX7_readDigits_96 : decode cX7_readDigits 96 = .ok (.lmul, 1) := by decide +kernel
theorem dX7_readDigits_97 : decode cX7_readDigits 97 = .ok (.aload_n 0, 1) := by decide +kernel
theorem dX7_readDigits_98 : decode cX7_readDigits 98 = .ok (.aload_n 0, 1) := by decide +kernel
theorem dX7_readDigits_99 : decode cX7_readDigits 99 = .ok (.getfield 20, 3) := by decide +kernel
theorem dX7_readDigits_102 : decode cX7_readDigits 102 = .ok (.invokevirtual 36, 3) := by decide +kernel
theorem dX7_readDigits_105 : decode cX7_readDigits 105 = .ok (.bipush 48, 2) := by decide +kernel
theorem dX7_readDigits_107 : decode cX7_readDigits 107 = .ok (.isub, 1) := by decide +kernel
theorem dX7_readDigits_108 : decode cX7_readDigits 108 = .ok (.i2l, 1) := by decide +kernel
theorem dX7_readDigits_109 : decode cX7_readDigits 109 = .ok (.ladd, 1) := by decide +kernel
theorem dX7_readDigits_110 : decode cX7_readDigits 110 = .ok (.putfield 32, 3) := by decide +kernel
theorem dX7_readDigits_113 : decode cX7_readDigits 113 = .ok (.aload_n 0, 1) := by decide +kernel
theorem dX7_readDigits_114 : decode cX7_readDigits 114 = .ok (.dup, 1) := by decide +kernel
theorem dX7_readDigits_115 : decode cX7_readDigits 115 = .ok (.getfield 76, 3) := by decide +kernel
theorem dX7_readDigits_118 : decode cX7_readDigits 118 = .ok (.iload_n 1, 1) := by decide +kernel
theorem dX7_readDigits_119 : decode cX7_readDigits 119 = .ok (.ifCond .eq 7, 3) := by decide +kernel
theorem dX7_readDigits_122 : decode cX7_readDigits 122 = .ok (.iconst 1, 1) := by decide +kernel
theorem dX7_readDigits_123 : decode cX7_readDigits 123 = .ok (.goto 4, 3) := by decide +kernel
theorem dX7_readDigits_126 : decode cX7_readDigits 126 = .ok (.iconst 0, 1) := by decide +kernel
theorem dX7_readDigits_127 : decode cX7_readDigits 127 = .ok (.iadd, 1) := by decide +kernel
theorem dX7_readDigits_128 : decode cX7_readDigits 128 = .ok (.putfield 76, 3) := by decide +kernel
theorem dX7_readDigits_131 : decode cX7_readDigits 131 = .ok (.aload_n 0, 1) := by decide +kernel
theorem dX7_readDigits_132 : decode cX7_readDigits 132 = .ok (.dup, 1) := by decide +kernel
theorem dX7_readDigits_133 : decode cX7_readDigits 133 = .ok (.getfield 20, 3) := by decide +kernel
theorem dX7_readDigits_136 : decode cX7_readDigits 136 = .ok (.iconst 1, 1) := by decide +kernel
theorem dX7_readDigits_137 : decode cX7_readDigits 137 = .ok (.iadd, 1) := by decide +kernel
theorem dX7_readDigits_138 : decode cX7_readDigits 138 = .ok (.putfield 20, 3) := by decide +kernel
theorem dX7_readDigits_141 : decode cX7_readDigits 141 = .ok (.goto (-129), 3) := by decide +kernel
theorem dX7_readDigits_144 : decode cX7_readDigits 144 = .ok (.aload_n 0, 1) := by decide +kernel
theorem dX7_readDigits_145 : decode cX7_readDigits 145 = .ok (.getfield 20, 3) := by decide +kernel
theorem dX7_readDigits_148 : decode cX7_readDigits 148 = .ok (.aload_n 0, 1) := by decide +kernel
theorem dX7_readDigits_149 : decode cX7_readDigits 149 = .ok (.getfield 40, 3) := by decide +kernel
theorem dX7_readDigits_152 : decode cX7_readDigits 152 = .ok (.isub, 1) := by decide +kernel
theorem dX7_readDigits_153 : decode cX7_readDigits 153 = .ok (.iload_n 1, 1) := by decide +kernel
theorem dX7_readDigits_154 : decode cX7_readDigits 154 = .ok (.ifCond .eq 7, 3) := by decide +kernel
theorem dX7_readDigits_157 : decode cX7_readDigits 157 = .ok (.iconst 1, 1) := by decide +kernel
theorem dX7_readDigits_158 : decode cX7_readDigits 158 = .ok (.goto 4, 3) := by decide +kernel
theorem dX7_readDigits_161 : decode cX7_readDigits 161 = .ok (.iconst 0, 1) := by decide +kernel
theorem dX7_readDigits_162 : decode cX7_readDigits 162 = .ok (.isub, 1) := by decide +kernel
theorem dX7_readDigits_163 : decode cX7_readDigits 163 = .ok (.istore_n 2, 1) := by decide +kernel
theorem dX7_readDigits_164 : decode cX7_readDigits 164 = .ok (.iload_n 1, 1) := by decide +kernel
theorem dX7_readDigits_165 : decode cX7_readDigits 165 = .ok (.ifCond .eq 35, 3) := by decide +kernel
theorem dX7_readDigits_168 : decode cX7_readDigits 168 = .ok (.aload_n 0, 1) := by decide +kernel
theorem dX7_readDigits_169 : decode cX7_readDigits 169 = .ok (.iload_n 2, 1) := by decide +kernel
theorem dX7_readDigits_170 : decode cX7_readDigits 170 = .ok (.aload_n 0, 1) := by decide +kernel
theorem dX7_readDigits_171 : decode cX7_readDigits 171 = .ok (.getfield 76, 3) := by decide +kernel
theorem dX7_readDigits_174 : decode cX7_readDigits 174 = .ok (.isub, 1) := by decide +kernel
theorem dX7_readDigits_175 : decode cX7_readDigits 175 = .ok (.bipush 9, 2) := by decide +kernel
theorem dX7_readDigits_177 : decode cX7_readDigits 177 = .ok (.if_icmp .gt 16, 3) := by decide +kernel
theorem dX7_readDigits_180 : decode cX7_readDigits 180 = .ok (.aload_n 0, 1) := by decide +kernel
theorem dX7_readDigits_181 : decode cX7_readDigits 181 = .ok (.getfield 76, 3) := by decide +kernel
theorem dX7_readDigits_184 : decode cX7_readDigits 184 = .ok (.bipush 6, 2) := by decide +kernel
theorem dX7_readDigits_186 : decode cX7_readDigits 186 = .ok (.if_icmp .gt 7, 3) := by decide +kernel
theorem dX7_readDigits_189 : decode cX7_readDigits 189 = .ok (.iconst 4, 1) := by decide +kernel
theorem dX7_readDigits_190 : decode cX7_readDigits 190 = .ok (.goto 4, 3) := by decide +kernel
theorem dX7_readDigits_193 : decode cX7_readDigits 193 = .ok (.iconst 1, 1) := by decide +kernel
theorem dX7_readDigits_194 : decode cX7_readDigits 194 = .ok (.putfield 29, 3) := by decide +kernel
theorem dX7_readDigits_197 : decode cX7_readDigits 197 = .ok (.goto 18, 3) := by decide +kernel
theorem dX7_readDigits_200 : decode cX7_readDigits 200 = .ok (.aload_n 0, 1) := by decide +kernel
theorem dX7_readDigits_201 : decode cX7_readDigits 201 = .ok (.iload_n 2, 1) := by decide +kernel
theorem dX7_readDigits_202 : decode cX7_readDigits 202 = .ok (.bipush 15, 2) := by decide +kernel
theorem dX7_readDigits_204 : decode cX7_readDigits 204 = .ok (.if_icmp .gt 7, 3) := by decide +kernel
theorem dX7_readDigits_207 : decode cX7_readDigits 207 = .ok (.iconst 3, 1) := by decide +kernel
theorem dX7_readDigits_208 : decode cX7_readDigits 208 = .ok (.goto 4, 3) := by decide +kernel
theorem dX7_readDigits_211 : decode cX7_readDigits 211 = .ok (.iconst 1, 1) := by decide +kernel
theorem dX7_readDigits_212 : decode cX7_readDigits 212 = .ok (.putfield 29, 3) := by decide +kernel
theorem dX7_readDigits_215 : decode cX7_readDigits 215 = .ok (.return_, 1) := by decide +kernel
theorem dX7_readSign_0 : decode cX7_readSign 0 = .ok (.aload_n 0, 1) := by decide +kernel
theorem dX7_readSign_1 : decode cX7_readSign 1 = .ok (.aload_n 0, 1) := by decide +kernel
theorem dX7_readSign_2 : decode cX7_readSign 2 = .ok (.getfield 20, 3) := by decide +kernel
theorem dX7_readSign_5 : decode cX7_readSign 5 = .ok (.iconst 1, 1) := by decide +kernel
theorem dX7_readSign_6 : decode cX7_readSign 6 = .ok (.iadd, 1) := by decide +kernel
theorem dX7_readSign_7 : decode cX7_readSign 7 = .ok (.invokevirtual 36, 3) := by decide +kernel
theorem dX7_readSign_10 : decode cX7_readSign 10 = .ok (.bipush 61, 2) := by decide +kernel
theorem dX7_readSign_12 : decode cX7_readSign 12 = .ok (.if_icmp .ne 7, 3) := by decide +kernel

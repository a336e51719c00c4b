theorem dX7_readSign_15 : decode cX7_readSign 15 = .ok (.iconst 1, 1) := by decide +kernel
theorem dX7_readSign_16 : decode cX7_readSign 16 = .ok (.goto 4, 3) := by decide +kernel
theorem dX7_readSign_19 : decode cX7_readSign 19 = .ok (.iconst 0, 1) := by decide +kernel
theorem dX7_readSign_20 : decode cX7_readSign 20 = .ok (.istore_n 2, 1) := by decide +kernel
theorem dX7_readSign_21 : decode cX7_readSign 21 = .ok (.aload_n 0, 1) := by decide +kernel
theorem dX7_readSign_22 : decode cX7_readSign 22 = .ok (.dup, 1) := by decide +kernel
theorem dX7_readSign_23 : decode cX7_readSign 23 = .ok (.getfield 20, 3) := by decide +kernel
theorem dX7_readSign_26 : decode cX7_readSign 26 = .ok (.iconst 1, 1) := by decide +kernel
theorem dX7_readSign_27 : decode cX7_readSign 27 = .ok (.iadd, 1) := by decide +kernel
theorem dX7_readSign_28 : decode cX7_readSign 28 = .ok (.putfield 20, 3) := by decide +kernel
theorem dX7_readSign_31 : decode cX7_readSign 31 = .ok (.iload_n 1, 1) := by decide +kernel
theorem dX7_readSign_32 : decode cX7_readSign 32 = .ok (.bipush 60, 2) := by decide +kernel
theorem dX7_readSign_34 : decode cX7_readSign 34 = .ok (.if_icmp .ne 26, 3) := by decide +kernel
theorem dX7_readSign_37 : decode cX7_readSign 37 = .ok (.iload_n 2, 1) := by decide +kernel
theorem dX7_readSign_38 : decode cX7_readSign 38 = .ok (.ifCond .eq 22, 3) := by decide +kernel
theorem dX7_readSign_41 : decode cX7_readSign 41 = .ok (.aload_n 0, 1) := by decide +kernel
theorem dX7_readSign_42 : decode cX7_readSign 42 = .ok (.bipush 9, 2) := by decide +kernel
theorem dX7_readSign_44 : decode cX7_readSign 44 = .ok (.putfield 29, 3) := by decide +kernel
theorem dX7_readSign_47 : decode cX7_readSign 47 = .ok (.aload_n 0, 1) := by decide +kernel
theorem dX7_readSign_48 : decode cX7_readSign 48 = .ok (.dup, 1) := by decide +kernel
theorem dX7_readSign_49 : decode cX7_readSign 49 = .ok (.getfield 20, 3) := by decide +kernel
theorem dX7_readSign_52 : decode cX7_readSign 52 = .ok (.iconst 1, 1) := by decide +kernel
theorem dX7_readSign_53 : decode cX7_readSign 53 = .ok (.iadd, 1) := by decide +kernel
theorem dX7_readSign_54 : decode cX7_readSign 54 = .ok (.putfield 20, 3) := by decide +kernel
theorem dX7_readSign_57 : decode cX7_readSign 57 = .ok (.goto 57, 3) := by decide +kernel
theorem dX7_readSign_60 : decode cX7_readSign 60 = .ok (.iload_n 1, 1) := by decide +kernel
theorem dX7_readSign_61 : decode cX7_readSign 61 = .ok (.bipush 33, 2) := by decide +kernel
theorem dX7_readSign_63 : decode cX7_readSign 63 = .ok (.if_icmp .ne 26, 3) := by decide +kernel
theorem dX7_readSign_66 : decode cX7_readSign 66 = .ok (.iload_n 2, 1) := by decide +kernel
theorem dX7_readSign_67 : decode cX7_readSign 67 = .ok (.ifCond .eq 22, 3) := by decide +kernel
theorem dX7_readSign_70 : decode cX7_readSign 70 = .ok (.aload_n 0, 1) := by decide +kernel
theorem dX7_readSign_71 : decode cX7_readSign 71 = .ok (.bipush 10, 2) := by decide +kernel
theorem dX7_readSign_73 : decode cX7_readSign 73 = .ok (.putfield 29, 3) := by decide +kernel
theorem dX7_readSign_76 : decode cX7_readSign 76 = .ok (.aload_n 0, 1) := by decide +kernel
theorem dX7_readSign_77 : decode cX7_readSign 77 = .ok (.dup, 1) := by decide +kernel
theorem dX7_readSign_78 : decode cX7_readSign 78 = .ok (.getfield 20, 3) := by decide +kernel
theorem dX7_readSign_81 : decode cX7_readSign 81 = .ok (.iconst 1, 1) := by decide +kernel
theorem dX7_readSign_82 : decode cX7_readSign 82 = .ok (.iadd, 1) := by decide +kernel
theorem dX7_readSign_83 : decode cX7_readSign 83 = .ok (.putfield 20, 3) := by decide +kernel
theorem dX7_readSign_86 : decode cX7_readSign 86 = .ok (.goto 28, 3) := by decide +kernel
theorem dX7_readSign_89 : decode cX7_readSign 89 = .ok (.aload_n 0, 1) := by decide +kernel
theorem dX7_readSign_90 : decode cX7_readSign 90 = .ok (.iload_n 1, 1) := by decide +kernel
theorem dX7_readSign_91 : decode cX7_readSign 91 = .ok (.bipush 33, 2) := by decide +kernel
theorem dX7_readSign_93 : decode cX7_readSign 93 = .ok (.if_icmp .eq 13, 3) := by decide +kernel
theorem dX7_readSign_96 : decode cX7_readSign 96 = .ok (.ldc 81, 2) := by decide +kernel
theorem dX7_readSign_98 : decode cX7_readSign 98 = .ok (.iload_n 1, 1) := by decide +kernel
theorem dX7_readSign_99 : decode cX7_readSign 99 = .ok (.i2c, 1) := by decide +kernel
theorem dX7_readSign_100 : decode cX7_readSign 100 = .ok (.invokevirtual 83, 3) := by decide +kernel
theorem dX7_readSign_103 : decode cX7_readSign 103 = .ok (.ifCond .ge 7, 3) := by decide +kernel
theorem dX7_readSign_106 : decode cX7_readSign 106 = .ok (.iconst 1, 1) := by decide +kernel
theorem dX7_readSign_107 : decode cX7_readSign 107 = .ok (.goto 4, 3) := by decide +kernel
theorem dX7_readSign_110 : decode cX7_readSign 110 = .ok (.iload_n 1, 1) := by decide +kernel
theorem dX7_readSign_111 : decode cX7_readSign 111 = .ok (.putfield 29, 3) := by decide +kernel
theorem dX7_readSign_114 : decode cX7_readSign 114 = .ok (.return_, 1) := by decide +kernel
theorem dX7_arity_0 : decode cX7_arity 0 = .ok (.iload_n 0, 1) := by decide +kernel
theorem dX7_arity_1 : decode cX7_arity 1 = .ok (.tableswitch 121 128 152 #[117, 115, 115, 121, 121, 115, 121, 121, 117, 117, 115, 117, 117, 115, 121, 115, 115, 121, 121, 121, 121, 121, 115, 119, 115], 115) := by decide +kernel
theorem dX7_arity_116 : decode cX7_arity 116 = .ok (.iconst 1, 1) := by decide +kernel
theorem dX7_arity_117 : decode cX7_arity 117 = .ok (.ireturn, 1) := by decide +kernel
theorem dX7_arity_118 : decode cX7_arity 118 = .ok (.iconst 2, 1) := by decide +kernel
theorem dX7_arity_119 : decode cX7_arity 119 = .ok (.ireturn, 1) := by decide +kernel
theorem dX7_arity_120 : decode cX7_arity 120 = .ok (.iconst 3, 1) := by decide +kernel
theorem dX7_arity_121 : decode cX7_arity 121 = .ok (.ireturn, 1) := by decide +kernel
theorem dX7_arity_122 : decode cX7_arity 122 = .ok (.iconst 0, 1) := by decide +kernel
theorem dX7_arity_123 : decode cX7_arity 123 = .ok (.ireturn, 1) := by decide +kernel
theorem dX8_init_0 : decode cX8_init 0 = .ok (.aload_n 0, 1) := by decide +kernel
theorem dX8_init_1 : decode cX8_init 1 = .ok (.invokespecial 3, 3) := by decide +kernel
theorem dX8_init_4 : decode cX8_init 4 = .ok (.aload_n 0, 1) := by decide +kernel
theorem dX8_init_5 : decode cX8_init 5 = .ok (.iconst (-1), 1) := by decide +kernel
theorem dX8_init_6 : decode cX8_init 6 = .ok (.putfield 9, 3) := by decide +kernel
theorem dX8_init_9 : decode cX8_init 9 = .ok (.aload_n 0, 1) := by decide +kernel
theorem dX8_init_10 : decode cX8_init 10 = .ok (.sipush 300, 3) := by decide +kernel
theorem dX8_init_13 : decode cX8_init 13 = .ok (.newarray .int, 2) := by decide +kernel
theorem dX8_init_15 : decode cX8_init 15 = .ok (.putfield 15, 3) := by decide +kernel
theorem dX8_init_18 : decode cX8_init 18 = .ok (.aload_n 0, 1) := by decide +kernel
theorem dX8_init_19 : decode cX8_init 19 = .ok (.sipush 300, 3) := by decide +kernel
theorem dX8_init_22 : decode cX8_init 22 = .ok (.newarray .long, 2) := by decide +kernel
theorem dX8_init_24 : decode cX8_init 24 = .ok (.putfield 19, 3) := by decide +kernel
theorem dX8_init_27 : decode cX8_init 27 = .ok (.aload_n 0, 1) := by decide +kernel
theorem dX8_init_28 : decode cX8_init 28 = .ok (.sipush 900, 3) := by decide +kernel
theorem dX8_init_31 : decode cX8_init 31 = .ok (.newarray .int, 2) := by decide +kernel
theorem dX8_init_33 : decode cX8_init 33 = .ok (.putfield 23, 3) := by decide +kernel
theorem dX8_init_36 : decode cX8_init 36 = .ok (.aload_n 0, 1) := by decide +kernel
theorem dX8_init_37 : decode cX8_init 37 = .ok (.bipush 24, 2) := by decide +kernel
theorem dX8_init_39 : decode cX8_init 39 = .ok (.newarray .long, 2) := by decide +kernel
theorem dX8_init_41 : decode cX8_init 41 = .ok (.putfield 26, 3) := by decide +kernel
theorem dX8_init_44 : decode cX8_init 44 = .ok (.aload_n 0, 1) := by decide +kernel
theorem dX8_init_45 : decode cX8_init 45 = .ok (.bipush 24, 2) := by decide +kernel
theorem dX8_init_47 : decode cX8_init 47 = .ok (.newarray .int, 2) := by decide +kernel
theorem dX8_init_49 : decode cX8_init 49 = .ok (.putfield 29, 3) := by decide +kernel
theorem dX8_init_52 : decode cX8_init 52 = .ok (.return_, 1) := by decide +kernel
theorem dX8_clear_0 : decode cX8_clear 0 = .ok (.aload_n 0, 1) := by decide +kernel
theorem dX8_clear_1 : decode cX8_clear 1 = .ok (.iconst (-1), 1) := by decide +kernel
theorem dX8_clear_2 : decode cX8_clear 2 = .ok (.putfield 9, 3) := by decide +kernel
theorem dX8_clear_5 : decode cX8_clear 5 = .ok (.aload_n 0, 1) := by decide +kernel
theorem dX8_clear_6 : decode cX8_clear 6 = .ok (.iconst 0, 1) := by decide +kernel
theorem dX8_clear_7 : decode cX8_clear 7 = .ok (.putfield 32, 3) := by decide +kernel
theorem dX8_clear_10 : decode cX8_clear 10 = .ok (.aload_n 0, 1) := by decide +kernel
theorem dX8_clear_11 : decode cX8_clear 11 = .ok (.iconst 0, 1) := by decide +kernel
theorem dX8_clear_12 : decode cX8_clear 12 = .ok (.putfield 35, 3) := by decide +kernel
theorem dX8_clear_15 : decode cX8_clear 15 = .ok (.return_, 1) := by decide +kernel
theorem dX8_addPart_0 : decode cX8_addPart 0 = .ok (.aload_n 0, 1) := by decide +kernel
theorem dX8_addPart_1 : decode cX8_addPart 1 = .ok (.getfield 32, 3) := by decide +kernel
theorem dX8_addPart_4 : decode cX8_addPart 4 = .ok (.sipush 300, 3) := by decide +kernel
theorem dX8_addPart_7 : decode cX8_addPart 7 = .ok (.if_icmp .lt 5, 3) := by decide +kernel
theorem dX8_addPart_10 : decode cX8_addPart 10 = .ok (.iconst (-1), 1) := by decide +kernel
theorem dX8_addPart_11 : decode cX8_addPart 11 = .ok (.ireturn, 1) := by decide +kernel
theorem dX8_addPart_12 : decode cX8_addPart 12 = .ok (.aload_n 0, 1) := by decide +kernel
theorem dX8_addPart_13 : decode cX8_addPart 13 = .ok (.getfield 15, 3) := by decide +kernel
theorem dX8_addPart_16 : decode cX8_addPart 16 = .ok (.aload_n 0, 1) := by decide +kernel
theorem dX8_addPart_17 : decode cX8_addPart 17 = .ok (.getfield 32, 3) := by decide +kernel
theorem dX8_addPart_20 : decode cX8_addPart 20 = .ok (.iload_n 1, 1) := by decide +kernel
theorem dX8_addPart_21 : decode cX8_addPart 21 = .ok (.iastore, 1) := by decide +kernel
theorem dX8_addPart_22 : decode cX8_addPart 22 = .ok (.aload_n 0, 1) := by decide +kernel
theorem dX8_addPart_23 : decode cX8_addPart 23 = .ok (.getfield 19, 3) := by decide +kernel
theorem dX8_addPart_26 : decode cX8_addPart 26 = .ok (.aload_n 0, 1) := by decide +kernel
theorem dX8_addPart_27 : decode cX8_addPart 27 = .ok (.getfield 32, 3) := by decide +kernel
theorem dX8_addPart_30 : decode cX8_addPart 30 = .ok (.lload_n 2, 1) := by decide +kernel
theorem dX8_addPart_31 : decode cX8_addPart 31 = .ok (.lastore, 1) := by decide +kernel
theorem dX8_addPart_32 : decode cX8_addPart 32 = .ok (.aload_n 0, 1) := by decide +kernel
theorem dX8_addPart_33 : decode cX8_addPart 33 = .ok (.dup, 1) := by decide +kernel
theorem dX8_addPart_34 : decode cX8_addPart 34 = .ok (.getfield 32, 3) := by decide +kernel
theorem dX8_addPart_37 : decode cX8_addPart 37 = .ok (.dup_x1, 1) := by decide +kernel
theorem dX8_addPart_38 : decode cX8_addPart 38 = .ok (.iconst 1, 1) := by decide +kernel
theorem dX8_addPart_39 : decode cX8_addPart 39 = .ok (.iadd, 1) := by decide +kernel
theorem dX8_addPart_40 : decode cX8_addPart 40 = .ok (.putfield 32, 3) := by decide +kernel
theorem dX8_addPart_43 : decode cX8_addPart 43 = .ok (.ireturn, 1) := by decide +kernel
theorem dX8_setInner_0 : decode cX8_setInner 0 = .ok (.iload_n 1, 1) := by decide +kernel
theorem dX8_setInner_1 : decode cX8_setInner 1 = .ok (.ifCond .lt 31, 3) := by decide +kernel
theorem dX8_setInner_4 : decode cX8_setInner 4 = .ok (.iload_n 1, 1) := by decide +kernel
theorem dX8_setInner_5 : decode cX8_setInner 5 = .ok (.aload_n 0, 1) := by decide +kernel
theorem dX8_setInner_6 : decode cX8_setInner 6 = .ok (.getfield 32, 3) := by decide +kernel
theorem dX8_setInner_9 : decode cX8_setInner 9 = .ok (.if_icmp .ge 23, 3) := by decide +kernel
theorem dX8_setInner_12 : decode cX8_setInner 12 = .ok (.iload_n 2, 1) := by decide +kernel
theorem dX8_setInner_13 : decode cX8_setInner 13 = .ok (.ifCond .lt 19, 3) := by decide +kernel
theorem dX8_setInner_16 : decode cX8_setInner 16 = .ok (.iload_n 2, 1) := by decide +kernel
theorem dX8_setInner_17 : decode cX8_setInner 17 = .ok (.iconst 3, 1) := by decide +kernel
theorem dX8_setInner_18 : decode cX8_setInner 18 = .ok (.if_icmp .ge 14, 3) := by decide +kernel
theorem dX8_setInner_21 : decode cX8_setInner 21 = .ok (.aload_n 0, 1) := by decide +kernel
theorem dX8_setInner_22 : decode cX8_setInner 22 = .ok (.getfield 23, 3) := by decide +kernel
theorem dX8_setInner_25 : decode cX8_setInner 25 = .ok (.iload_n 1, 1) := by decide +kernel
theorem dX8_setInner_26 : decode cX8_setInner 26 = .ok (.iconst 3, 1) := by decide +kernel
theorem dX8_setInner_27 : decode cX8_setInner 27 = .ok (.imul, 1) := by decide +kernel
theorem dX8_setInner_28 : decode cX8_setInner 28 = .ok (.iload_n 2, 1) := by decide +kernel
theorem dX8_setInner_29 : decode cX8_setInner 29 = .ok (.iadd, 1) := by decide +kernel
theorem dX8_setInner_30 : decode cX8_setInner 30 = .ok (.iload_n 3, 1) := by decide +kernel
theorem dX8_setInner_31 : decode cX8_setInner 31 = .ok (.iastore, 1) := by decide +kernel
theorem dX8_setInner_32 : decode cX8_setInner 32 = .ok (.return_, 1) := by decide +kernel
theorem dX8_inner_0 : decode cX8_inner 0 = .ok (.iload_n 1, 1) := by decide +kernel
theorem dX8_inner_1 : decode cX8_inner 1 = .ok (.ifCond .lt 33, 3) := by decide +kernel
theorem dX8_inner_4 : decode cX8_inner 4 = .ok (.iload_n 1, 1) := by decide +kernel
theorem dX8_inner_5 : decode cX8_inner 5 = .ok (.aload_n 0, 1) := by decide +kernel
theorem dX8_inner_6 : decode cX8_inner 6 = .ok (.getfield 32, 3) := by decide +kernel
theorem dX8_inner_9 : decode cX8_inner 9 = .ok (.if_icmp .ge 25, 3) := by decide +kernel
theorem dX8_inner_12 : decode cX8_inner 12 = .ok (.iload_n 2, 1) := by decide +kernel
theorem dX8_inner_13 : decode cX8_inner 13 = .ok (.ifCond .lt 21, 3) := by decide +kernel
theorem dX8_inner_16 : decode cX8_inner 16 = .ok (.iload_n 2, 1) := by decide +kernel
theorem dX8_inner_17 : decode cX8_inner 17 = .ok (.iconst 3, 1) := by decide +kernel
theorem dX8_inner_18 : decode cX8_inner 18 = .ok (.if_icmp .ge 16, 3) := by decide +kernel
theorem dX8_inner_21 : decode cX8_inner 21 = .ok (.aload_n 0, 1) := by decide +kernel
theorem dX8_inner_22 : decode cX8_inner 22 = .ok (.getfield 23, 3) := by decide +kernel
theorem dX8_inner_25 : decode cX8_inner 25 = .ok (.iload_n 1, 1) := by decide +kernel
theorem dX8_inner_26 : decode cX8_inner 26 = .ok (.iconst 3, 1) := by decide +kernel
theorem dX8_inner_27 : decode cX8_inner 27 = .ok (.imul, 1) := by decide +kernel
theorem dX8_inner_28 : decode cX8_inner 28 = .ok (.iload_n 2, 1) := by decide +kernel
theorem dX8_inner_29 : decode cX8_inner 29 = .ok (.iadd, 1) := by decide +kernel
theorem dX8_inner_30 : decode cX8_inner 30 = .ok (.iaload, 1) := by decide +kernel
theorem dX8_inner_31 : decode cX8_inner 31 = .ok (.goto 4, 3) := by decide +kernel
theorem dX8_inner_34 : decode cX8_inner 34 = .ok (.iconst (-1), 1) := by decide +kernel
theorem dX8_inner_35 : decode cX8_inner 35 = .ok (.ireturn, 1) := by decide +kernel
theorem dX8_addRule_0 : decode cX8_addRule 0 = .ok (.aload_n 0, 1) := by decide +kernel
theorem dX8_addRule_1 : decode cX8_addRule 1 = .ok (.getfield 35, 3) := by decide +kernel
theorem dX8_addRule_4 : decode cX8_addRule 4 = .ok (.bipush 24, 2) := by decide +kernel
theorem dX8_addRule_6 : decode cX8_addRule 6 = .ok (.if_icmp .ge 33, 3) := by decide +kernel
theorem dX8_addRule_9 : decode cX8_addRule 9 = .ok (.aload_n 0, 1) := by decide +kernel
theorem dX8_addRule_10 : decode cX8_addRule 10 = .ok (.getfield 26, 3) := by decide +kernel
theorem dX8_addRule_13 : decode cX8_addRule 13 = .ok (.aload_n 0, 1) := by decide +kernel
theorem dX8_addRule_14 : decode cX8_addRule 14 = .ok (.getfield 35, 3) := by decide +kernel
theorem dX8_addRule_17 : decode cX8_addRule 17 = .ok (.lload_n 1, 1) := by decide +kernel
theorem dX8_addRule_18 : decode cX8_addRule 18 = .ok (.lastore, 1) := by decide +kernel
theorem dX8_addRule_19 : decode cX8_addRule 19 = .ok (.aload_n 0, 1) := by decide +kernel
theorem dX8_addRule_20 : decode cX8_addRule 20 = .ok (.getfield 29, 3) := by decide +kernel
theorem dX8_addRule_23 : decode cX8_addRule 23 = .ok (.aload_n 0, 1) := by decide +kernel
theorem dX8_addRule_24 : decode cX8_addRule 24 = .ok (.getfield 35, 3) := by decide +kernel
theorem dX8_addRule_27 : decode cX8_addRule 27 = .ok (.iload_n 3, 1) := by decide +kernel
theorem dX8_addRule_28 : decode cX8_addRule 28 = .ok (.iastore, 1) := by decide +kernel
theorem dX8_addRule_29 : decode cX8_addRule 29 = .ok (.aload_n 0, 1) := by decide +kernel
theorem dX8_addRule_30 : decode cX8_addRule 30 = .ok (.dup, 1) := by decide +kernel
theorem dX8_addRule_31 : decode cX8_addRule 31 = .ok (.getfield 35, 3) := by decide +kernel
theorem dX8_addRule_34 : decode cX8_addRule 34 = .ok (.iconst 1, 1) := by decide +kernel
theorem dX8_addRule_35 : decode cX8_addRule 35 = .ok (.iadd, 1) := by decide +kernel
theorem dX8_addRule_36 : decode cX8_addRule 36 = .ok (.putfield 35, 3) := by decide +kernel
theorem dX8_addRule_39 : decode cX8_addRule 39 = .ok (.return_, 1) := by decide +kernel
theorem dX8_ruleNamed_0 : decode cX8_ruleNamed 0 = .ok (.iconst 0, 1) := by decide +kernel
theorem dX8_ruleNamed_1 : decode cX8_ruleNamed 1 = .ok (.istore_n 3, 1) := by decide +kernel
theorem dX8_ruleNamed_2 : decode cX8_ruleNamed 2 = .ok (.iload_n 3, 1) := by decide +kernel
theorem dX8_ruleNamed_3 : decode cX8_ruleNamed 3 = .ok (.aload_n 0, 1) := by decide +kernel
theorem dX8_ruleNamed_4 : decode cX8_ruleNamed 4 = .ok (.getfield 35, 3) := by decide +kernel
theorem dX8_ruleNamed_7 : decode cX8_ruleNamed 7 = .ok (.if_icmp .ge 22, 3) := by decide +kernel
theorem dX8_ruleNamed_10 : decode cX8_ruleNamed 10 = .ok (.aload_n 0, 1) := by decide +kernel
theorem dX8_ruleNamed_11 : decode cX8_ruleNamed 11 = .ok (.getfield 26, 3) := by decide +kernel
theorem dX8_ruleNamed_14 : decode cX8_ruleNamed 14 = .ok (.iload_n 3, 1) := by decide +kernel
theorem dX8_ruleNamed_15 : decode cX8_ruleNamed 15 = .ok (.laload, 1) := by decide +kernel
theorem dX8_ruleNamed_16 : decode cX8_ruleNamed 16 = .ok (.lload_n 1, 1) := by decide +kernel
theorem dX8_ruleNamed_17 : decode cX8_ruleNamed 17 = .ok (.lcmp, 1) := by decide +kernel
theorem dX8_ruleNamed_18 : decode cX8_ruleNamed 18 = .ok (.ifCond .ne 5, 3) := by decide +kernel
theorem dX8_ruleNamed_21 : decode cX8_ruleNamed 21 = .ok (.iload_n 3, 1) := by decide +kernel
theorem dX8_ruleNamed_22 : decode cX8_ruleNamed 22 = .ok (.ireturn, 1) := by decide +kernel
theorem dX8_ruleNamed_23 : decode cX8_ruleNamed 23 = .ok (.iinc 3 1, 3) := by decide +kernel
theorem dX8_ruleNamed_26 : decode cX8_ruleNamed 26 = .ok (.goto (-24), 3) := by decide +kernel
theorem dX8_ruleNamed_29 : decode cX8_ruleNamed 29 = .ok (.iconst (-1), 1) := by decide +kernel
theorem dX8_ruleNamed_30 : decode cX8_ruleNamed 30 = .ok (.ireturn, 1) := by decide +kernel
theorem dX9_init_0 : decode cX9_init 0 = .ok (.aload_n 0, 1) := by decide +kernel
theorem dX9_init_1 : decode cX9_init 1 = .ok (.invokespecial 3, 3) := by decide +kernel
theorem dX9_init_4 : decode cX9_init 4 = .ok (.aload_n 0, 1) := by decide +kernel
theorem dX9_init_5 : decode cX9_init 5 = .ok (.bipush 12, 2) := by decide +kernel
theorem dX9_init_7 : decode cX9_init 7 = .ok (.newarray .long, 2) := by decide +kernel
theorem dX9_init_9 : decode cX9_init 9 = .ok (.putfield 11, 3) := by decide +kernel
theorem dX9_init_12 : decode cX9_init 12 = .ok (.return_, 1) := by decide +kernel
theorem dX9_setNumber_0 : decode cX9_setNumber 0 = .ok (.aload_n 0, 1) := by decide +kernel
theorem dX9_setNumber_1 : decode cX9_setNumber 1 = .ok (.iload_n 1, 1) := by decide +kernel
theorem dX9_setNumber_2 : decode cX9_setNumber 2 = .ok (.putfield 15, 3) := by decide +kernel
theorem dX9_setNumber_5 : decode cX9_setNumber 5 = .ok (.aload_n 0, 1) := by decide +kernel
theorem dX9_setNumber_6 : decode cX9_setNumber 6 = .ok (.iconst 0, 1) := by decide +kernel
theorem dX9_setNumber_7 : decode cX9_setNumber 7 = .ok (.putfield 19, 3) := by decide +kernel
theorem dX9_setNumber_10 : decode cX9_setNumber 10 = .ok (.aload_n 0, 1) := by decide +kernel
theorem dX9_setNumber_11 : decode cX9_setNumber 11 = .ok (.getfield 11, 3) := by decide +kernel
theorem dX9_setNumber_14 : decode cX9_setNumber 14 = .ok (.iconst 0, 1) := by decide +kernel
theorem dX9_setNumber_15 : decode cX9_setNumber 15 = .ok (.lload_n 2, 1) := by decide +kernel
theorem dX9_setNumber_16 : decode cX9_setNumber 16 = .ok (.lastore, 1) := by decide +kernel
theorem dX9_setNumber_17 : decode cX9_setNumber 17 = .ok (.return_, 1) := by decide +kernel
theorem dX9_setRow_0 : decode cX9_setRow 0 = .ok (.aload_n 0, 1) := by decide +kernel
theorem dX9_setRow_1 : decode cX9_setRow 1 = .ok (.iload_n 1, 1) := by decide +kernel
theorem dX9_setRow_2 : decode cX9_setRow 2 = .ok (.putfield 15, 3) := by decide +kernel
theorem dX9_setRow_5 : decode cX9_setRow 5 = .ok (.aload_n 0, 1) := by decide +kernel
theorem dX9_setRow_6 : decode cX9_setRow 6 = .ok (.iload_n 2, 1) := by decide +kernel
theorem dX9_setRow_7 : decode cX9_setRow 7 = .ok (.putfield 19, 3) := by decide +kernel
theorem dX9_setRow_10 : decode cX9_setRow 10 = .ok (.aload_n 0, 1) := by decide +kernel
theorem dX9_setRow_11 : decode cX9_setRow 11 = .ok (.getfield 11, 3) := by decide +kernel
theorem dX9_setRow_14 : decode cX9_setRow 14 = .ok (.iload_n 1, 1) := by decide +kernel
theorem dX9_setRow_15 : decode cX9_setRow 15 = .ok (.iconst 5, 1) := by decide +kernel
theorem dX9_setRow_16 : decode cX9_setRow 16 = .ok (.if_icmp .lt 9, 3) := by decide +kernel
theorem dX9_setRow_19 : decode cX9_setRow 19 = .ok (.ldc2_w 22, 3) := by decide +kernel
theorem dX9_setRow_22 : decode cX9_setRow 22 = .ok (.goto 4, 3) := by decide +kernel
theorem dX9_setRow_25 : decode cX9_setRow 25 = .ok (.lconst 0, 1) := by decide +kernel
theorem dX9_setRow_26 : decode cX9_setRow 26 = .ok (.invokestatic 24, 3) := by decide +kernel
theorem dX9_setRow_29 : decode cX9_setRow 29 = .ok (.return_, 1) := by decide +kernel
theorem dX9_setTo_0 : decode cX9_setTo 0 = .ok (.aload_n 0, 1) := by decide +kernel
theorem dX9_setTo_1 : decode cX9_setTo 1 = .ok (.aload_n 1, 1) := by decide +kernel
theorem dX9_setTo_2 : decode cX9_setTo 2 = .ok (.getfield 15, 3) := by decide +kernel
theorem dX9_setTo_5 : decode cX9_setTo 5 = .ok (.putfield 15, 3) := by decide +kernel
theorem dX9_setTo_8 : decode cX9_setTo 8 = .ok (.aload_n 0, 1) := by decide +kernel
theorem dX9_setTo_9 : decode cX9_setTo 9 = .ok (.aload_n 1, 1) := by decide +kernel
theorem dX9_setTo_10 : decode cX9_setTo 10 = .ok (.getfield 19, 3) := by decide +kernel
theorem dX9_setTo_13 : decode cX9_setTo 13 = .ok (.putfield 19, 3) := by decide +kernel
theorem dX9_setTo_16 : decode cX9_setTo 16 = .ok (.aload_n 1, 1) := by decide +kernel
theorem dX9_setTo_17 : decode cX9_setTo 17 = .ok (.getfield 11, 3) := by decide +kernel
theorem dX9_setTo_20 : decode cX9_setTo 20 = .ok (.iconst 0, 1) := by decide +kernel
theorem dX9_setTo_21 : decode cX9_setTo 21 = .ok (.aload_n 0, 1) := by decide +kernel
theorem dX9_setTo_22 : decode cX9_setTo 22 = .ok (.getfield 11, 3) := by decide +kernel
theorem dX9_setTo_25 : decode cX9_setTo 25 = .ok (.iconst 0, 1) := by decide +kernel
theorem dX9_setTo_26 : decode cX9_setTo 26 = .ok (.bipush 12, 2) := by decide +kernel
theorem dX9_setTo_28 : decode cX9_setTo 28 = .ok (.invokestatic 30, 3) := by decide +kernel
theorem dX9_setTo_31 : decode cX9_setTo 31 = .ok (.return_, 1) := by decide +kernel
theorem dX9_setBits_0 : decode cX9_setBits 0 = .ok (.iload_n 1, 1) := by decide +kernel
theorem dX9_setBits_1 : decode cX9_setBits 1 = .ok (.ifCond .lt 9, 3) := by decide +kernel
theorem dX9_setBits_4 : decode cX9_setBits 4 = .ok (.iload_n 1, 1) := by decide +kernel
theorem dX9_setBits_5 : decode cX9_setBits 5 = .ok (.bipush 12, 2) := by decide +kernel
theorem dX9_setBits_7 : decode cX9_setBits 7 = .ok (.if_icmp .lt 4, 3) := by decide +kernel
theorem dX9_setBits_10 : decode cX9_setBits 10 = .ok (.return_, 1) := by decide +kernel
theorem dX9_setBits_11 : decode cX9_setBits 11 = .ok (.aload_n 0, 1) := by decide +kernel
theorem dX9_setBits_12 : decode cX9_setBits 12 = .ok (.getfield 15, 3) := by decide +kernel
theorem dX9_setBits_15 : decode cX9_setBits 15 = .ok (.iconst 2, 1) := by decide +kernel
theorem dX9_setBits_16 : decode cX9_setBits 16 = .ok (.if_icmp .ne 15, 3) := by decide +kernel
theorem dX9_setBits_19 : decode cX9_setBits 19 = .ok (.aload_n 0, 1) := by decide +kernel
theorem dX9_setBits_20 : decode cX9_setBits 20 = .ok (.getfield 11, 3) := by decide +kernel
theorem dX9_setBits_23 : decode cX9_setBits 23 = .ok (.iload_n 1, 1) := by decide +kernel
theorem dX9_setBits_24 : decode cX9_setBits 24 = .ok (.lload_n 2, 1) := by decide +kernel
theorem dX9_setBits_25 : decode cX9_setBits 25 = .ok (.l2i, 1) := by decide +kernel
theorem dX9_setBits_26 : decode cX9_setBits 26 = .ok (.i2l, 1) := by decide +kernel
theorem dX9_setBits_27 : decode cX9_setBits 27 = .ok (.lastore, 1) := by decide +kernel
theorem dX9_setBits_28 : decode cX9_setBits 28 = .ok (.goto 45, 3) := by decide +kernel
theorem dX9_setBits_31 : decode cX9_setBits 31 = .ok (.aload_n 0, 1) := by decide +kernel
theorem dX9_setBits_32 : decode cX9_setBits 32 = .ok (.getfield 15, 3) := by decide +kernel
theorem dX9_setBits_35 : decode cX9_setBits 35 = .ok (.iconst 1, 1) := by decide +kernel
theorem dX9_setBits_36 : decode cX9_setBits 36 = .ok (.if_icmp .eq 11, 3) := by decide +kernel
theorem dX9_setBits_39 : decode cX9_setBits 39 = .ok (.aload_n 0, 1) := by decide +kernel
theorem dX9_setBits_40 : decode cX9_setBits 40 = .ok (.getfield 15, 3) := by decide +kernel
theorem dX9_setBits_43 : decode cX9_setBits 43 = .ok (.iconst 4, 1) := by decide +kernel
theorem dX9_setBits_44 : decode cX9_setBits 44 = .ok (.if_icmp .ne 22, 3) := by decide +kernel
theorem dX9_setBits_47 : decode cX9_setBits 47 = .ok (.lload_n 2, 1) := by decide +kernel
theorem dX9_setBits_48 : decode cX9_setBits 48 = .ok (.invokestatic 36, 3) := by decide +kernel
theorem dX9_setBits_51 : decode cX9_setBits 51 = .ok (.ifCond .eq 15, 3) := by decide +kernel
theorem dX9_setBits_54 : decode cX9_setBits 54 = .ok (.aload_n 0, 1) := by decide +kernel
theorem dX9_setBits_55 : decode cX9_setBits 55 = .ok (.getfield 11, 3) := by decide +kernel
theorem dX9_setBits_58 : decode cX9_setBits 58 = .ok (.iload_n 1, 1) := by decide +kernel
theorem dX9_setBits_59 : decode cX9_setBits 59 = .ok (.ldc2_w 42, 3) := by decide +kernel
theorem dX9_setBits_62 : decode cX9_setBits 62 = .ok (.lastore, 1) := by decide +kernel
theorem dX9_setBits_63 : decode cX9_setBits 63 = .ok (.goto 10, 3) := by decide +kernel
theorem dX9_setBits_66 : decode cX9_setBits 66 = .ok (.aload_n 0, 1) := by decide +kernel
theorem dX9_setBits_67 : decode cX9_setBits 67 = .ok (.getfield 11, 3) := by decide +kernel
theorem dX9_setBits_70 : decode cX9_setBits 70 = .ok (.iload_n 1, 1) := by decide +kernel
theorem dX9_setBits_71 : decode cX9_setBits 71 = .ok (.lload_n 2, 1) := by decide +kernel
theorem dX9_setBits_72 : decode cX9_setBits 72 = .ok (.lastore, 1) := by decide +kernel
theorem dX9_setBits_73 : decode cX9_setBits 73 = .ok (.return_, 1) := by decide +kernel
theorem dX9_isNumber_0 : decode cX9_isNumber 0 = .ok (.aload_n 0, 1) := by decide +kernel
theorem dX9_isNumber_1 : decode cX9_isNumber 1 = .ok (.getfield 15, 3) := by decide +kernel
theorem dX9_isNumber_4 : decode cX9_isNumber 4 = .ok (.ifCond .eq 11, 3) := by decide +kernel
theorem dX9_isNumber_7 : decode cX9_isNumber 7 = .ok (.aload_n 0, 1) := by decide +kernel
theorem dX9_isNumber_8 : decode cX9_isNumber 8 = .ok (.getfield 15, 3) := by decide +kernel
theorem dX9_isNumber_11 : decode cX9_isNumber 11 = .ok (.iconst 1, 1) := by decide +kernel
theorem dX9_isNumber_12 : decode cX9_isNumber 12 = .ok (.if_icmp .ne 7, 3) := by decide +kernel
theorem dX9_isNumber_15 : decode cX9_isNumber 15 = .ok (.iconst 1, 1) := by decide +kernel
theorem dX9_isNumber_16 : decode cX9_isNumber 16 = .ok (.goto 4, 3) := by decide +kernel
theorem dX9_isNumber_19 : decode cX9_isNumber 19 = .ok (.iconst 0, 1) := by decide +kernel
theorem dX9_isNumber_20 : decode cX9_isNumber 20 = .ok (.ireturn, 1) := by decide +kernel
theorem dX9_isRow_0 : decode cX9_isRow 0 = .ok (.aload_n 0, 1) := by decide +kernel
theorem dX9_isRow_1 : decode cX9_isRow 1 = .ok (.getfield 15, 3) := by decide +kernel
theorem dX9_isRow_4 : decode cX9_isRow 4 = .ok (.iconst 2, 1) := by decide +kernel
theorem dX9_isRow_5 : decode cX9_isRow 5 = .ok (.if_icmp .lt 16, 3) := by decide +kernel
theorem dX9_isRow_8 : decode cX9_isRow 8 = .ok (.aload_n 0, 1) := by decide +kernel
theorem dX9_isRow_9 : decode cX9_isRow 9 = .ok (.getfield 15, 3) := by decide +kernel
theorem dX9_isRow_12 : decode cX9_isRow 12 = .ok (.bipush 7, 2) := by decide +kernel
theorem dX9_isRow_14 : decode cX9_isRow 14 = .ok (.if_icmp .gt 7, 3) := by decide +kernel
theorem dX9_isRow_17 : decode cX9_isRow 17 = .ok (.iconst 1, 1) := by decide +kernel
theorem dX9_isRow_18 : decode cX9_isRow 18 = .ok (.goto 4, 3) := by decide +kernel
theorem dX9_isRow_21 : decode cX9_isRow 21 = .ok (.iconst 0, 1) := by decide +kernel
theorem dX9_isRow_22 : decode cX9_isRow 22 = .ok (.ireturn, 1) := by decide +kernel
theorem dX9_isRowOfNumbers_0 : decode cX9_isRowOfNumbers 0 = .ok (.aload_n 0, 1) := by decide +kernel
theorem dX9_isRowOfNumbers_1 : decode cX9_isRowOfNumbers 1 = .ok (.getfield 15, 3) := by decide +kernel
theorem dX9_isRowOfNumbers_4 : decode cX9_isRowOfNumbers 4 = .ok (.iconst 2, 1) := by decide +kernel
theorem dX9_isRowOfNumbers_5 : decode cX9_isRowOfNumbers 5 = .ok (.if_icmp .lt 15, 3) := by decide +kernel
theorem dX9_isRowOfNumbers_8 : decode cX9_isRowOfNumbers 8 = .ok (.aload_n 0, 1) := by decide +kernel
theorem dX9_isRowOfNumbers_9 : decode cX9_isRowOfNumbers 9 = .ok (.getfield 15, 3) := by decide +kernel
theorem dX9_isRowOfNumbers_12 : decode cX9_isRowOfNumbers 12 = .ok (.iconst 4, 1) := by decide +kernel
theorem dX9_isRowOfNumbers_13 : decode cX9_isRowOfNumbers 13 = .ok (.if_icmp .gt 7, 3) := by decide +kernel
theorem dX9_isRowOfNumbers_16 : decode cX9_isRowOfNumbers 16 = .ok (.iconst 1, 1) := by decide +kernel
theorem dX9_isRowOfNumbers_17 : decode cX9_isRowOfNumbers 17 = .ok (.goto 4, 3) := by decide +kernel
theorem dX9_isRowOfNumbers_20 : decode cX9_isRowOfNumbers 20 = .ok (.iconst 0, 1) := by decide +kernel
theorem dX9_isRowOfNumbers_21 : decode cX9_isRowOfNumbers 21 = .ok (.ireturn, 1) := by decide +kernel
theorem dX9_isKin_0 : decode cX9_isKin 0 = .ok (.aload_n 0, 1) := by decide +kernel
theorem dX9_isKin_1 : decode cX9_isKin 1 = .ok (.getfield 15, 3) := by decide +kernel
theorem dX9_isKin_4 : decode cX9_isKin 4 = .ok (.iconst 5, 1) := by decide +kernel
theorem dX9_isKin_5 : decode cX9_isKin 5 = .ok (.if_icmp .lt 16, 3) := by decide +kernel
theorem dX9_isKin_8 : decode cX9_isKin 8 = .ok (.aload_n 0, 1) := by decide +kernel
theorem dX9_isKin_9 : decode cX9_isKin 9 = .ok (.getfield 15, 3) := by decide +kernel
theorem dX9_isKin_12 : decode cX9_isKin 12 = .ok (.bipush 7, 2) := by decide +kernel
theorem dX9_isKin_14 : decode cX9_isKin 14 = .ok (.if_icmp .gt 7, 3) := by decide +kernel
theorem dX9_isKin_17 : decode cX9_isKin 17 = .ok (.iconst 1, 1) := by decide +kernel
theorem dX9_isKin_18 : decode cX9_isKin 18 = .ok (.goto 4, 3) := by decide +kernel
theorem dX9_isKin_21 : decode cX9_isKin 21 = .ok (.iconst 0, 1) := by decide +kernel
theorem dX9_isKin_22 : decode cX9_isKin 22 = .ok (.ireturn, 1) := by decide +kernel
theorem dX9_hasItem_0 : decode cX9_hasItem 0 = .ok (.lload_n 1, 1) := by decide +kernel
theorem dX9_hasItem_1 : decode cX9_hasItem 1 = .ok (.lconst 0, 1) := by decide +kernel
theorem dX9_hasItem_2 : decode cX9_hasItem 2 = .ok (.lcmp, 1) := by decide +kernel
theorem dX9_hasItem_3 : decode cX9_hasItem 3 = .ok (.ifCond .lt 25, 3) := by decide +kernel
theorem dX9_hasItem_6 : decode cX9_hasItem 6 = .ok (.lload_n 1, 1) := by decide +kernel
theorem dX9_hasItem_7 : decode cX9_hasItem 7 = .ok (.aload_n 0, 1) := by decide +kernel
theorem dX9_hasItem_8 : decode cX9_hasItem 8 = .ok (.getfield 19, 3) := by decide +kernel
theorem dX9_hasItem_11 : decode cX9_hasItem 11 = .ok (.i2l, 1) := by decide +kernel
theorem dX9_hasItem_12 : decode cX9_hasItem 12 = .ok (.lcmp, 1) := by decide +kernel
theorem dX9_hasItem_13 : decode cX9_hasItem 13 = .ok (.ifCond .ge 15, 3) := by decide +kernel
theorem dX9_hasItem_16 : decode cX9_hasItem 16 = .ok (.lload_n 1, 1) := by decide +kernel
theorem dX9_hasItem_17 : decode cX9_hasItem 17 = .ok (.ldc2_w 44, 3) := by decide +kernel
theorem dX9_hasItem_20 : decode cX9_hasItem 20 = .ok (.lcmp, 1) := by decide +kernel
theorem dX9_hasItem_21 : decode cX9_hasItem 21 = .ok (.ifCond .ge 7, 3) := by decide +kernel
theorem dX9_hasItem_24 : decode cX9_hasItem 24 = .ok (.iconst 1, 1) := by decide +kernel
theorem dX9_hasItem_25 : decode cX9_hasItem 25 = .ok (.goto 4, 3) := by decide +kernel
theorem dX9_hasItem_28 : decode cX9_hasItem 28 = .ok (.iconst 0, 1) := by decide +kernel
theorem dX9_hasItem_29 : decode cX9_hasItem 29 = .ok (.ireturn, 1) := by decide +kernel
theorem dX9_isLike_0 : decode cX9_isLike 0 = .ok (.aload_n 0, 1) := by decide +kernel
theorem dX9_isLike_1 : decode cX9_isLike 1 = .ok (.getfield 15, 3) := by decide +kernel
theorem dX9_isLike_4 : decode cX9_isLike 4 = .ok (.aload_n 1, 1) := by decide +kernel
theorem dX9_isLike_5 : decode cX9_isLike 5 = .ok (.getfield 15, 3) := by decide +kernel
theorem dX9_isLike_8 : decode cX9_isLike 8 = .ok (.if_icmp .ne 14, 3) := by decide +kernel
theorem dX9_isLike_11 : decode cX9_isLike 11 = .ok (.aload_n 0, 1) := by decide +kernel
theorem dX9_isLike_12 : decode cX9_isLike 12 = .ok (.getfield 19, 3) := by decide +kernel
theorem dX9_isLike_15 : decode cX9_isLike 15 = .ok (.aload_n 1, 1) := by decide +kernel
theorem dX9_isLike_16 : decode cX9_isLike 16 = .ok (.getfield 19, 3) := by decide +kernel
theorem dX9_isLike_19 : decode cX9_isLike 19 = .ok (.if_icmp .eq 5, 3) := by decide +kernel
theorem dX9_isLike_22 : decode cX9_isLike 22 = .ok (.iconst 0, 1) := by decide +kernel
theorem dX9_isLike_23 : decode cX9_isLike 23 = .ok (.ireturn, 1) := by decide +kernel
theorem dX9_isLike_24 : decode cX9_isLike 24 = .ok (.aload_n 0, 1) := by decide +kernel
theorem dX9_isLike_25 : decode cX9_isLike 25 = .ok (.invokevirtual 46, 3) := by decide +kernel
theorem dX9_isLike_28 : decode cX9_isLike 28 = .ok (.ifCond .eq 10, 3) := by decide +kernel
theorem dX9_isLike_31 : decode cX9_isLike 31 = .ok (.aload_n 0, 1) := by decide +kernel
theorem dX9_isLike_32 : decode cX9_isLike 32 = .ok (.getfield 19, 3) := by decide +kernel
theorem dX9_isLike_35 : decode cX9_isLike 35 = .ok (.goto 4, 3) := by decide +kernel
theorem dX9_isLike_38 : decode cX9_isLike 38 = .ok (.iconst 1, 1) := by decide +kernel
theorem dX9_isLike_39 : decode cX9_isLike 39 = .ok (.istore_n 2, 1) := by decide +kernel
theorem dX9_isLike_40 : decode cX9_isLike 40 = .ok (.iconst 0, 1) := by decide +kernel
theorem dX9_isLike_41 : decode cX9_isLike 41 = .ok (.istore_n 3, 1) := by decide +kernel
theorem dX9_isLike_42 : decode cX9_isLike 42 = .ok (.iload_n 3, 1) := by decide +kernel
theorem dX9_isLike_43 : decode cX9_isLike 43 = .ok (.iload_n 2, 1) := by decide +kernel
theorem dX9_isLike_44 : decode cX9_isLike 44 = .ok (.if_icmp .ge 33, 3) := by decide +kernel
theorem dX9_isLike_47 : decode cX9_isLike 47 = .ok (.iload_n 3, 1) := by decide +kernel
theorem dX9_isLike_48 : decode cX9_isLike 48 = .ok (.bipush 12, 2) := by decide +kernel
theorem dX9_isLike_50 : decode cX9_isLike 50 = .ok (.if_icmp .ge 27, 3) := by decide +kernel
theorem dX9_isLike_53 : decode cX9_isLike 53 = .ok (.aload_n 0, 1) := by decide +kernel
theorem dX9_isLike_54 : decode cX9_isLike 54 = .ok (.getfield 11, 3) := by decide +kernel
theorem dX9_isLike_57 : decode cX9_isLike 57 = .ok (.iload_n 3, 1) := by decide +kernel
theorem dX9_isLike_58 : decode cX9_isLike 58 = .ok (.laload, 1) := by decide +kernel
theorem dX9_isLike_59 : decode cX9_isLike 59 = .ok (.aload_n 1, 1) := by decide +kernel
theorem dX9_isLike_60 : decode cX9_isLike 60 = .ok (.getfield 11, 3) := by decide +kernel
theorem dX9_isLike_63 : decode cX9_isLike 63 = .ok (.iload_n 3, 1) := by decide +kernel
theorem dX9_isLike_64 : decode cX9_isLike 64 = .ok (.laload, 1) := by decide +kernel
theorem dX9_isLike_65 : decode cX9_isLike 65 = .ok (.lcmp, 1) := by decide +kernel
theorem dX9_isLike_66 : decode cX9_isLike 66 = .ok (.ifCond .eq 5, 3) := by decide +kernel
theorem dX9_isLike_69 : decode cX9_isLike 69 = .ok (.iconst 0, 1) := by decide +kernel
theorem dX9_isLike_70 : decode cX9_isLike 70 = .ok (.ireturn, 1) := by decide +kernel
theorem dX9_isLike_71 : decode cX9_isLike 71 = .ok (.iinc 3 1, 3) := by decide +kernel
theorem dX9_isLike_74 : decode cX9_isLike 74 = .ok (.goto (-32), 3) := by decide +kernel
theorem dX9_isLike_77 : decode cX9_isLike 77 = .ok (.iconst 1, 1) := by decide +kernel
theorem dX9_isLike_78 : decode cX9_isLike 78 = .ok (.ireturn, 1) := by decide +kernel
theorem dX10_init_0 : decode cX10_init 0 = .ok (.aload_n 0, 1) := by decide +kernel
theorem dX10_init_1 : decode cX10_init 1 = .ok (.invokespecial 5, 3) := by decide +kernel
theorem dX10_init_4 : decode cX10_init 4 = .ok (.aload_n 0, 1) := by decide +kernel
theorem dX10_init_5 : decode cX10_init 5 = .ok (.aload_n 1, 1) := by decide +kernel
theorem dX10_init_6 : decode cX10_init 6 = .ok (.putfield 11, 3) := by decide +kernel
theorem dX10_init_9 : decode cX10_init 9 = .ok (.aload_n 0, 1) := by decide +kernel
theorem dX10_init_10 : decode cX10_init 10 = .ok (.sipush 300, 3) := by decide +kernel
theorem dX10_init_13 : decode cX10_init 13 = .ok (.newarray .int, 2) := by decide +kernel
theorem dX10_init_15 : decode cX10_init 15 = .ok (.putfield 17, 3) := by decide +kernel
theorem dX10_init_18 : decode cX10_init 18 = .ok (.aload_n 0, 1) := by decide +kernel
theorem dX10_init_19 : decode cX10_init 19 = .ok (.sipush 300, 3) := by decide +kernel
theorem dX10_init_22 : decode cX10_init 22 = .ok (.newarray .int, 2) := by decide +kernel
theorem dX10_init_24 : decode cX10_init 24 = .ok (.putfield 21, 3) := by decide +kernel
theorem dX10_init_27 : decode cX10_init 27 = .ok (.aload_n 0, 1) := by decide +kernel
theorem dX10_init_28 : decode cX10_init 28 = .ok (.sipush 300, 3) := by decide +kernel
theorem dX10_init_31 : decode cX10_init 31 = .ok (.newarray .int, 2) := by decide +kernel
theorem dX10_init_33 : decode cX10_init 33 = .ok (.putfield 24, 3) := by decide +kernel
theorem dX10_init_36 : decode cX10_init 36 = .ok (.aload_n 0, 1) := by decide +kernel
theorem dX10_init_37 : decode cX10_init 37 = .ok (.sipush 300, 3) := by decide +kernel
theorem dX10_init_40 : decode cX10_init 40 = .ok (.newarray .int, 2) := by decide +kernel
theorem dX10_init_42 : decode cX10_init 42 = .ok (.putfield 27, 3) := by decide +kernel
theorem dX10_init_45 : decode cX10_init 45 = .ok (.aload_n 0, 1) := by decide +kernel
theorem dX10_init_46 : decode cX10_init 46 = .ok (.sipush 300, 3) := by decide +kernel
theorem dX10_init_49 : decode cX10_init 49 = .ok (.newarray .long, 2) := by decide +kernel
theorem dX10_init_51 : decode cX10_init 51 = .ok (.putfield 30, 3) := by decide +kernel
theorem dX10_init_54 : decode cX10_init 54 = .ok (.aload_n 0, 1) := by decide +kernel
theorem dX10_init_55 : decode cX10_init 55 = .ok (.sipush 600, 3) := by decide +kernel
theorem dX10_init_58 : decode cX10_init 58 = .ok (.anewarray 34, 3) := by decide +kernel
theorem dX10_init_61 : decode cX10_init 61 = .ok (.putfield 36, 3) := by decide +kernel
theorem dX10_init_64 : decode cX10_init 64 = .ok (.iconst 0, 1) := by decide +kernel
theorem dX10_init_65 : decode cX10_init 65 = .ok (.istore_n 2, 1) := by decide +kernel
theorem dX10_init_66 : decode cX10_init 66 = .ok (.iload_n 2, 1) := by decide +kernel
theorem dX10_init_67 : decode cX10_init 67 = .ok (.aload_n 0, 1) := by decide +kernel
theorem dX10_init_68 : decode cX10_init 68 = .ok (.getfield 36, 3) := by decide +kernel
theorem dX10_init_71 : decode cX10_init 71 = .ok (.arraylength, 1) := by decide +kernel
theorem dX10_init_72 : decode cX10_init 72 = .ok (.if_icmp .ge 22, 3) := by decide +kernel
theorem dX10_init_75 : decode cX10_init 75 = .ok (.aload_n 0, 1) := by decide +kernel
theorem dX10_init_76 : decode cX10_init 76 = .ok (.getfield 36, 3) := by decide +kernel
theorem dX10_init_79 : decode cX10_init 79 = .ok (.iload_n 2, 1) := by decide +kernel
theorem dX10_init_80 : decode cX10_init 80 = .ok (.new 34, 3) := by decide +kernel
theorem dX10_init_83 : decode cX10_init 83 = .ok (.dup, 1) := by decide +kernel
theorem dX10_init_84 : decode cX10_init 84 = .ok (.invokespecial 40, 3) := by decide +kernel
theorem dX10_init_87 : decode cX10_init 87 = .ok (.aastore, 1) := by decide +kernel
theorem dX10_init_88 : decode cX10_init 88 = .ok (.iinc 2 1, 3) := by decide +kernel
theorem dX10_init_91 : decode cX10_init 91 = .ok (.goto (-25), 3) := by decide +kernel
theorem dX10_init_94 : decode cX10_init 94 = .ok (.return_, 1) := by decide +kernel
theorem dX10_work_0 : decode cX10_work 0 = .ok (.aload_n 0, 1) := by decide +kernel
theorem dX10_work_1 : decode cX10_work 1 = .ok (.aload_n 1, 1) := by decide +kernel
theorem dX10_work_2 : decode cX10_work 2 = .ok (.putfield 41, 3) := by decide +kernel
theorem dX10_work_5 : decode cX10_work 5 = .ok (.aload_n 0, 1) := by decide +kernel
theorem dX10_work_6 : decode cX10_work 6 = .ok (.aload_n 2, 1) := by decide +kernel
theorem dX10_work_7 : decode cX10_work 7 = .ok (.putfield 45, 3) := by decide +kernel
theorem dX10_work_10 : decode cX10_work 10 = .ok (.aload_n 0, 1) := by decide +kernel
theorem dX10_work_11 : decode cX10_work 11 = .ok (.iload 5, 2) := by decide +kernel
theorem dX10_work_13 : decode cX10_work 13 = .ok (.putfield 49, 3) := by decide +kernel
theorem dX10_work_16 : decode cX10_work 16 = .ok (.aload_n 0, 1) := by decide +kernel
theorem dX10_work_17 : decode cX10_work 17 = .ok (.iload 6, 2) := by decide +kernel
theorem dX10_work_19 : decode cX10_work 19 = .ok (.putfield 53, 3) := by decide +kernel
theorem dX10_work_22 : decode cX10_work 22 = .ok (.aload_n 0, 1) := by decide +kernel
theorem dX10_work_23 : decode cX10_work 23 = .ok (.iload 7, 2) := by decide +kernel
theorem dX10_work_25 : decode cX10_work 25 = .ok (.putfield 56, 3) := by decide +kernel
theorem dX10_work_28 : decode cX10_work 28 = .ok (.aload_n 0, 1) := by decide +kernel
theorem dX10_work_29 : decode cX10_work 29 = .ok (.getfield 41, 3) := by decide +kernel
theorem dX10_work_32 : decode cX10_work 32 = .ok (.invokevirtual 59, 3) := by decide +kernel
theorem dX10_work_35 : decode cX10_work 35 = .ok (.aload_n 0, 1) := by decide +kernel
theorem dX10_work_36 : decode cX10_work 36 = .ok (.getfield 45, 3) := by decide +kernel
theorem dX10_work_39 : decode cX10_work 39 = .ok (.ifnonnull 7, 3) := by decide +kernel
theorem dX10_work_42 : decode cX10_work 42 = .ok (.iconst (-1), 1) := by decide +kernel
theorem dX10_work_43 : decode cX10_work 43 = .ok (.goto 11, 3) := by decide +kernel
theorem dX10_work_46 : decode cX10_work 46 = .ok (.aload_n 0, 1) := by decide +kernel
theorem dX10_work_47 : decode cX10_work 47 = .ok (.getfield 45, 3) := by decide +kernel
theorem dX10_work_50 : decode cX10_work 50 = .ok (.lload_n 3, 1) := by decide +kernel
theorem dX10_work_51 : decode cX10_work 51 = .ok (.invokevirtual 64, 3) := by decide +kernel
theorem dX10_work_54 : decode cX10_work 54 = .ok (.istore 8, 2) := by decide +kernel
theorem dX10_work_56 : decode cX10_work 56 = .ok (.iload 8, 2) := by decide +kernel
theorem dX10_work_58 : decode cX10_work 58 = .ok (.iconst (-1), 1) := by decide +kernel
theorem dX10_work_59 : decode cX10_work 59 = .ok (.if_icmp .ne 12, 3) := by decide +kernel
theorem dX10_work_62 : decode cX10_work 62 = .ok (.aload_n 0, 1) := by decide +kernel
theorem dX10_work_63 : decode cX10_work 63 = .ok (.getfield 41, 3) := by decide +kernel
theorem dX10_work_66 : decode cX10_work 66 = .ok (.iconst 1, 1) := by decide +kernel
theorem dX10_work_67 : decode cX10_work 67 = .ok (.putfield 68, 3) := by decide +kernel
theorem dX10_work_70 : decode cX10_work 70 = .ok (.return_, 1) := by decide +kernel
theorem dX10_work_71 : decode cX10_work 71 = .ok (.aload_n 0, 1) := by decide +kernel
theorem dX10_work_72 : decode cX10_work 72 = .ok (.getfield 41, 3) := by decide +kernel
theorem dX10_work_75 : decode cX10_work 75 = .ok (.iload 8, 2) := by decide +kernel
theorem dX10_work_77 : decode cX10_work 77 = .ok (.putfield 71, 3) := by decide +kernel
theorem dX10_work_80 : decode cX10_work 80 = .ok (.aload_n 0, 1) := by decide +kernel
theorem dX10_work_81 : decode cX10_work 81 = .ok (.iconst 0, 1) := by decide +kernel
theorem dX10_work_82 : decode cX10_work 82 = .ok (.putfield 74, 3) := by decide +kernel
theorem dX10_work_85 : decode cX10_work 85 = .ok (.aload_n 0, 1) := by decide +kernel
theorem dX10_work_86 : decode cX10_work 86 = .ok (.iconst 0, 1) := by decide +kernel
theorem dX10_work_87 : decode cX10_work 87 = .ok (.putfield 77, 3) := by decide +kernel
theorem dX10_work_90 : decode cX10_work 90 = .ok (.aload_n 0, 1) := by decide +kernel
theorem dX10_work_91 : decode cX10_work 91 = .ok (.aload_n 0, 1) := by decide +kernel
theorem dX10_work_92 : decode cX10_work 92 = .ok (.getfield 45, 3) := by decide +kernel
theorem dX10_work_95 : decode cX10_work 95 = .ok (.getfield 80, 3) := by decide +kernel
theorem dX10_work_98 : decode cX10_work 98 = .ok (.iload 8, 2) := by decide +kernel
theorem dX10_work_100 : decode cX10_work 100 = .ok (.iaload, 1) := by decide +kernel
theorem dX10_work_101 : decode cX10_work 101 = .ok (.iload 8, 2) := by decide +kernel
theorem dX10_work_103 : decode cX10_work 103 = .ok (.invokevirtual 83, 3) := by decide +kernel
theorem dX10_work_106 : decode cX10_work 106 = .ok (.iconst 0, 1) := by decide +kernel
theorem dX10_work_107 : decode cX10_work 107 = .ok (.istore 9, 2) := by decide +kernel
theorem dX10_work_109 : decode cX10_work 109 = .ok (.iload 9, 2) := by decide +kernel
theorem dX10_work_111 : decode cX10_work 111 = .ok (.ldc 87, 2) := by decide +kernel
theorem dX10_work_113 : decode cX10_work 113 = .ok (.if_icmp .ge 37, 3) := by decide +kernel
theorem dX10_work_116 : decode cX10_work 116 = .ok (.aload_n 0, 1) := by decide +kernel
theorem dX10_work_117 : decode cX10_work 117 = .ok (.getfield 74, 3) := by decide +kernel
theorem dX10_work_120 : decode cX10_work 120 = .ok (.ifCond .le 30, 3) := by decide +kernel
theorem dX10_work_123 : decode cX10_work 123 = .ok (.aload_n 0, 1) := by decide +kernel
theorem dX10_work_124 : decode cX10_work 124 = .ok (.getfield 41, 3) := by decide +kernel
theorem dX10_work_127 : decode cX10_work 127 = .ok (.getfield 68, 3) := by decide +kernel
theorem dX10_work_130 : decode cX10_work 130 = .ok (.ifCond .ne 10, 3) := by decide +kernel
theorem dX10_work_133 : decode cX10_work 133 = .ok (.aload_n 0, 1) := by decide +kernel
theorem dX10_work_134 : decode cX10_work 134 = .ok (.invokevirtual 88, 3) := by decide +kernel
theorem dX10_work_137 : decode cX10_work 137 = .ok (.goto 7, 3) := by decide +kernel
theorem dX10_work_140 : decode cX10_work 140 = .ok (.aload_n 0, 1) := by decide +kernel
theorem dX10_work_141 : decode cX10_work 141 = .ok (.invokevirtual 91, 3) := by decide +kernel
theorem dX10_work_144 : decode cX10_work 144 = .ok (.iinc 9 1, 3) := by decide +kernel
theorem dX10_work_147 : decode cX10_work 147 = .ok (.goto (-38), 3) := by decide +kernel
theorem dX10_work_150 : decode cX10_work 150 = .ok (.aload_n 0, 1) := by decide +kernel
theorem dX10_work_151 : decode cX10_work 151 = .ok (.getfield 41, 3) := by decide +kernel
theorem dX10_work_154 : decode cX10_work 154 = .ok (.iload 8, 2) := by decide +kernel
theorem dX10_work_156 : decode cX10_work 156 = .ok (.aload_n 0, 1) := by decide +kernel
theorem dX10_work_157 : decode cX10_work 157 = .ok (.getfield 36, 3) := by decide +kernel
theorem dX10_work_160 : decode cX10_work 160 = .ok (.iconst 0, 1) := by decide +kernel
theorem dX10_work_161 : decode cX10_work 161 = .ok (.aaload, 1) := by decide +kernel
theorem dX10_work_162 : decode cX10_work 162 = .ok (.invokevirtual 94, 3) := by decide +kernel
theorem dX10_work_165 : decode cX10_work 165 = .ok (.return_, 1) := by decide +kernel
theorem dX10_turn_0 : decode cX10_turn 0 = .ok (.aload_n 0, 1) := by decide +kernel
theorem dX10_turn_1 : decode cX10_turn 1 = .ok (.getfield 17, 3) := by decide +kernel
theorem dX10_turn_4 : decode cX10_turn 4 = .ok (.aload_n 0, 1) := by decide +kernel
theorem dX10_turn_5 : decode cX10_turn 5 = .ok (.getfield 74, 3) := by decide +kernel
theorem dX10_turn_8 : decode cX10_turn 8 = .ok (.iconst 1, 1) := by decide +kernel
theorem dX10_turn_9 : decode cX10_turn 9 = .ok (.isub, 1) := by decide +kernel
theorem dX10_turn_10 : decode cX10_turn 10 = .ok (.iaload, 1) := by decide +kernel
theorem dX10_turn_11 : decode cX10_turn 11 = .ok (.istore_n 1, 1) := by decide +kernel
theorem dX10_turn_12 : decode cX10_turn 12 = .ok (.aload_n 0, 1) := by decide +kernel
theorem dX10_turn_13 : decode cX10_turn 13 = .ok (.getfield 45, 3) := by decide +kernel
theorem dX10_turn_16 : decode cX10_turn 16 = .ok (.getfield 98, 3) := by decide +kernel
theorem dX10_turn_19 : decode cX10_turn 19 = .ok (.iload_n 1, 1) := by decide +kernel
theorem dX10_turn_20 : decode cX10_turn 20 = .ok (.iaload, 1) := by decide +kernel
theorem dX10_turn_21 : decode cX10_turn 21 = .ok (.istore_n 2, 1) := by decide +kernel
theorem dX10_turn_22 : decode cX10_turn 22 = .ok (.aload_n 0, 1) := by decide +kernel
theorem dX10_turn_23 : decode cX10_turn 23 = .ok (.getfield 21, 3) := by decide +kernel
theorem dX10_turn_26 : decode cX10_turn 26 = .ok (.aload_n 0, 1) := by decide +kernel
theorem dX10_turn_27 : decode cX10_turn 27 = .ok (.getfield 74, 3) := by decide +kernel
theorem dX10_turn_30 : decode cX10_turn 30 = .ok (.iconst 1, 1) := by decide +kernel
theorem dX10_turn_31 : decode cX10_turn 31 = .ok (.isub, 1) := by decide +kernel
theorem dX10_turn_32 : decode cX10_turn 32 = .ok (.iaload, 1) := by decide +kernel
theorem dX10_turn_33 : decode cX10_turn 33 = .ok (.istore_n 3, 1) := by decide +kernel
theorem dX10_turn_34 : decode cX10_turn 34 = .ok (.iload_n 3, 1) := by decide +kernel
theorem dX10_turn_35 : decode cX10_turn 35 = .ok (.ifCond .ne 15, 3) := by decide +kernel
theorem dX10_turn_38 : decode cX10_turn 38 = .ok (.aload_n 0, 1) := by decide +kernel
theorem dX10_turn_39 : decode cX10_turn 39 = .ok (.iload_n 2, 1) := by decide +kernel
theorem dX10_turn_40 : decode cX10_turn 40 = .ok (.invokestatic 101, 3) := by decide +kernel
theorem dX10_turn_43 : decode cX10_turn 43 = .ok (.invokevirtual 105, 3) := by decide +kernel
theorem dX10_turn_46 : decode cX10_turn 46 = .ok (.ifCond .ne 4, 3) := by decide +kernel
theorem dX10_turn_49 : decode cX10_turn 49 = .ok (.return_, 1) := by decide +kernel
theorem dX10_turn_50 : decode cX10_turn 50 = .ok (.aload_n 0, 1) := by decide +kernel
theorem dX10_turn_51 : decode cX10_turn 51 = .ok (.getfield 21, 3) := by decide +kernel
theorem dX10_turn_54 : decode cX10_turn 54 = .ok (.aload_n 0, 1) := by decide +kernel
theorem dX10_turn_55 : decode cX10_turn 55 = .ok (.getfield 74, 3) := by decide +kernel
theorem dX10_turn_58 : decode cX10_turn 58 = .ok (.iconst 1, 1) := by decide +kernel
theorem dX10_turn_59 : decode cX10_turn 59 = .ok (.isub, 1) := by decide +kernel
theorem dX10_turn_60 : decode cX10_turn 60 = .ok (.dup2, 1) := by decide +kernel
theorem dX10_turn_61 : decode cX10_turn 61 = .ok (.iaload, 1) := by decide +kernel
theorem dX10_turn_62 : decode cX10_turn 62 = .ok (.iconst 1, 1) := by decide +kernel
theorem dX10_turn_63 : decode cX10_turn 63 = .ok (.iadd, 1) := by decide +kernel
theorem dX10_turn_64 : decode cX10_turn 64 = .ok (.iastore, 1) := by decide +kernel
theorem dX10_turn_65 : decode cX10_turn 65 = .ok (.iload_n 2, 1) := by decide +kernel
theorem dX10_turn_66 : decode cX10_turn 66 = .ok (.lookupswitch 211 #[(3, 82), (4, 99), (6, 129), (7, 166), (8, 150), (131, 116), (135, 184), (146, 202), (149, 193)], 82) := by decide +kernel
theorem dX10_turn_148 : decode cX10_turn 148 = .ok (.aload_n 0, 1) := by decide +kernel
theorem dX10_turn_149 : decode cX10_turn 149 = .ok (.iconst 0, 1) := by decide +kernel
theorem dX10_turn_150 : decode cX10_turn 150 = .ok (.aload_n 0, 1) := by decide +kernel
theorem dX10_turn_151 : decode cX10_turn 151 = .ok (.getfield 45, 3) := by decide +kernel
theorem dX10_turn_154 : decode cX10_turn 154 = .ok (.getfield 109, 3) := by decide +kernel
theorem dX10_turn_157 : decode cX10_turn 157 = .ok (.iload_n 1, 1) := by decide +kernel
theorem dX10_turn_158 : decode cX10_turn 158 = .ok (.laload, 1) := by decide +kernel
theorem dX10_turn_159 : decode cX10_turn 159 = .ok (.invokevirtual 112, 3) := by decide +kernel
theorem dX10_turn_162 : decode cX10_turn 162 = .ok (.goto 148, 3) := by decide +kernel
theorem dX10_turn_165 : decode cX10_turn 165 = .ok (.aload_n 0, 1) := by decide +kernel
theorem dX10_turn_166 : decode cX10_turn 166 = .ok (.iconst 1, 1) := by decide +kernel
theorem dX10_turn_167 : decode cX10_turn 167 = .ok (.aload_n 0, 1) := by decide +kernel
theorem dX10_turn_168 : decode cX10_turn 168 = .ok (.getfield 45, 3) := by decide +kernel
theorem dX10_turn_171 : decode cX10_turn 171 = .ok (.getfield 109, 3) := by decide +kernel
theorem dX10_turn_174 : decode cX10_turn 174 = .ok (.iload_n 1, 1) := by decide +kernel
theorem dX10_turn_175 : decode cX10_turn 175 = .ok (.laload, 1) := by decide +kernel
theorem dX10_turn_176 : decode cX10_turn 176 = .ok (.invokevirtual 112, 3) := by decide +kernel
theorem dX10_turn_179 : decode cX10_turn 179 = .ok (.goto 131, 3) := by decide +kernel
theorem dX10_turn_182 : decode cX10_turn 182 = .ok (.aload_n 0, 1) := by decide +kernel
theorem dX10_turn_183 : decode cX10_turn 183 = .ok (.iconst 0, 1) := by decide +kernel
theorem dX10_turn_184 : decode cX10_turn 184 = .ok (.aload_n 0, 1) := by decide +kernel
theorem dX10_turn_185 : decode cX10_turn 185 = .ok (.getfield 53, 3) := by decide +kernel
theorem dX10_turn_188 : decode cX10_turn 188 = .ok (.i2l, 1) := by decide +kernel
theorem dX10_turn_189 : decode cX10_turn 189 = .ok (.invokevirtual 112, 3) := by decide +kernel
theorem dX10_turn_192 : decode cX10_turn 192 = .ok (.goto 118, 3) := by decide +kernel
theorem dX10_turn_195 : decode cX10_turn 195 = .ok (.aload_n 0, 1) := by decide +kernel
theorem dX10_turn_196 : decode cX10_turn 196 = .ok (.iconst 0, 1) := by decide +kernel
theorem dX10_turn_197 : decode cX10_turn 197 = .ok (.aload_n 0, 1) := by decide +kernel
theorem dX10_turn_198 : decode cX10_turn 198 = .ok (.aload_n 0, 1) := by decide +kernel
theorem dX10_turn_199 : decode cX10_turn 199 = .ok (.getfield 45, 3) := by decide +kernel
theorem dX10_turn_202 : decode cX10_turn 202 = .ok (.getfield 109, 3) := by decide +kernel
theorem dX10_turn_205 : decode cX10_turn 205 = .ok (.iload_n 1, 1) := by decide +kernel
theorem dX10_turn_206 : decode cX10_turn 206 = .ok (.laload, 1) := by decide +kernel
theorem dX10_turn_207 : decode cX10_turn 207 = .ok (.invokevirtual 116, 3) := by decide +kernel
theorem dX10_turn_210 : decode cX10_turn 210 = .ok (.invokevirtual 112, 3) := by decide +kernel
theorem dX10_turn_213 : decode cX10_turn 213 = .ok (.goto 97, 3) := by decide +kernel
theorem dX10_turn_216 : decode cX10_turn 216 = .ok (.aload_n 0, 1) := by decide +kernel
theorem dX10_turn_217 : decode cX10_turn 217 = .ok (.aload_n 0, 1) := by decide +kernel
theorem dX10_turn_218 : decode cX10_turn 218 = .ok (.getfield 45, 3) := by decide +kernel
theorem dX10_turn_221 : decode cX10_turn 221 = .ok (.getfield 109, 3) := by decide +kernel
theorem dX10_turn_224 : decode cX10_turn 224 = .ok (.iload_n 1, 1) := by decide +kernel
theorem dX10_turn_225 : decode cX10_turn 225 = .ok (.laload, 1) := by decide +kernel
theorem dX10_turn_226 : decode cX10_turn 226 = .ok (.invokevirtual 120, 3) := by decide +kernel
theorem dX10_turn_229 : decode cX10_turn 229 = .ok (.goto 81, 3) := by decide +kernel
theorem dX10_turn_232 : decode cX10_turn 232 = .ok (.aload_n 0, 1) := by decide +kernel
theorem dX10_turn_233 : decode cX10_turn 233 = .ok (.aload_n 0, 1) := by decide +kernel
theorem dX10_turn_234 : decode cX10_turn 234 = .ok (.getfield 45, 3) := by decide +kernel
theorem dX10_turn_237 : decode cX10_turn 237 = .ok (.getfield 109, 3) := by decide +kernel
theorem dX10_turn_240 : decode cX10_turn 240 = .ok (.iload_n 1, 1) := by decide +kernel
theorem dX10_turn_241 : decode cX10_turn 241 = .ok (.laload, 1) := by decide +kernel
theorem dX10_turn_242 : decode cX10_turn 242 = .ok (.l2i, 1) := by decide +kernel
theorem dX10_turn_243 : decode cX10_turn 243 = .ok (.iload_n 3, 1) := by decide +kernel
theorem dX10_turn_244 : decode cX10_turn 244 = .ok (.invokevirtual 124, 3) := by decide +kernel
theorem dX10_turn_247 : decode cX10_turn 247 = .ok (.goto 63, 3) := by decide +kernel
theorem dX10_turn_250 : decode cX10_turn 250 = .ok (.aload_n 0, 1) := by decide +kernel
theorem dX10_turn_251 : decode cX10_turn 251 = .ok (.iload_n 1, 1) := by decide +kernel
theorem dX10_turn_252 : decode cX10_turn 252 = .ok (.iload_n 3, 1) := by decide +kernel
theorem dX10_turn_253 : decode cX10_turn 253 = .ok (.invokevirtual 127, 3) := by decide +kernel
theorem dX10_turn_256 : decode cX10_turn 256 = .ok (.goto 54, 3) := by decide +kernel
theorem dX10_turn_259 : decode cX10_turn 259 = .ok (.aload_n 0, 1) := by decide +kernel
theorem dX10_turn_260 : decode cX10_turn 260 = .ok (.iload_n 1, 1) := by decide +kernel
theorem dX10_turn_261 : decode cX10_turn 261 = .ok (.iload_n 3, 1) := by decide +kernel
theorem dX10_turn_262 : decode cX10_turn 262 = .ok (.invokevirtual 130, 3) := by decide +kernel
theorem dX10_turn_265 : decode cX10_turn 265 = .ok (.goto 45, 3) := by decide +kernel
theorem dX10_turn_268 : decode cX10_turn 268 = .ok (.aload_n 0, 1) := by decide +kernel
theorem dX10_turn_269 : decode cX10_turn 269 = .ok (.iload_n 1, 1) := by decide +kernel
theorem dX10_turn_270 : decode cX10_turn 270 = .ok (.iload_n 3, 1) := by decide +kernel
theorem dX10_turn_271 : decode cX10_turn 271 = .ok (.invokevirtual 133, 3) := by decide +kernel
theorem dX10_turn_274 : decode cX10_turn 274 = .ok (.goto 36, 3) := by decide +kernel
theorem dX10_turn_277 : decode cX10_turn 277 = .ok (.iload_n 3, 1) := by decide +kernel
theorem dX10_turn_278 : decode cX10_turn 278 = .ok (.iload_n 2, 1) := by decide +kernel
theorem dX10_turn_279 : decode cX10_turn 279 = .ok (.invokestatic 136, 3) := by decide +kernel
theorem dX10_turn_282 : decode cX10_turn 282 = .ok (.if_icmp .ge 12, 3) := by decide +kernel
theorem dX10_turn_285 : decode cX10_turn 285 = .ok (.aload_n 0, 1) := by decide +kernel
theorem dX10_turn_286 : decode cX10_turn 286 = .ok (.iload_n 1, 1) := by decide +kernel
theorem dX10_turn_287 : decode cX10_turn 287 = .ok (.iload_n 3, 1) := by decide +kernel
theorem dX10_turn_288 : decode cX10_turn 288 = .ok (.invokevirtual 139, 3) := by decide +kernel
theorem dX10_turn_291 : decode cX10_turn 291 = .ok (.goto 19, 3) := by decide +kernel
theorem dX10_turn_294 : decode cX10_turn 294 = .ok (.aload_n 0, 1) := by decide +kernel
theorem dX10_turn_295 : decode cX10_turn 295 = .ok (.iload_n 2, 1) := by decide +kernel
theorem dX10_turn_296 : decode cX10_turn 296 = .ok (.aload_n 0, 1) := by decide +kernel
theorem dX10_turn_297 : decode cX10_turn 297 = .ok (.getfield 24, 3) := by decide +kernel
theorem dX10_turn_300 : decode cX10_turn 300 = .ok (.aload_n 0, 1) := by decide +kernel
theorem dX10_turn_301 : decode cX10_turn 301 = .ok (.getfield 74, 3) := by decide +kernel
theorem dX10_turn_304 : decode cX10_turn 304 = .ok (.iconst 1, 1) := by decide +kernel
theorem dX10_turn_305 : decode cX10_turn 305 = .ok (.isub, 1) := by decide +kernel
theorem dX10_turn_306 : decode cX10_turn 306 = .ok (.iaload, 1) := by decide +kernel
theorem dX10_turn_307 : decode cX10_turn 307 = .ok (.invokevirtual 142, 3) := by decide +kernel
theorem dX10_turn_310 : decode cX10_turn 310 = .ok (.return_, 1) := by decide +kernel
theorem dX10_workOf_0 : decode cX10_workOf 0 = .ok (.iload_n 0, 1) := by decide +kernel
theorem dX10_workOf_1 : decode cX10_workOf 1 = .ok (.lookupswitch 58 #[(136, 55), (137, 55), (149, 51), (151, 55), (152, 55)], 51) := by decide +kernel
theorem dX10_workOf_52 : decode cX10_workOf 52 = .ok (.sipush 150, 3) := by decide +kernel
theorem dX10_workOf_55 : decode cX10_workOf 55 = .ok (.ireturn, 1) := by decide +kernel
theorem dX10_workOf_56 : decode cX10_workOf 56 = .ok (.bipush 25, 2) := by decide +kernel
theorem dX10_workOf_58 : decode cX10_workOf 58 = .ok (.ireturn, 1) := by decide +kernel
theorem dX10_workOf_59 : decode cX10_workOf 59 = .ok (.iconst 1, 1) := by decide +kernel
theorem dX10_workOf_60 : decode cX10_workOf 60 = .ok (.ireturn, 1) := by decide +kernel
theorem dX10_spend_0 : decode cX10_spend 0 = .ok (.aload_n 0, 1) := by decide +kernel
theorem dX10_spend_1 : decode cX10_spend 1 = .ok (.getfield 41, 3) := by decide +kernel
theorem dX10_spend_4 : decode cX10_spend 4 = .ok (.getfield 145, 3) := by decide +kernel
theorem dX10_spend_7 : decode cX10_spend 7 = .ok (.iload_n 1, 1) := by decide +kernel
theorem dX10_spend_8 : decode cX10_spend 8 = .ok (.iadd, 1) := by decide +kernel
theorem dX10_spend_9 : decode cX10_spend 9 = .ok (.sipush 400, 3) := by decide +kernel
theorem dX10_spend_12 : decode cX10_spend 12 = .ok (.if_icmp .le 11, 3) := by decide +kernel
theorem dX10_spend_15 : decode cX10_spend 15 = .ok (.aload_n 0, 1) := by decide +kernel
theorem dX10_spend_16 : decode cX10_spend 16 = .ok (.bipush 7, 2) := by decide +kernel
theorem dX10_spend_18 : decode cX10_spend 18 = .ok (.invokevirtual 148, 3) := by decide +kernel
theorem dX10_spend_21 : decode cX10_spend 21 = .ok (.iconst 0, 1) := by decide +kernel
theorem dX10_spend_22 : decode cX10_spend 22 = .ok (.ireturn, 1) := by decide +kernel
theorem dX10_spend_23 : decode cX10_spend 23 = .ok (.aload_n 0, 1) := by decide +kernel
theorem dX10_spend_24 : decode cX10_spend 24 = .ok (.getfield 41, 3) := by decide +kernel
theorem dX10_spend_27 : decode cX10_spend 27 = .ok (.dup, 1) := by decide +kernel
theorem dX10_spend_28 : decode cX10_spend 28 = .ok (.getfield 145, 3) := by decide +kernel
theorem dX10_spend_31 : decode cX10_spend 31 = .ok (.iload_n 1, 1) := by decide +kernel
theorem dX10_spend_32 : decode cX10_spend 32 = .ok (.iadd, 1) := by decide +kernel
theorem dX10_spend_33 : decode cX10_spend 33 = .ok (.putfield 145, 3) := by decide +kernel
theorem dX10_spend_36 : decode cX10_spend 36 = .ok (.iconst 1, 1) := by decide +kernel
theorem dX10_spend_37 : decode cX10_spend 37 = .ok (.ireturn, 1) := by decide +kernel
theorem dX10_fail_0 : decode cX10_fail 0 = .ok (.aload_n 0, 1) := by decide +kernel
theorem dX10_fail_1 : decode cX10_fail 1 = .ok (.getfield 41, 3) := by decide +kernel
theorem dX10_fail_4 : decode cX10_fail 4 = .ok (.iload_n 1, 1) := by decide +kernel
theorem dX10_fail_5 : decode cX10_fail 5 = .ok (.putfield 68, 3) := by decide +kernel
theorem dX10_fail_8 : decode cX10_fail 8 = .ok (.aload_n 0, 1) := by decide +kernel
theorem dX10_fail_9 : decode cX10_fail 9 = .ok (.getfield 41, 3) := by decide +kernel
theorem dX10_fail_12 : decode cX10_fail 12 = .ok (.aload_n 0, 1) := by decide +kernel
theorem dX10_fail_13 : decode cX10_fail 13 = .ok (.getfield 27, 3) := by decide +kernel
theorem dX10_fail_16 : decode cX10_fail 16 = .ok (.aload_n 0, 1) := by decide +kernel
theorem dX10_fail_17 : decode cX10_fail 17 = .ok (.getfield 74, 3) := by decide +kernel
theorem dX10_fail_20 : decode cX10_fail 20 = .ok (.iconst 1, 1) := by decide +kernel
theorem dX10_fail_21 : decode cX10_fail 21 = .ok (.isub, 1) := by decide +kernel
theorem dX10_fail_22 : decode cX10_fail 22 = .ok (.iaload, 1) := by decide +kernel
theorem dX10_fail_23 : decode cX10_fail 23 = .ok (.putfield 152, 3) := by decide +kernel
theorem dX10_fail_26 : decode cX10_fail 26 = .ok (.return_, 1) := by decide +kernel
theorem dX10_enter_0 : decode cX10_enter 0 = .ok (.iload_n 1, 1) := by decide +kernel
theorem dX10_enter_1 : decode cX10_enter 1 = .ok (.ifCond .lt 24, 3) := by decide +kernel
theorem dX10_enter_4 : decode cX10_enter 4 = .ok (.iload_n 1, 1) := by decide +kernel
theorem dX10_enter_5 : decode cX10_enter 5 = .ok (.aload_n 0, 1) := by decide +kernel
theorem dX10_enter_6 : decode cX10_enter 6 = .ok (.getfield 45, 3) := by decide +kernel
theorem dX10_enter_9 : decode cX10_enter 9 = .ok (.getfield 155, 3) := by decide +kernel
theorem dX10_enter_12 : decode cX10_enter 12 = .ok (.if_icmp .ge 13, 3) := by decide +kernel
theorem dX10_enter_15 : decode cX10_enter 15 = .ok (.aload_n 0, 1) := by decide +kernel
theorem dX10_enter_16 : decode cX10_enter 16 = .ok (.getfield 74, 3) := by decide +kernel
theorem dX10_enter_19 : decode cX10_enter 19 = .ok (.sipush 300, 3) := by decide +kernel
theorem dX10_enter_22 : decode cX10_enter 22 = .ok (.if_icmp .lt 21, 3) := by decide +kernel
theorem dX10_enter_25 : decode cX10_enter 25 = .ok (.aload_n 0, 1) := by decide +kernel
theorem dX10_enter_26 : decode cX10_enter 26 = .ok (.getfield 41, 3) := by decide +kernel
theorem dX10_enter_29 : decode cX10_enter 29 = .ok (.bipush 7, 2) := by decide +kernel
theorem dX10_enter_31 : decode cX10_enter 31 = .ok (.putfield 68, 3) := by decide +kernel
theorem dX10_enter_34 : decode cX10_enter 34 = .ok (.aload_n 0, 1) := by decide +kernel
theorem dX10_enter_35 : decode cX10_enter 35 = .ok (.getfield 41, 3) := by decide +kernel
theorem dX10_enter_38 : decode cX10_enter 38 = .ok (.iload_n 2, 1) := by decide +kernel
theorem dX10_enter_39 : decode cX10_enter 39 = .ok (.putfield 152, 3) := by decide +kernel
theorem dX10_enter_42 : decode cX10_enter 42 = .ok (.return_, 1) := by decide +kernel
theorem dX10_enter_43 : decode cX10_enter 43 = .ok (.aload_n 0, 1) := by decide +kernel
theorem dX10_enter_44 : decode cX10_enter 44 = .ok (.getfield 17, 3) := by decide +kernel
theorem dX10_enter_47 : decode cX10_enter 47 = .ok (.aload_n 0, 1) := by decide +kernel
theorem dX10_enter_48 : decode cX10_enter 48 = .ok (.getfield 74, 3) := by decide +kernel
theorem dX10_enter_51 : decode cX10_enter 51 = .ok (.iload_n 1, 1) := by decide +kernel
theorem dX10_enter_52 : decode cX10_enter 52 = .ok (.iastore, 1) := by decide +kernel
theorem dX10_enter_53 : decode cX10_enter 53 = .ok (.aload_n 0, 1) := by decide +kernel
theorem dX10_enter_54 : decode cX10_enter 54 = .ok (.getfield 21, 3) := by decide +kernel
theorem dX10_enter_57 : decode cX10_enter 57 = .ok (.aload_n 0, 1) := by decide +kernel
theorem dX10_enter_58 : decode cX10_enter 58 = .ok (.getfield 74, 3) := by decide +kernel
theorem dX10_enter_61 : decode cX10_enter 61 = .ok (.iconst 0, 1) := by decide +kernel
theorem dX10_enter_62 : decode cX10_enter 62 = .ok (.iastore, 1) := by decide +kernel
theorem dX10_enter_63 : decode cX10_enter 63 = .ok (.aload_n 0, 1) := by decide +kernel
theorem dX10_enter_64 : decode cX10_enter 64 = .ok (.getfield 24, 3) := by decide +kernel
theorem dX10_enter_67 : decode cX10_enter 67 = .ok (.aload_n 0, 1) := by decide +kernel
theorem dX10_enter_68 : decode cX10_enter 68 = .ok (.getfield 74, 3) := by decide +kernel
theorem dX10_enter_71 : decode cX10_enter 71 = .ok (.aload_n 0, 1) := by decide +kernel
theorem dX10_enter_72 : decode cX10_enter 72 = .ok (.getfield 77, 3) := by decide +kernel
theorem dX10_enter_75 : decode cX10_enter 75 = .ok (.iastore, 1) := by decide +kernel
theorem dX10_enter_76 : decode cX10_enter 76 = .ok (.aload_n 0, 1) := by decide +kernel
theorem dX10_enter_77 : decode cX10_enter 77 = .ok (.getfield 27, 3) := by decide +kernel
theorem dX10_enter_80 : decode cX10_enter 80 = .ok (.aload_n 0, 1) := by decide +kernel
theorem dX10_enter_81 : decode cX10_enter 81 = .ok (.getfield 74, 3) := by decide +kernel
theorem dX10_enter_84 : decode cX10_enter 84 = .ok (.iload_n 2, 1) := by decide +kernel
theorem dX10_enter_85 : decode cX10_enter 85 = .ok (.iastore, 1) := by decide +kernel
theorem dX10_enter_86 : decode cX10_enter 86 = .ok (.aload_n 0, 1) := by decide +kernel
theorem dX10_enter_87 : decode cX10_enter 87 = .ok (.dup, 1) := by decide +kernel
theorem dX10_enter_88 : decode cX10_enter 88 = .ok (.getfield 74, 3) := by decide +kernel
theorem dX10_enter_91 : decode cX10_enter 91 = .ok (.iconst 1, 1) := by decide +kernel
theorem dX10_enter_92 : decode cX10_enter 92 = .ok (.iadd, 1) := by decide +kernel
theorem dX10_enter_93 : decode cX10_enter 93 = .ok (.putfield 74, 3) := by decide +kernel
theorem dX10_enter_96 : decode cX10_enter 96 = .ok (.return_, 1) := by decide +kernel
theorem dX10_enterInner_0 : decode cX10_enterInner 0 = .ok (.aload_n 0, 1) := by decide +kernel
theorem dX10_enterInner_1 : decode cX10_enterInner 1 = .ok (.aload_n 0, 1) := by decide +kernel
theorem dX10_enterInner_2 : decode cX10_enterInner 2 = .ok (.getfield 45, 3) := by decide +kernel
theorem dX10_enterInner_5 : decode cX10_enterInner 5 = .ok (.iload_n 1, 1) := by decide +kernel
theorem dX10_enterInner_6 : decode cX10_enterInner 6 = .ok (.iload_n 2, 1) := by decide +kernel
theorem dX10_enterInner_7 : decode cX10_enterInner 7 = .ok (.invokevirtual 158, 3) := by decide +kernel
theorem dX10_enterInner_10 : decode cX10_enterInner 10 = .ok (.aload_n 0, 1) := by decide +kernel
theorem dX10_enterInner_11 : decode cX10_enterInner 11 = .ok (.getfield 27, 3) := by decide +kernel
theorem dX10_enterInner_14 : decode cX10_enterInner 14 = .ok (.aload_n 0, 1) := by decide +kernel
theorem dX10_enterInner_15 : decode cX10_enterInner 15 = .ok (.getfield 74, 3) := by decide +kernel
theorem dX10_enterInner_18 : decode cX10_enterInner 18 = .ok (.iconst 1, 1) := by decide +kernel
theorem dX10_enterInner_19 : decode cX10_enterInner 19 = .ok (.isub, 1) := by decide +kernel
theorem dX10_enterInner_20 : decode cX10_enterInner 20 = .ok (.iaload, 1) := by decide +kernel
theorem dX10_enterInner_21 : decode cX10_enterInner 21 = .ok (.invokevirtual 83, 3) := by decide +kernel
theorem dX10_enterInner_24 : decode cX10_enterInner 24 = .ok (.return_, 1) := by decide +kernel
theorem dX10_leave_0 : decode cX10_leave 0 = .ok (.aload_n 0, 1) := by decide +kernel
theorem dX10_leave_1 : decode cX10_leave 1 = .ok (.dup, 1) := by decide +kernel
theorem dX10_leave_2 : decode cX10_leave 2 = .ok (.getfield 74, 3) := by decide +kernel
theorem dX10_leave_5 : decode cX10_leave 5 = .ok (.iconst 1, 1) := by decide +kernel
theorem dX10_leave_6 : decode cX10_leave 6 = .ok (.isub, 1) := by decide +kernel
theorem dX10_leave_7 : decode cX10_leave 7 = .ok (.putfield 74, 3) := by decide +kernel
theorem dX10_leave_10 : decode cX10_leave 10 = .ok (.return_, 1) := by decide +kernel
theorem dX10_leaveFailed_0 : decode cX10_leaveFailed 0 = .ok (.aload_n 0, 1) := by decide +kernel
theorem dX10_leaveFailed_1 : decode cX10_leaveFailed 1 = .ok (.getfield 74, 3) := by decide +kernel
theorem dX10_leaveFailed_4 : decode cX10_leaveFailed 4 = .ok (.iconst 1, 1) := by decide +kernel
theorem dX10_leaveFailed_5 : decode cX10_leaveFailed 5 = .ok (.isub, 1) := by decide +kernel
theorem dX10_leaveFailed_6 : decode cX10_leaveFailed 6 = .ok (.istore_n 1, 1) := by decide +kernel
theorem dX10_leaveFailed_7 : decode cX10_leaveFailed 7 = .ok (.aload_n 0, 1) := by decide +kernel
theorem dX10_leaveFailed_8 : decode cX10_leaveFailed 8 = .ok (.getfield 17, 3) := by decide +kernel
theorem dX10_leaveFailed_11 : decode cX10_leaveFailed 11 = .ok (.iload_n 1, 1) := by decide +kernel
theorem dX10_leaveFailed_12 : decode cX10_leaveFailed 12 = .ok (.iaload, 1) := by decide +kernel
theorem dX10_leaveFailed_13 : decode cX10_leaveFailed 13 = .ok (.istore_n 2, 1) := by decide +kernel
theorem dX10_leaveFailed_14 : decode cX10_leaveFailed 14 = .ok (.aload_n 0, 1) := by decide +kernel
theorem dX10_leaveFailed_15 : decode cX10_leaveFailed 15 = .ok (.getfield 45, 3) := by decide +kernel
theorem dX10_leaveFailed_18 : decode cX10_leaveFailed 18 = .ok (.getfield 98, 3) := by decide +kernel
theorem dX10_leaveFailed_21 : decode cX10_leaveFailed 21 = .ok (.iload_n 2, 1) := by decide +kernel
theorem dX10_leaveFailed_22 : decode cX10_leaveFailed 22 = .ok (.iaload, 1) := by decide +kernel
theorem dX10_leaveFailed_23 : decode cX10_leaveFailed 23 = .ok (.sipush 149, 3) := by decide +kernel
theorem dX10_leaveFailed_26 : decode cX10_leaveFailed 26 = .ok (.if_icmp .ne 78, 3) := by decide +kernel
theorem dX10_leaveFailed_29 : decode cX10_leaveFailed 29 = .ok (.aload_n 0, 1) := by decide +kernel
theorem dX10_leaveFailed_30 : decode cX10_leaveFailed 30 = .ok (.getfield 21, 3) := by decide +kernel
theorem dX10_leaveFailed_33 : decode cX10_leaveFailed 33 = .ok (.iload_n 1, 1) := by decide +kernel
theorem dX10_leaveFailed_34 : decode cX10_leaveFailed 34 = .ok (.iaload, 1) := by decide +kernel
theorem dX10_leaveFailed_35 : decode cX10_leaveFailed 35 = .ok (.iconst 1, 1) := by decide +kernel
theorem dX10_leaveFailed_36 : decode cX10_leaveFailed 36 = .ok (.if_icmp .ne 68, 3) := by decide +kernel
theorem dX10_leaveFailed_39 : decode cX10_leaveFailed 39 = .ok (.aload_n 0, 1) := by decide +kernel
theorem dX10_leaveFailed_40 : decode cX10_leaveFailed 40 = .ok (.getfield 41, 3) := by decide +kernel
theorem dX10_leaveFailed_43 : decode cX10_leaveFailed 43 = .ok (.getfield 68, 3) := by decide +kernel
theorem dX10_leaveFailed_46 : decode cX10_leaveFailed 46 = .ok (.bipush 7, 2) := by decide +kernel
theorem dX10_leaveFailed_48 : decode cX10_leaveFailed 48 = .ok (.if_icmp .eq 56, 3) := by decide +kernel
theorem dX10_leaveFailed_51 : decode cX10_leaveFailed 51 = .ok (.aload_n 0, 1) := by decide +kernel
theorem dX10_leaveFailed_52 : decode cX10_leaveFailed 52 = .ok (.getfield 41, 3) := by decide +kernel
theorem dX10_leaveFailed_55 : decode cX10_leaveFailed 55 = .ok (.iconst 0, 1) := by decide +kernel
theorem dX10_leaveFailed_56 : decode cX10_leaveFailed 56 = .ok (.putfield 68, 3) := by decide +kernel
theorem dX10_leaveFailed_59 : decode cX10_leaveFailed 59 = .ok (.aload_n 0, 1) := by decide +kernel
theorem dX10_leaveFailed_60 : decode cX10_leaveFailed 60 = .ok (.getfield 41, 3) := by decide +kernel
theorem dX10_leaveFailed_63 : decode cX10_leaveFailed 63 = .ok (.iconst (-1), 1) := by decide +kernel
theorem dX10_leaveFailed_64 : decode cX10_leaveFailed 64 = .ok (.putfield 152, 3) := by decide +kernel
theorem dX10_leaveFailed_67 : decode cX10_leaveFailed 67 = .ok (.aload_n 0, 1) := by decide +kernel
theorem dX10_leaveFailed_68 : decode cX10_leaveFailed 68 = .ok (.getfield 41, 3) := by decide +kernel
theorem dX10_leaveFailed_71 : decode cX10_leaveFailed 71 = .ok (.dup, 1) := by decide +kernel
theorem dX10_leaveFailed_72 : decode cX10_leaveFailed 72 = .ok (.getfield 164, 3) := by decide +kernel
theorem dX10_leaveFailed_75 : decode cX10_leaveFailed 75 = .ok (.iconst 1, 1) := by decide +kernel
theorem dX10_leaveFailed_76 : decode cX10_leaveFailed 76 = .ok (.iadd, 1) := by decide +kernel
theorem dX10_leaveFailed_77 : decode cX10_leaveFailed 77 = .ok (.putfield 164, 3) := by decide +kernel
theorem dX10_leaveFailed_80 : decode cX10_leaveFailed 80 = .ok (.aload_n 0, 1) := by decide +kernel
theorem dX10_leaveFailed_81 : decode cX10_leaveFailed 81 = .ok (.aload_n 0, 1) := by decide +kernel
theorem dX10_leaveFailed_82 : decode cX10_leaveFailed 82 = .ok (.getfield 24, 3) := by decide +kernel
theorem dX10_leaveFailed_85 : decode cX10_leaveFailed 85 = .ok (.iload_n 1, 1) := by decide +kernel
theorem dX10_leaveFailed_86 : decode cX10_leaveFailed 86 = .ok (.iaload, 1) := by decide +kernel
theorem dX10_leaveFailed_87 : decode cX10_leaveFailed 87 = .ok (.putfield 77, 3) := by decide +kernel
theorem dX10_leaveFailed_90 : decode cX10_leaveFailed 90 = .ok (.aload_n 0, 1) := by decide +kernel
theorem dX10_leaveFailed_91 : decode cX10_leaveFailed 91 = .ok (.getfield 21, 3) := by decide +kernel
theorem dX10_leaveFailed_94 : decode cX10_leaveFailed 94 = .ok (.iload_n 1, 1) := by decide +kernel
theorem dX10_leaveFailed_95 : decode cX10_leaveFailed 95 = .ok (.iconst 2, 1) := by decide +kernel
theorem dX10_leaveFailed_96 : decode cX10_leaveFailed 96 = .ok (.iastore, 1) := by decide +kernel
theorem dX10_leaveFailed_97 : decode cX10_leaveFailed 97 = .ok (.aload_n 0, 1) := by decide +kernel
theorem dX10_leaveFailed_98 : decode cX10_leaveFailed 98 = .ok (.iload_n 2, 1) := by decide +kernel
theorem dX10_leaveFailed_99 : decode cX10_leaveFailed 99 = .ok (.iconst 1, 1) := by decide +kernel
theorem dX10_leaveFailed_100 : decode cX10_leaveFailed 100 = .ok (.invokevirtual 139, 3) := by decide +kernel
theorem dX10_leaveFailed_103 : decode cX10_leaveFailed 103 = .ok (.return_, 1) := by decide +kernel
theorem dX10_leaveFailed_104 : decode cX10_leaveFailed 104 = .ok (.aload_n 0, 1) := by decide +kernel
theorem dX10_leaveFailed_105 : decode cX10_leaveFailed 105 = .ok (.getfield 45, 3) := by decide +kernel
theorem dX10_leaveFailed_108 : decode cX10_leaveFailed 108 = .ok (.getfield 98, 3) := by decide +kernel
theorem dX10_leaveFailed_111 : decode cX10_leaveFailed 111 = .ok (.iload_n 2, 1) := by decide +kernel
theorem dX10_leaveFailed_112 : decode cX10_leaveFailed 112 = .ok (.iaload, 1) := by decide +kernel
theorem dX10_leaveFailed_113 : decode cX10_leaveFailed 113 = .ok (.bipush 7, 2) := by decide +kernel
theorem dX10_leaveFailed_115 : decode cX10_leaveFailed 115 = .ok (.if_icmp .ne 35, 3) := by decide +kernel
theorem dX10_leaveFailed_118 : decode cX10_leaveFailed 118 = .ok (.aload_n 0, 1) := by decide +kernel
theorem dX10_leaveFailed_119 : decode cX10_leaveFailed 119 = .ok (.getfield 21, 3) := by decide +kernel
theorem dX10_leaveFailed_122 : decode cX10_leaveFailed 122 = .ok (.iload_n 1, 1) := by decide +kernel
theorem dX10_leaveFailed_123 : decode cX10_leaveFailed 123 = .ok (.iaload, 1) := by decide +kernel
theorem dX10_leaveFailed_124 : decode cX10_leaveFailed 124 = .ok (.ifCond .le 26, 3) := by decide +kernel
theorem dX10_leaveFailed_127 : decode cX10_leaveFailed 127 = .ok (.aload_n 0, 1) := by decide +kernel
theorem dX10_leaveFailed_128 : decode cX10_leaveFailed 128 = .ok (.getfield 41, 3) := by decide +kernel
theorem dX10_leaveFailed_131 : decode cX10_leaveFailed 131 = .ok (.aload_n 0, 1) := by decide +kernel
theorem dX10_leaveFailed_132 : decode cX10_leaveFailed 132 = .ok (.getfield 45, 3) := by decide +kernel
theorem dX10_leaveFailed_135 : decode cX10_leaveFailed 135 = .ok (.getfield 109, 3) := by decide +kernel
theorem dX10_leaveFailed_138 : decode cX10_leaveFailed 138 = .ok (.iload_n 2, 1) := by decide +kernel
theorem dX10_leaveFailed_139 : decode cX10_leaveFailed 139 = .ok (.laload, 1) := by decide +kernel
theorem dX10_leaveFailed_140 : decode cX10_leaveFailed 140 = .ok (.l2i, 1) := by decide +kernel
theorem dX10_leaveFailed_141 : decode cX10_leaveFailed 141 = .ok (.aload_n 0, 1) := by decide +kernel
theorem dX10_leaveFailed_142 : decode cX10_leaveFailed 142 = .ok (.getfield 36, 3) := by decide +kernel
theorem dX10_leaveFailed_145 : decode cX10_leaveFailed 145 = .ok (.iconst 0, 1) := by decide +kernel
theorem dX10_leaveFailed_146 : decode cX10_leaveFailed 146 = .ok (.aaload, 1) := by decide +kernel
theorem dX10_leaveFailed_147 : decode cX10_leaveFailed 147 = .ok (.invokevirtual 94, 3) := by decide +kernel
theorem dX10_leaveFailed_150 : decode cX10_leaveFailed 150 = .ok (.aload_n 0, 1) := by decide +kernel
theorem dX10_leaveFailed_151 : decode cX10_leaveFailed 151 = .ok (.invokevirtual 167, 3) := by decide +kernel
theorem dX10_leaveFailed_154 : decode cX10_leaveFailed 154 = .ok (.return_, 1) := by decide +kernel
theorem dX10_pushed_0 : decode cX10_pushed 0 = .ok (.aload_n 0, 1) := by decide +kernel
theorem dX10_pushed_1 : decode cX10_pushed 1 = .ok (.getfield 36, 3) := by decide +kernel
theorem dX10_pushed_4 : decode cX10_pushed 4 = .ok (.aload_n 0, 1) := by decide +kernel
theorem dX10_pushed_5 : decode cX10_pushed 5 = .ok (.getfield 77, 3) := by decide +kernel
theorem dX10_pushed_8 : decode cX10_pushed 8 = .ok (.sipush 600, 3) := by decide +kernel
theorem dX10_pushed_11 : decode cX10_pushed 11 = .ok (.if_icmp .ge 17, 3) := by decide +kernel
theorem dX10_pushed_14 : decode cX10_pushed 14 = .ok (.aload_n 0, 1) := by decide +kernel
theorem dX10_pushed_15 : decode cX10_pushed 15 = .ok (.dup, 1) := by decide +kernel
theorem dX10_pushed_16 : decode cX10_pushed 16 = .ok (.getfield 77, 3) := by decide +kernel
theorem dX10_pushed_19 : decode cX10_pushed 19 = .ok (.dup_x1, 1) := by decide +kernel
theorem dX10_pushed_20 : decode cX10_pushed 20 = .ok (.iconst 1, 1) := by decide +kernel
theorem dX10_pushed_21 : decode cX10_pushed 21 = .ok (.iadd, 1) := by decide +kernel
theorem dX10_pushed_22 : decode cX10_pushed 22 = .ok (.putfield 77, 3) := by decide +kernel
theorem dX10_pushed_25 : decode cX10_pushed 25 = .ok (.goto 6, 3) := by decide +kernel
theorem dX10_pushed_28 : decode cX10_pushed 28 = .ok (.sipush 599, 3) := by decide +kernel
theorem dX10_pushed_31 : decode cX10_pushed 31 = .ok (.aaload, 1) := by decide +kernel
theorem dX10_pushed_32 : decode cX10_pushed 32 = .ok (.areturn, 1) := by decide +kernel
theorem dX10_pushNumber_0 : decode cX10_pushNumber 0 = .ok (.aload_n 0, 1) := by decide +kernel
theorem dX10_pushNumber_1 : decode cX10_pushNumber 1 = .ok (.invokevirtual 170, 3) := by decide +kernel
theorem dX10_pushNumber_4 : decode cX10_pushNumber 4 = .ok (.iload_n 1, 1) := by decide +kernel
theorem dX10_pushNumber_5 : decode cX10_pushNumber 5 = .ok (.lload_n 2, 1) := by decide +kernel
theorem dX10_pushNumber_6 : decode cX10_pushNumber 6 = .ok (.invokevirtual 174, 3) := by decide +kernel
theorem dX10_pushNumber_9 : decode cX10_pushNumber 9 = .ok (.aload_n 0, 1) := by decide +kernel
theorem dX10_pushNumber_10 : decode cX10_pushNumber 10 = .ok (.invokevirtual 167, 3) := by decide +kernel
theorem dX10_pushNumber_13 : decode cX10_pushNumber 13 = .ok (.return_, 1) := by decide +kernel
theorem dX10_counterOf_0 : decode cX10_counterOf 0 = .ok (.lload_n 1, 1) := by decide +kernel
theorem dX10_counterOf_1 : decode cX10_counterOf 1 = .ok (.lconst 0, 1) := by decide +kernel
theorem dX10_counterOf_2 : decode cX10_counterOf 2 = .ok (.lcmp, 1) := by decide +kernel
theorem dX10_counterOf_3 : decode cX10_counterOf 3 = .ok (.ifCond .lt 24, 3) := by decide +kernel
theorem dX10_counterOf_6 : decode cX10_counterOf 6 = .ok (.lload_n 1, 1) := by decide +kernel
theorem dX10_counterOf_7 : decode cX10_counterOf 7 = .ok (.aload_n 0, 1) := by decide +kernel
theorem dX10_counterOf_8 : decode cX10_counterOf 8 = .ok (.getfield 30, 3) := by decide +kernel
theorem dX10_counterOf_11 : decode cX10_counterOf 11 = .ok (.arraylength, 1) := by decide +kernel
theorem dX10_counterOf_12 : decode cX10_counterOf 12 = .ok (.i2l, 1) := by decide +kernel
theorem dX10_counterOf_13 : decode cX10_counterOf 13 = .ok (.lcmp, 1) := by decide +kernel
theorem dX10_counterOf_14 : decode cX10_counterOf 14 = .ok (.ifCond .ge 13, 3) := by decide +kernel
theorem dX10_counterOf_17 : decode cX10_counterOf 17 = .ok (.aload_n 0, 1) := by decide +kernel
theorem dX10_counterOf_18 : decode cX10_counterOf 18 = .ok (.getfield 30, 3) := by decide +kernel
theorem dX10_counterOf_21 : decode cX10_counterOf 21 = .ok (.lload_n 1, 1) := by decide +kernel
theorem dX10_counterOf_22 : decode cX10_counterOf 22 = .ok (.l2i, 1) := by decide +kernel
theorem dX10_counterOf_23 : decode cX10_counterOf 23 = .ok (.laload, 1) := by decide +kernel
theorem dX10_counterOf_24 : decode cX10_counterOf 24 = .ok (.goto 4, 3) := by decide +kernel
theorem dX10_counterOf_27 : decode cX10_counterOf 27 = .ok (.lconst 0, 1) := by decide +kernel
theorem dX10_counterOf_28 : decode cX10_counterOf 28 = .ok (.lreturn, 1) := by decide +kernel
theorem dX10_askFact_0 : decode cX10_askFact 0 = .ok (.aload_n 0, 1) := by decide +kernel
theorem dX10_askFact_1 : decode cX10_askFact 1 = .ok (.getfield 41, 3) := by decide +kernel
theorem dX10_askFact_4 : decode cX10_askFact 4 = .ok (.dup, 1) := by decide +kernel
theorem dX10_askFact_5 : decode cX10_askFact 5 = .ok (.getfield 177, 3) := by decide +kernel
theorem dX10_askFact_8 : decode cX10_askFact 8 = .ok (.iconst 1, 1) := by decide +kernel
theorem dX10_askFact_9 : decode cX10_askFact 9 = .ok (.iadd, 1) := by decide +kernel
theorem dX10_askFact_10 : decode cX10_askFact 10 = .ok (.putfield 177, 3) := by decide +kernel
theorem dX10_askFact_13 : decode cX10_askFact 13 = .ok (.aload_n 0, 1) := by decide +kernel
theorem dX10_askFact_14 : decode cX10_askFact 14 = .ok (.getfield 11, 3) := by decide +kernel
theorem dX10_askFact_17 : decode cX10_askFact 17 = .ok (.aload_n 0, 1) := by decide +kernel
theorem dX10_askFact_18 : decode cX10_askFact 18 = .ok (.getfield 49, 3) := by decide +kernel
theorem dX10_askFact_21 : decode cX10_askFact 21 = .ok (.lload_n 1, 1) := by decide +kernel
theorem dX10_askFact_22 : decode cX10_askFact 22 = .ok (.aload_n 0, 1) := by decide +kernel
theorem dX10_askFact_23 : decode cX10_askFact 23 = .ok (.getfield 53, 3) := by decide +kernel
theorem dX10_askFact_26 : decode cX10_askFact 26 = .ok (.aload_n 0, 1) := by decide +kernel
theorem dX10_askFact_27 : decode cX10_askFact 27 = .ok (.getfield 56, 3) := by decide +kernel
theorem dX10_askFact_30 : decode cX10_askFact 30 = .ok (.invokevirtual 180, 3) := by decide +kernel
theorem dX10_askFact_33 : decode cX10_askFact 33 = .ok (.istore_n 3, 1) := by decide +kernel
theorem dX10_askFact_34 : decode cX10_askFact 34 = .ok (.iload_n 3, 1) := by decide +kernel
theorem dX10_askFact_35 : decode cX10_askFact 35 = .ok (.ifCond .lt 10, 3) := by decide +kernel
theorem dX10_askFact_38 : decode cX10_askFact 38 = .ok (.iload_n 3, 1) := by decide +kernel
theorem dX10_askFact_39 : decode cX10_askFact 39 = .ok (.sipush 200, 3) := by decide +kernel
theorem dX10_askFact_42 : decode cX10_askFact 42 = .ok (.if_icmp .lt 9, 3) := by decide +kernel
theorem dX10_askFact_45 : decode cX10_askFact 45 = .ok (.aload_n 0, 1) := by decide +kernel
theorem dX10_askFact_46 : decode cX10_askFact 46 = .ok (.iconst 1, 1) := by decide +kernel
theorem dX10_askFact_47 : decode cX10_askFact 47 = .ok (.invokevirtual 148, 3) := by decide +kernel
theorem dX10_askFact_50 : decode cX10_askFact 50 = .ok (.return_, 1) := by decide +kernel
theorem dX10_askFact_51 : decode cX10_askFact 51 = .ok (.aload_n 0, 1) := by decide +kernel
theorem dX10_askFact_52 : decode cX10_askFact 52 = .ok (.invokevirtual 170, 3) := by decide +kernel
theorem dX10_askFact_55 : decode cX10_askFact 55 = .ok (.aload_n 0, 1) := by decide +kernel
theorem dX10_askFact_56 : decode cX10_askFact 56 = .ok (.getfield 11, 3) := by decide +kernel
theorem dX10_askFact_59 : decode cX10_askFact 59 = .ok (.getfield 186, 3) := by decide +kernel
theorem dX10_askFact_62 : decode cX10_askFact 62 = .ok (.iload_n 3, 1) := by decide +kernel
theorem dX10_askFact_63 : decode cX10_askFact 63 = .ok (.aaload, 1) := by decide +kernel
theorem dX10_askFact_64 : decode cX10_askFact 64 = .ok (.getfield 190, 3) := by decide +kernel
theorem dX10_askFact_67 : decode cX10_askFact 67 = .ok (.invokevirtual 196, 3) := by decide +kernel
theorem dX10_askFact_70 : decode cX10_askFact 70 = .ok (.aload_n 0, 1) := by decide +kernel
theorem dX10_askFact_71 : decode cX10_askFact 71 = .ok (.invokevirtual 167, 3) := by decide +kernel
theorem dX10_askFact_74 : decode cX10_askFact 74 = .ok (.return_, 1) := by decide +kernel
theorem dX10_wantRule_0 : decode cX10_wantRule 0 = .ok (.iload_n 1, 1) := by decide +kernel
theorem dX10_wantRule_1 : decode cX10_wantRule 1 = .ok (.ifCond .lt 14, 3) := by decide +kernel
theorem dX10_wantRule_4 : decode cX10_wantRule 4 = .ok (.iload_n 1, 1) := by decide +kernel
theorem dX10_wantRule_5 : decode cX10_wantRule 5 = .ok (.aload_n 0, 1) := by decide +kernel
theorem dX10_wantRule_6 : decode cX10_wantRule 6 = .ok (.getfield 45, 3) := by decide +kernel
theorem dX10_wantRule_9 : decode cX10_wantRule 9 = .ok (.getfield 200, 3) := by decide +kernel
theorem dX10_wantRule_12 : decode cX10_wantRule 12 = .ok (.if_icmp .lt 11, 3) := by decide +kernel
theorem dX10_wantRule_15 : decode cX10_wantRule 15 = .ok (.aload_n 0, 1) := by decide +kernel
theorem dX10_wantRule_16 : decode cX10_wantRule 16 = .ok (.iconst 1, 1) := by decide +kernel
theorem dX10_wantRule_17 : decode cX10_wantRule 17 = .ok (.invokevirtual 148, 3) := by decide +kernel
theorem dX10_wantRule_20 : decode cX10_wantRule 20 = .ok (.goto 132, 3) := by decide +kernel
theorem dX10_wantRule_23 : decode cX10_wantRule 23 = .ok (.iload_n 2, 1) := by decide +kernel
theorem dX10_wantRule_24 : decode cX10_wantRule 24 = .ok (.ifCond .le 33, 3) := by decide +kernel
theorem dX10_wantRule_27 : decode cX10_wantRule 27 = .ok (.aload_n 0, 1) := by decide +kernel
theorem dX10_wantRule_28 : decode cX10_wantRule 28 = .ok (.getfield 41, 3) := by decide +kernel
theorem dX10_wantRule_31 : decode cX10_wantRule 31 = .ok (.iload_n 1, 1) := by decide +kernel
theorem dX10_wantRule_32 : decode cX10_wantRule 32 = .ok (.aload_n 0, 1) := by decide +kernel
theorem dX10_wantRule_33 : decode cX10_wantRule 33 = .ok (.getfield 36, 3) := by decide +kernel
theorem dX10_wantRule_36 : decode cX10_wantRule 36 = .ok (.iconst 0, 1) := by decide +kernel
theorem dX10_wantRule_37 : decode cX10_wantRule 37 = .ok (.aload_n 0, 1) := by decide +kernel
theorem dX10_wantRule_38 : decode cX10_wantRule 38 = .ok (.getfield 77, 3) := by decide +kernel
theorem dX10_wantRule_41 : decode cX10_wantRule 41 = .ok (.iconst 1, 1) := by decide +kernel
theorem dX10_wantRule_42 : decode cX10_wantRule 42 = .ok (.isub, 1) := by decide +kernel
theorem dX10_wantRule_43 : decode cX10_wantRule 43 = .ok (.invokestatic 203, 3) := by decide +kernel
theorem dX10_wantRule_46 : decode cX10_wantRule 46 = .ok (.aaload, 1) := by decide +kernel
theorem dX10_wantRule_47 : decode cX10_wantRule 47 = .ok (.invokevirtual 94, 3) := by decide +kernel
theorem dX10_wantRule_50 : decode cX10_wantRule 50 = .ok (.aload_n 0, 1) := by decide +kernel
theorem dX10_wantRule_51 : decode cX10_wantRule 51 = .ok (.invokevirtual 167, 3) := by decide +kernel
theorem dX10_wantRule_54 : decode cX10_wantRule 54 = .ok (.goto 98, 3) := by decide +kernel
theorem dX10_wantRule_57 : decode cX10_wantRule 57 = .ok (.aload_n 0, 1) := by decide +kernel
theorem dX10_wantRule_58 : decode cX10_wantRule 58 = .ok (.getfield 41, 3) := by decide +kernel
theorem dX10_wantRule_61 : decode cX10_wantRule 61 = .ok (.iload_n 1, 1) := by decide +kernel
theorem dX10_wantRule_62 : decode cX10_wantRule 62 = .ok (.invokevirtual 208, 3) := by decide +kernel
theorem dX10_wantRule_65 : decode cX10_wantRule 65 = .ok (.ifCond .ne 20, 3) := by decide +kernel
theorem dX10_wantRule_68 : decode cX10_wantRule 68 = .ok (.aload_n 0, 1) := by decide +kernel
theorem dX10_wantRule_69 : decode cX10_wantRule 69 = .ok (.aload_n 0, 1) := by decide +kernel
theorem dX10_wantRule_70 : decode cX10_wantRule 70 = .ok (.getfield 45, 3) := by decide +kernel
theorem dX10_wantRule_73 : decode cX10_wantRule 73 = .ok (.getfield 80, 3) := by decide +kernel
theorem dX10_wantRule_76 : decode cX10_wantRule 76 = .ok (.iload_n 1, 1) := by decide +kernel
theorem dX10_wantRule_77 : decode cX10_wantRule 77 = .ok (.iaload, 1) := by decide +kernel
theorem dX10_wantRule_78 : decode cX10_wantRule 78 = .ok (.iload_n 1, 1) := by decide +kernel
theorem dX10_wantRule_79 : decode cX10_wantRule 79 = .ok (.invokevirtual 83, 3) := by decide +kernel
theorem dX10_wantRule_82 : decode cX10_wantRule 82 = .ok (.goto 70, 3) := by decide +kernel
theorem dX10_wantRule_85 : decode cX10_wantRule 85 = .ok (.aload_n 0, 1) := by decide +kernel
theorem dX10_wantRule_86 : decode cX10_wantRule 86 = .ok (.getfield 41, 3) := by decide +kernel
theorem dX10_wantRule_89 : decode cX10_wantRule 89 = .ok (.getfield 211, 3) := by decide +kernel
theorem dX10_wantRule_92 : decode cX10_wantRule 92 = .ok (.iload_n 1, 1) := by decide +kernel
theorem dX10_wantRule_93 : decode cX10_wantRule 93 = .ok (.iaload, 1) := by decide +kernel
theorem dX10_wantRule_94 : decode cX10_wantRule 94 = .ok (.ifCond .eq 38, 3) := by decide +kernel
theorem dX10_wantRule_97 : decode cX10_wantRule 97 = .ok (.aload_n 0, 1) := by decide +kernel
theorem dX10_wantRule_98 : decode cX10_wantRule 98 = .ok (.getfield 41, 3) := by decide +kernel
theorem dX10_wantRule_101 : decode cX10_wantRule 101 = .ok (.aload_n 0, 1) := by decide +kernel
theorem dX10_wantRule_102 : decode cX10_wantRule 102 = .ok (.getfield 41, 3) := by decide +kernel
theorem dX10_wantRule_105 : decode cX10_wantRule 105 = .ok (.getfield 211, 3) := by decide +kernel
theorem dX10_wantRule_108 : decode cX10_wantRule 108 = .ok (.iload_n 1, 1) := by decide +kernel
theorem dX10_wantRule_109 : decode cX10_wantRule 109 = .ok (.iaload, 1) := by decide +kernel
theorem dX10_wantRule_110 : decode cX10_wantRule 110 = .ok (.putfield 68, 3) := by decide +kernel
theorem dX10_wantRule_113 : decode cX10_wantRule 113 = .ok (.aload_n 0, 1) := by decide +kernel
theorem dX10_wantRule_114 : decode cX10_wantRule 114 = .ok (.getfield 41, 3) := by decide +kernel
theorem dX10_wantRule_117 : decode cX10_wantRule 117 = .ok (.aload_n 0, 1) := by decide +kernel
theorem dX10_wantRule_118 : decode cX10_wantRule 118 = .ok (.getfield 41, 3) := by decide +kernel
theorem dX10_wantRule_121 : decode cX10_wantRule 121 = .ok (.getfield 214, 3) := by decide +kernel
theorem dX10_wantRule_124 : decode cX10_wantRule 124 = .ok (.iload_n 1, 1) := by decide +kernel
theorem dX10_wantRule_125 : decode cX10_wantRule 125 = .ok (.iaload, 1) := by decide +kernel
theorem dX10_wantRule_126 : decode cX10_wantRule 126 = .ok (.putfield 152, 3) := by decide +kernel
theorem dX10_wantRule_129 : decode cX10_wantRule 129 = .ok (.goto 23, 3) := by decide +kernel
theorem dX10_wantRule_132 : decode cX10_wantRule 132 = .ok (.aload_n 0, 1) := by decide +kernel
theorem dX10_wantRule_133 : decode cX10_wantRule 133 = .ok (.invokevirtual 170, 3) := by decide +kernel
theorem dX10_wantRule_136 : decode cX10_wantRule 136 = .ok (.aload_n 0, 1) := by decide +kernel
theorem dX10_wantRule_137 : decode cX10_wantRule 137 = .ok (.getfield 41, 3) := by decide +kernel
theorem dX10_wantRule_140 : decode cX10_wantRule 140 = .ok (.getfield 217, 3) := by decide +kernel
theorem dX10_wantRule_143 : decode cX10_wantRule 143 = .ok (.iload_n 1, 1) := by decide +kernel
theorem dX10_wantRule_144 : decode cX10_wantRule 144 = .ok (.aaload, 1) := by decide +kernel
theorem dX10_wantRule_145 : decode cX10_wantRule 145 = .ok (.invokevirtual 196, 3) := by decide +kernel
theorem dX10_wantRule_148 : decode cX10_wantRule 148 = .ok (.aload_n 0, 1) := by decide +kernel
theorem dX10_wantRule_149 : decode cX10_wantRule 149 = .ok (.invokevirtual 167, 3) := by decide +kernel
theorem dX10_wantRule_152 : decode cX10_wantRule 152 = .ok (.return_, 1) := by decide +kernel
theorem dX10_decide_0 : decode cX10_decide 0 = .ok (.aload_n 0, 1) := by decide +kernel
theorem dX10_decide_1 : decode cX10_decide 1 = .ok (.getfield 24, 3) := by decide +kernel
theorem dX10_decide_4 : decode cX10_decide 4 = .ok (.aload_n 0, 1) := by decide +kernel
theorem dX10_decide_5 : decode cX10_decide 5 = .ok (.getfield 74, 3) := by decide +kernel
theorem dX10_decide_8 : decode cX10_decide 8 = .ok (.iconst 1, 1) := by decide +kernel
theorem dX10_decide_9 : decode cX10_decide 9 = .ok (.isub, 1) := by decide +kernel
theorem dX10_decide_10 : decode cX10_decide 10 = .ok (.iaload, 1) := by decide +kernel
theorem dX10_decide_11 : decode cX10_decide 11 = .ok (.istore_n 3, 1) := by decide +kernel
theorem dX10_decide_12 : decode cX10_decide 12 = .ok (.iload_n 3, 1) := by decide +kernel
theorem dX10_decide_13 : decode cX10_decide 13 = .ok (.ifCond .lt 10, 3) := by decide +kernel
theorem dX10_decide_16 : decode cX10_decide 16 = .ok (.iload_n 3, 1) := by decide +kernel
theorem dX10_decide_17 : decode cX10_decide 17 = .ok (.sipush 600, 3) := by decide +kernel
theorem dX10_decide_20 : decode cX10_decide 20 = .ok (.if_icmp .lt 12, 3) := by decide +kernel
theorem dX10_decide_23 : decode cX10_decide 23 = .ok (.aload_n 0, 1) := by decide +kernel
theorem dX10_decide_24 : decode cX10_decide 24 = .ok (.bipush 7, 2) := by decide +kernel
theorem dX10_decide_26 : decode cX10_decide 26 = .ok (.invokevirtual 148, 3) := by decide +kernel
theorem dX10_decide_29 : decode cX10_decide 29 = .ok (.goto 79, 3) := by decide +kernel
theorem dX10_decide_32 : decode cX10_decide 32 = .ok (.iload_n 2, 1) := by decide +kernel
theorem dX10_decide_33 : decode cX10_decide 33 = .ok (.ifCond .ne 12, 3) := by decide +kernel
theorem dX10_decide_36 : decode cX10_decide 36 = .ok (.aload_n 0, 1) := by decide +kernel
theorem dX10_decide_37 : decode cX10_decide 37 = .ok (.iload_n 1, 1) := by decide +kernel
theorem dX10_decide_38 : decode cX10_decide 38 = .ok (.iconst 0, 1) := by decide +kernel
theorem dX10_decide_39 : decode cX10_decide 39 = .ok (.invokevirtual 139, 3) := by decide +kernel
theorem dX10_decide_42 : decode cX10_decide 42 = .ok (.goto 66, 3) := by decide +kernel
theorem dX10_decide_45 : decode cX10_decide 45 = .ok (.iload_n 2, 1) := by decide +kernel
theorem dX10_decide_46 : decode cX10_decide 46 = .ok (.iconst 1, 1) := by decide +kernel
theorem dX10_decide_47 : decode cX10_decide 47 = .ok (.if_icmp .le 10, 3) := by decide +kernel
theorem dX10_decide_50 : decode cX10_decide 50 = .ok (.aload_n 0, 1) := by decide +kernel
theorem dX10_decide_51 : decode cX10_decide 51 = .ok (.invokevirtual 167, 3) := by decide +kernel
theorem dX10_decide_54 : decode cX10_decide 54 = .ok (.goto 54, 3) := by decide +kernel
theorem dX10_decide_57 : decode cX10_decide 57 = .ok (.aload_n 0, 1) := by decide +kernel
theorem dX10_decide_58 : decode cX10_decide 58 = .ok (.getfield 36, 3) := by decide +kernel
theorem dX10_decide_61 : decode cX10_decide 61 = .ok (.iload_n 3, 1) := by decide +kernel
theorem dX10_decide_62 : decode cX10_decide 62 = .ok (.aaload, 1) := by decide +kernel
theorem dX10_decide_63 : decode cX10_decide 63 = .ok (.getfield 220, 3) := by decide +kernel
theorem dX10_decide_66 : decode cX10_decide 66 = .ok (.ifCond .eq 11, 3) := by decide +kernel
theorem dX10_decide_69 : decode cX10_decide 69 = .ok (.aload_n 0, 1) := by decide +kernel
theorem dX10_decide_70 : decode cX10_decide 70 = .ok (.iconst 2, 1) := by decide +kernel
theorem dX10_decide_71 : decode cX10_decide 71 = .ok (.invokevirtual 148, 3) := by decide +kernel
theorem dX10_decide_74 : decode cX10_decide 74 = .ok (.goto 34, 3) := by decide +kernel
theorem dX10_decide_77 : decode cX10_decide 77 = .ok (.aload_n 0, 1) := by decide +kernel
theorem dX10_decide_78 : decode cX10_decide 78 = .ok (.iload_n 3, 1) := by decide +kernel
theorem dX10_decide_79 : decode cX10_decide 79 = .ok (.putfield 77, 3) := by decide +kernel
theorem dX10_decide_82 : decode cX10_decide 82 = .ok (.aload_n 0, 1) := by decide +kernel
theorem dX10_decide_83 : decode cX10_decide 83 = .ok (.iload_n 1, 1) := by decide +kernel
theorem dX10_decide_84 : decode cX10_decide 84 = .ok (.aload_n 0, 1) := by decide +kernel
theorem dX10_decide_85 : decode cX10_decide 85 = .ok (.getfield 36, 3) := by decide +kernel
theorem dX10_decide_88 : decode cX10_decide 88 = .ok (.iload_n 3, 1) := by decide +kernel
theorem dX10_decide_89 : decode cX10_decide 89 = .ok (.aaload, 1) := by decide +kernel
theorem dX10_decide_90 : decode cX10_decide 90 = .ok (.getfield 223, 3) := by decide +kernel
theorem dX10_decide_93 : decode cX10_decide 93 = .ok (.iconst 0, 1) := by decide +kernel
theorem dX10_decide_94 : decode cX10_decide 94 = .ok (.laload, 1) := by decide +kernel
theorem dX10_decide_95 : decode cX10_decide 95 = .ok (.lconst 0, 1) := by decide +kernel
theorem dX10_decide_96 : decode cX10_decide 96 = .ok (.lcmp, 1) := by decide +kernel
theorem dX10_decide_97 : decode cX10_decide 97 = .ok (.ifCond .eq 7, 3) := by decide +kernel
theorem dX10_decide_100 : decode cX10_decide 100 = .ok (.iconst 1, 1) := by decide +kernel
theorem dX10_decide_101 : decode cX10_decide 101 = .ok (.goto 4, 3) := by decide +kernel
theorem dX10_decide_104 : decode cX10_decide 104 = .ok (.iconst 2, 1) := by decide +kernel
theorem dX10_decide_105 : decode cX10_decide 105 = .ok (.invokevirtual 139, 3) := by decide +kernel
theorem dX10_decide_108 : decode cX10_decide 108 = .ok (.return_, 1) := by decide +kernel
theorem dX10_attempt_0 : decode cX10_attempt 0 = .ok (.iload_n 2, 1) := by decide +kernel
theorem dX10_attempt_1 : decode cX10_attempt 1 = .ok (.ifCond .ne 12, 3) := by decide +kernel
theorem dX10_attempt_4 : decode cX10_attempt 4 = .ok (.aload_n 0, 1) := by decide +kernel
theorem dX10_attempt_5 : decode cX10_attempt 5 = .ok (.iload_n 1, 1) := by decide +kernel
theorem dX10_attempt_6 : decode cX10_attempt 6 = .ok (.iconst 0, 1) := by decide +kernel
theorem dX10_attempt_7 : decode cX10_attempt 7 = .ok (.invokevirtual 139, 3) := by decide +kernel
theorem dX10_attempt_10 : decode cX10_attempt 10 = .ok (.goto 7, 3) := by decide +kernel
theorem dX10_attempt_13 : decode cX10_attempt 13 = .ok (.aload_n 0, 1) := by decide +kernel
theorem dX10_attempt_14 : decode cX10_attempt 14 = .ok (.invokevirtual 167, 3) := by decide +kernel
theorem dX10_attempt_17 : decode cX10_attempt 17 = .ok (.return_, 1) := by decide +kernel
theorem dX10_addUp_0 : decode cX10_addUp 0 = .ok (.iload_n 2, 1) := by decide +kernel
theorem dX10_addUp_1 : decode cX10_addUp 1 = .ok (.iconst 2, 1) := by decide +kernel
theorem dX10_addUp_2 : decode cX10_addUp 2 = .ok (.if_icmp .ge 10, 3) := by decide +kernel
theorem dX10_addUp_5 : decode cX10_addUp 5 = .ok (.aload_n 0, 1) := by decide +kernel
theorem dX10_addUp_6 : decode cX10_addUp 6 = .ok (.iload_n 1, 1) := by decide +kernel
theorem dX10_addUp_7 : decode cX10_addUp 7 = .ok (.iload_n 2, 1) := by decide +kernel
theorem dX10_addUp_8 : decode cX10_addUp 8 = .ok (.invokevirtual 139, 3) := by decide +kernel
theorem dX10_addUp_11 : decode cX10_addUp 11 = .ok (.return_, 1) := by decide +kernel
theorem dX10_addUp_12 : decode cX10_addUp 12 = .ok (.aload_n 0, 1) := by decide +kernel
theorem dX10_addUp_13 : decode cX10_addUp 13 = .ok (.getfield 24, 3) := by decide +kernel
theorem dX10_addUp_16 : decode cX10_addUp 16 = .ok (.aload_n 0, 1) := by decide +kernel
theorem dX10_addUp_17 : decode cX10_addUp 17 = .ok (.getfield 74, 3) := by decide +kernel
theorem dX10_addUp_20 : decode cX10_addUp 20 = .ok (.iconst 1, 1) := by decide +kernel
theorem dX10_addUp_21 : decode cX10_addUp 21 = .ok (.isub, 1) := by decide +kernel
theorem dX10_addUp_22 : decode cX10_addUp 22 = .ok (.iaload, 1) := by decide +kernel
theorem dX10_addUp_23 : decode cX10_addUp 23 = .ok (.istore_n 3, 1) := by decide +kernel
theorem dX10_addUp_24 : decode cX10_addUp 24 = .ok (.iload_n 3, 1) := by decide +kernel
theorem dX10_addUp_25 : decode cX10_addUp 25 = .ok (.ifCond .lt 12, 3) := by decide +kernel
theorem dX10_addUp_28 : decode cX10_addUp 28 = .ok (.iload_n 3, 1) := by decide +kernel
theorem dX10_addUp_29 : decode cX10_addUp 29 = .ok (.iconst 3, 1) := by decide +kernel
theorem dX10_addUp_30 : decode cX10_addUp 30 = .ok (.iadd, 1) := by decide +kernel
theorem dX10_addUp_31 : decode cX10_addUp 31 = .ok (.sipush 600, 3) := by decide +kernel
theorem dX10_addUp_34 : decode cX10_addUp 34 = .ok (.if_icmp .lt 10, 3) := by decide +kernel
theorem dX10_addUp_37 : decode cX10_addUp 37 = .ok (.aload_n 0, 1) := by decide +kernel
theorem dX10_addUp_38 : decode cX10_addUp 38 = .ok (.bipush 7, 2) := by decide +kernel
theorem dX10_addUp_40 : decode cX10_addUp 40 = .ok (.invokevirtual 148, 3) := by decide +kernel
theorem dX10_addUp_43 : decode cX10_addUp 43 = .ok (.return_, 1) := by decide +kernel
theorem dX10_addUp_44 : decode cX10_addUp 44 = .ok (.aload_n 0, 1) := by decide +kernel
theorem dX10_addUp_45 : decode cX10_addUp 45 = .ok (.getfield 36, 3) := by decide +kernel
theorem dX10_addUp_48 : decode cX10_addUp 48 = .ok (.iload_n 3, 1) := by decide +kernel
theorem dX10_addUp_49 : decode cX10_addUp 49 = .ok (.aaload, 1) := by decide +kernel
theorem dX10_addUp_50 : decode cX10_addUp 50 = .ok (.astore 4, 2) := by decide +kernel
theorem dX10_addUp_52 : decode cX10_addUp 52 = .ok (.aload_n 0, 1) := by decide +kernel
theorem dX10_addUp_53 : decode cX10_addUp 53 = .ok (.getfield 36, 3) := by decide +kernel
theorem dX10_addUp_56 : decode cX10_addUp 56 = .ok (.iload_n 3, 1) := by decide +kernel
theorem dX10_addUp_57 : decode cX10_addUp 57 = .ok (.iconst 1, 1) := by decide +kernel
theorem dX10_addUp_58 : decode cX10_addUp 58 = .ok (.iadd, 1) := by decide +kernel
theorem dX10_addUp_59 : decode cX10_addUp 59 = .ok (.aaload, 1) := by decide +kernel
theorem dX10_addUp_60 : decode cX10_addUp 60 = .ok (.astore 5, 2) := by decide +kernel
theorem dX10_addUp_62 : decode cX10_addUp 62 = .ok (.aload_n 0, 1) := by decide +kernel
theorem dX10_addUp_63 : decode cX10_addUp 63 = .ok (.getfield 36, 3) := by decide +kernel
theorem dX10_addUp_66 : decode cX10_addUp 66 = .ok (.iload_n 3, 1) := by decide +kernel
theorem dX10_addUp_67 : decode cX10_addUp 67 = .ok (.iconst 2, 1) := by decide +kernel
theorem dX10_addUp_68 : decode cX10_addUp 68 = .ok (.iadd, 1) := by decide +kernel
theorem dX10_addUp_69 : decode cX10_addUp 69 = .ok (.aaload, 1) := by decide +kernel
theorem dX10_addUp_70 : decode cX10_addUp 70 = .ok (.astore 6, 2) := by decide +kernel
theorem dX10_addUp_72 : decode cX10_addUp 72 = .ok (.iload_n 2, 1) := by decide +kernel
theorem dX10_addUp_73 : decode cX10_addUp 73 = .ok (.iconst 2, 1) := by decide +kernel
theorem dX10_addUp_74 : decode cX10_addUp 74 = .ok (.if_icmp .ne 73, 3) := by decide +kernel
theorem dX10_addUp_77 : decode cX10_addUp 77 = .ok (.aload 4, 2) := by decide +kernel
theorem dX10_addUp_79 : decode cX10_addUp 79 = .ok (.getfield 220, 3) := by decide +kernel
theorem dX10_addUp_82 : decode cX10_addUp 82 = .ok (.ifCond .ne 11, 3) := by decide +kernel
theorem dX10_addUp_85 : decode cX10_addUp 85 = .ok (.aload 5, 2) := by decide +kernel
theorem dX10_addUp_87 : decode cX10_addUp 87 = .ok (.getfield 220, 3) := by decide +kernel
theorem dX10_addUp_90 : decode cX10_addUp 90 = .ok (.ifCond .eq 9, 3) := by decide +kernel
theorem dX10_addUp_93 : decode cX10_addUp 93 = .ok (.aload_n 0, 1) := by decide +kernel
theorem dX10_addUp_94 : decode cX10_addUp 94 = .ok (.iconst 2, 1) := by decide +kernel
theorem dX10_addUp_95 : decode cX10_addUp 95 = .ok (.invokevirtual 148, 3) := by decide +kernel
theorem dX10_addUp_98 : decode cX10_addUp 98 = .ok (.return_, 1) := by decide +kernel
theorem dX10_addUp_99 : decode cX10_addUp 99 = .ok (.aload 6, 2) := by decide +kernel
theorem dX10_addUp_101 : decode cX10_addUp 101 = .ok (.iconst 0, 1) := by decide +kernel
theorem dX10_addUp_102 : decode cX10_addUp 102 = .ok (.lconst 0, 1) := by decide +kernel
theorem dX10_addUp_103 : decode cX10_addUp 103 = .ok (.invokevirtual 174, 3) := by decide +kernel
theorem dX10_addUp_106 : decode cX10_addUp 106 = .ok (.aload_n 0, 1) := by decide +kernel
theorem dX10_addUp_107 : decode cX10_addUp 107 = .ok (.getfield 30, 3) := by decide +kernel
theorem dX10_addUp_110 : decode cX10_addUp 110 = .ok (.iload_n 1, 1) := by decide +kernel
theorem dX10_addUp_111 : decode cX10_addUp 111 = .ok (.aload 4, 2) := by decide +kernel
theorem dX10_addUp_113 : decode cX10_addUp 113 = .ok (.getfield 223, 3) := by decide +kernel
theorem dX10_addUp_116 : decode cX10_addUp 116 = .ok (.iconst 0, 1) := by decide +kernel
theorem dX10_addUp_117 : decode cX10_addUp 117 = .ok (.laload, 1) := by decide +kernel
theorem dX10_addUp_118 : decode cX10_addUp 118 = .ok (.lastore, 1) := by decide +kernel
theorem dX10_addUp_119 : decode cX10_addUp 119 = .ok (.aload 4, 2) := by decide +kernel
theorem dX10_addUp_121 : decode cX10_addUp 121 = .ok (.getfield 223, 3) := by decide +kernel
theorem dX10_addUp_124 : decode cX10_addUp 124 = .ok (.iconst 0, 1) := by decide +kernel
theorem dX10_addUp_125 : decode cX10_addUp 125 = .ok (.laload, 1) := by decide +kernel
theorem dX10_addUp_126 : decode cX10_addUp 126 = .ok (.aload 5, 2) := by decide +kernel
theorem dX10_addUp_128 : decode cX10_addUp 128 = .ok (.getfield 223, 3) := by decide +kernel
theorem dX10_addUp_131 : decode cX10_addUp 131 = .ok (.iconst 0, 1) := by decide +kernel
theorem dX10_addUp_132 : decode cX10_addUp 132 = .ok (.laload, 1) := by decide +kernel
theorem dX10_addUp_133 : decode cX10_addUp 133 = .ok (.lcmp, 1) := by decide +kernel
theorem dX10_addUp_134 : decode cX10_addUp 134 = .ok (.ifCond .le 7, 3) := by decide +kernel
theorem dX10_addUp_137 : decode cX10_addUp 137 = .ok (.iconst 1, 1) := by decide +kernel
theorem dX10_addUp_138 : decode cX10_addUp 138 = .ok (.goto 4, 3) := by decide +kernel
theorem dX10_addUp_141 : decode cX10_addUp 141 = .ok (.iconst 0, 1) := by decide +kernel
theorem dX10_addUp_142 : decode cX10_addUp 142 = .ok (.istore 7, 2) := by decide +kernel
theorem dX10_addUp_144 : decode cX10_addUp 144 = .ok (.goto 66, 3) := by decide +kernel
theorem dX10_addUp_147 : decode cX10_addUp 147 = .ok (.bipush 43, 2) := by decide +kernel
theorem dX10_addUp_149 : decode cX10_addUp 149 = .ok (.aload 6, 2) := by decide +kernel
theorem dX10_addUp_151 : decode cX10_addUp 151 = .ok (.aload_n 0, 1) := by decide +kernel
theorem dX10_addUp_152 : decode cX10_addUp 152 = .ok (.getfield 36, 3) := by decide +kernel
theorem dX10_addUp_155 : decode cX10_addUp 155 = .ok (.iload_n 3, 1) := by decide +kernel
theorem dX10_addUp_156 : decode cX10_addUp 156 = .ok (.iconst 3, 1) := by decide +kernel
theorem dX10_addUp_157 : decode cX10_addUp 157 = .ok (.iadd, 1) := by decide +kernel
theorem dX10_addUp_158 : decode cX10_addUp 158 = .ok (.aaload, 1) := by decide +kernel
theorem dX10_addUp_159 : decode cX10_addUp 159 = .ok (.invokestatic 226, 3) := by decide +kernel
theorem dX10_addUp_162 : decode cX10_addUp 162 = .ok (.istore 8, 2) := by decide +kernel
theorem dX10_addUp_164 : decode cX10_addUp 164 = .ok (.iload 8, 2) := by decide +kernel
theorem dX10_addUp_166 : decode cX10_addUp 166 = .ok (.ifCond .eq 10, 3) := by decide +kernel
theorem dX10_addUp_169 : decode cX10_addUp 169 = .ok (.aload_n 0, 1) := by decide +kernel
theorem dX10_addUp_170 : decode cX10_addUp 170 = .ok (.iload 8, 2) := by decide +kernel
theorem dX10_addUp_172 : decode cX10_addUp 172 = .ok (.invokevirtual 148, 3) := by decide +kernel
theorem dX10_addUp_175 : decode cX10_addUp 175 = .ok (.return_, 1) := by decide +kernel
theorem dX10_addUp_176 : decode cX10_addUp 176 = .ok (.aload_n 0, 1) := by decide +kernel
theorem dX10_addUp_177 : decode cX10_addUp 177 = .ok (.getfield 30, 3) := by decide +kernel
theorem dX10_addUp_180 : decode cX10_addUp 180 = .ok (.iload_n 1, 1) := by decide +kernel
theorem dX10_addUp_181 : decode cX10_addUp 181 = .ok (.laload, 1) := by decide +kernel
theorem dX10_addUp_182 : decode cX10_addUp 182 = .ok (.aload 5, 2) := by decide +kernel
theorem dX10_addUp_184 : decode cX10_addUp 184 = .ok (.getfield 223, 3) := by decide +kernel
theorem dX10_addUp_187 : decode cX10_addUp 187 = .ok (.iconst 0, 1) := by decide +kernel
theorem dX10_addUp_188 : decode cX10_addUp 188 = .ok (.laload, 1) := by decide +kernel
theorem dX10_addUp_189 : decode cX10_addUp 189 = .ok (.lcmp, 1) := by decide +kernel
theorem dX10_addUp_190 : decode cX10_addUp 190 = .ok (.ifCond .ne 7, 3) := by decide +kernel
theorem dX10_addUp_193 : decode cX10_addUp 193 = .ok (.iconst 1, 1) := by decide +kernel
theorem dX10_addUp_194 : decode cX10_addUp 194 = .ok (.goto 4, 3) := by decide +kernel
theorem dX10_addUp_197 : decode cX10_addUp 197 = .ok (.iconst 0, 1) := by decide +kernel
theorem dX10_addUp_198 : decode cX10_addUp 198 = .ok (.istore 7, 2) := by decide +kernel
theorem dX10_addUp_200 : decode cX10_addUp 200 = .ok (.aload_n 0, 1) := by decide +kernel
theorem dX10_addUp_201 : decode cX10_addUp 201 = .ok (.getfield 30, 3) := by decide +kernel
theorem dX10_addUp_204 : decode cX10_addUp 204 = .ok (.iload_n 1, 1) := by decide +kernel
theorem dX10_addUp_205 : decode cX10_addUp 205 = .ok (.dup2, 1) := by decide +kernel
theorem dX10_addUp_206 : decode cX10_addUp 206 = .ok (.laload, 1) := by decide +kernel
theorem dX10_addUp_207 : decode cX10_addUp 207 = .ok (.lconst 1, 1) := by decide +kernel
theorem dX10_addUp_208 : decode cX10_addUp 208 = .ok (.ladd, 1) := by decide +kernel
theorem dX10_addUp_209 : decode cX10_addUp 209 = .ok (.lastore, 1) := by decide +kernel
theorem dX10_addUp_210 : decode cX10_addUp 210 = .ok (.iload 7, 2) := by decide +kernel
theorem dX10_addUp_212 : decode cX10_addUp 212 = .ok (.ifCond .eq 24, 3) := by decide +kernel
theorem dX10_addUp_215 : decode cX10_addUp 215 = .ok (.aload 4, 2) := by decide +kernel
theorem dX10_addUp_217 : decode cX10_addUp 217 = .ok (.aload 6, 2) := by decide +kernel
theorem dX10_addUp_219 : decode cX10_addUp 219 = .ok (.invokevirtual 196, 3) := by decide +kernel
theorem dX10_addUp_222 : decode cX10_addUp 222 = .ok (.aload_n 0, 1) := by decide +kernel
theorem dX10_addUp_223 : decode cX10_addUp 223 = .ok (.iload_n 3, 1) := by decide +kernel
theorem dX10_addUp_224 : decode cX10_addUp 224 = .ok (.iconst 1, 1) := by decide +kernel
theorem dX10_addUp_225 : decode cX10_addUp 225 = .ok (.iadd, 1) := by decide +kernel
theorem dX10_addUp_226 : decode cX10_addUp 226 = .ok (.putfield 77, 3) := by decide +kernel
theorem dX10_addUp_229 : decode cX10_addUp 229 = .ok (.aload_n 0, 1) := by decide +kernel
theorem dX10_addUp_230 : decode cX10_addUp 230 = .ok (.invokevirtual 167, 3) := by decide +kernel
theorem dX10_addUp_233 : decode cX10_addUp 233 = .ok (.goto 24, 3) := by decide +kernel
theorem dX10_addUp_236 : decode cX10_addUp 236 = .ok (.aload_n 0, 1) := by decide +kernel
theorem dX10_addUp_237 : decode cX10_addUp 237 = .ok (.iconst 1, 1) := by decide +kernel
theorem dX10_addUp_238 : decode cX10_addUp 238 = .ok (.invokevirtual 105, 3) := by decide +kernel
theorem dX10_addUp_241 : decode cX10_addUp 241 = .ok (.ifCond .eq 16, 3) := by decide +kernel
theorem dX10_addUp_244 : decode cX10_addUp 244 = .ok (.aload_n 0, 1) := by decide +kernel
theorem dX10_addUp_245 : decode cX10_addUp 245 = .ok (.iload_n 3, 1) := by decide +kernel
theorem dX10_addUp_246 : decode cX10_addUp 246 = .ok (.iconst 3, 1) := by decide +kernel
theorem dX10_addUp_247 : decode cX10_addUp 247 = .ok (.iadd, 1) := by decide +kernel
theorem dX10_addUp_248 : decode cX10_addUp 248 = .ok (.putfield 77, 3) := by decide +kernel
theorem dX10_addUp_251 : decode cX10_addUp 251 = .ok (.aload_n 0, 1) := by decide +kernel
theorem dX10_addUp_252 : decode cX10_addUp 252 = .ok (.iload_n 1, 1) := by decide +kernel
theorem dX10_addUp_253 : decode cX10_addUp 253 = .ok (.iconst 2, 1) := by decide +kernel
theorem dX10_addUp_254 : decode cX10_addUp 254 = .ok (.invokevirtual 139, 3) := by decide +kernel
theorem dX10_addUp_257 : decode cX10_addUp 257 = .ok (.return_, 1) := by decide +kernel
theorem dX10_arityOf_0 : decode cX10_arityOf 0 = .ok (.iload_n 0, 1) := by decide +kernel
theorem dX10_arityOf_1 : decode cX10_arityOf 1 = .ok (.sipush 128, 3) := by decide +kernel
theorem dX10_arityOf_4 : decode cX10_arityOf 4 = .ok (.if_icmp .lt 8, 3) := by decide +kernel
theorem dX10_arityOf_7 : decode cX10_arityOf 7 = .ok (.iload_n 0, 1) := by decide +kernel
theorem dX10_arityOf_8 : decode cX10_arityOf 8 = .ok (.invokestatic 232, 3) := by decide +kernel
theorem dX10_arityOf_11 : decode cX10_arityOf 11 = .ok (.ireturn, 1) := by decide +kernel
theorem dX10_arityOf_12 : decode cX10_arityOf 12 = .ok (.iload_n 0, 1) := by decide +kernel
theorem dX10_arityOf_13 : decode cX10_arityOf 13 = .ok (.iconst 5, 1) := by decide +kernel
theorem dX10_arityOf_14 : decode cX10_arityOf 14 = .ok (.if_icmp .ne 7, 3) := by decide +kernel
theorem dX10_arityOf_17 : decode cX10_arityOf 17 = .ok (.iconst 1, 1) := by decide +kernel
theorem dX10_arityOf_18 : decode cX10_arityOf 18 = .ok (.goto 4, 3) := by decide +kernel
theorem dX10_arityOf_21 : decode cX10_arityOf 21 = .ok (.iconst 2, 1) := by decide +kernel
theorem dX10_arityOf_22 : decode cX10_arityOf 22 = .ok (.ireturn, 1) := by decide +kernel
theorem dX10_finish_0 : decode cX10_finish 0 = .ok (.iload_n 2, 1) := by decide +kernel
theorem dX10_finish_1 : decode cX10_finish 1 = .ok (.ifCond .lt 12, 3) := by decide +kernel
theorem dX10_finish_4 : decode cX10_finish 4 = .ok (.iload_n 2, 1) := by decide +kernel
theorem dX10_finish_5 : decode cX10_finish 5 = .ok (.iconst 2, 1) := by decide +kernel
theorem dX10_finish_6 : decode cX10_finish 6 = .ok (.iadd, 1) := by decide +kernel
theorem dX10_finish_7 : decode cX10_finish 7 = .ok (.sipush 600, 3) := by decide +kernel
theorem dX10_finish_10 : decode cX10_finish 10 = .ok (.if_icmp .lt 10, 3) := by decide +kernel
theorem dX10_finish_13 : decode cX10_finish 13 = .ok (.aload_n 0, 1) := by decide +kernel
theorem dX10_finish_14 : decode cX10_finish 14 = .ok (.bipush 7, 2) := by decide +kernel
theorem dX10_finish_16 : decode cX10_finish 16 = .ok (.invokevirtual 148, 3) := by decide +kernel
theorem dX10_finish_19 : decode cX10_finish 19 = .ok (.return_, 1) := by decide +kernel
theorem dX10_finish_20 : decode cX10_finish 20 = .ok (.aload_n 0, 1) := by decide +kernel
theorem dX10_finish_21 : decode cX10_finish 21 = .ok (.getfield 36, 3) := by decide +kernel
theorem dX10_finish_24 : decode cX10_finish 24 = .ok (.iload_n 2, 1) := by decide +kernel
theorem dX10_finish_25 : decode cX10_finish 25 = .ok (.aaload, 1) := by decide +kernel
theorem dX10_finish_26 : decode cX10_finish 26 = .ok (.astore_n 3, 1) := by decide +kernel
theorem dX10_finish_27 : decode cX10_finish 27 = .ok (.aload_n 0, 1) := by decide +kernel
theorem dX10_finish_28 : decode cX10_finish 28 = .ok (.getfield 36, 3) := by decide +kernel
theorem dX10_finish_31 : decode cX10_finish 31 = .ok (.iload_n 2, 1) := by decide +kernel
theorem dX10_finish_32 : decode cX10_finish 32 = .ok (.iconst 1, 1) := by decide +kernel
theorem dX10_finish_33 : decode cX10_finish 33 = .ok (.iadd, 1) := by decide +kernel
theorem dX10_finish_34 : decode cX10_finish 34 = .ok (.aaload, 1) := by decide +kernel
theorem dX10_finish_35 : decode cX10_finish 35 = .ok (.astore 4, 2) := by decide +kernel
theorem dX10_finish_37 : decode cX10_finish 37 = .ok (.iload_n 1, 1) := by decide +kernel
theorem dX10_finish_38 : decode cX10_finish 38 = .ok (.lookupswitch 343 #[(5, 189), (9, 331), (10, 331), (60, 331), (61, 331), (91, 178), (128, 248), (129, 198), (130, 229), (133, 229), (136, 259), (137, 274), (138, 211), (139, 308), (140, 308), (141, 229), (143, 229), (144, 229), (150, 220), (151, 285), (152, 239)], 178) := by decide +kernel
theorem dX10_finish_216 : decode cX10_finish 216 = .ok (.aload_n 3, 1) := by decide +kernel
theorem dX10_finish_217 : decode cX10_finish 217 = .ok (.aload 4, 2) := by decide +kernel
theorem dX10_finish_219 : decode cX10_finish 219 = .ok (.invokestatic 235, 3) := by decide +kernel
theorem dX10_finish_222 : decode cX10_finish 222 = .ok (.istore 5, 2) := by decide +kernel
theorem dX10_finish_224 : decode cX10_finish 224 = .ok (.goto 166, 3) := by decide +kernel
theorem dX10_finish_227 : decode cX10_finish 227 = .ok (.aload_n 3, 1) := by decide +kernel
theorem dX10_finish_228 : decode cX10_finish 228 = .ok (.invokestatic 239, 3) := by decide +kernel
theorem dX10_finish_231 : decode cX10_finish 231 = .ok (.istore 5, 2) := by decide +kernel
theorem dX10_finish_233 : decode cX10_finish 233 = .ok (.goto 157, 3) := by decide +kernel
theorem dX10_finish_236 : decode cX10_finish 236 = .ok (.aload_n 0, 1) := by decide +kernel
theorem dX10_finish_237 : decode cX10_finish 237 = .ok (.getfield 11, 3) := by decide +kernel
theorem dX10_finish_240 : decode cX10_finish 240 = .ok (.aload_n 3, 1) := by decide +kernel
theorem dX10_finish_241 : decode cX10_finish 241 = .ok (.invokestatic 243, 3) := by decide +kernel
theorem dX10_finish_244 : decode cX10_finish 244 = .ok (.istore 5, 2) := by decide +kernel
theorem dX10_finish_246 : decode cX10_finish 246 = .ok (.goto 144, 3) := by decide +kernel
theorem dX10_finish_249 : decode cX10_finish 249 = .ok (.aload_n 3, 1) := by decide +kernel
theorem dX10_finish_250 : decode cX10_finish 250 = .ok (.invokestatic 247, 3) := by decide +kernel
theorem dX10_finish_253 : decode cX10_finish 253 = .ok (.istore 5, 2) := by decide +kernel
theorem dX10_finish_255 : decode cX10_finish 255 = .ok (.goto 135, 3) := by decide +kernel
theorem dX10_finish_258 : decode cX10_finish 258 = .ok (.aload_n 3, 1) := by decide +kernel
theorem dX10_finish_259 : decode cX10_finish 259 = .ok (.invokestatic 250, 3) := by decide +kernel
theorem dX10_finish_262 : decode cX10_finish 262 = .ok (.istore 5, 2) := by decide +kernel
theorem dX10_finish_264 : decode cX10_finish 264 = .ok (.goto 126, 3) := by decide +kernel
theorem dX10_finish_267 : decode cX10_finish 267 = .ok (.iload_n 1, 1) := by decide +kernel
theorem dX10_finish_268 : decode cX10_finish 268 = .ok (.aload_n 3, 1) := by decide +kernel
theorem dX10_finish_269 : decode cX10_finish 269 = .ok (.invokestatic 253, 3) := by decide +kernel
theorem dX10_finish_272 : decode cX10_finish 272 = .ok (.istore 5, 2) := by decide +kernel
theorem dX10_finish_274 : decode cX10_finish 274 = .ok (.goto 116, 3) := by decide +kernel
theorem dX10_finish_277 : decode cX10_finish 277 = .ok (.aload_n 3, 1) := by decide +kernel
theorem dX10_finish_278 : decode cX10_finish 278 = .ok (.invokestatic 257, 3) := by decide +kernel
theorem dX10_finish_281 : decode cX10_finish 281 = .ok (.istore 5, 2) := by decide +kernel
theorem dX10_finish_283 : decode cX10_finish 283 = .ok (.goto 107, 3) := by decide +kernel
theorem dX10_finish_286 : decode cX10_finish 286 = .ok (.aload_n 3, 1) := by decide +kernel
theorem dX10_finish_287 : decode cX10_finish 287 = .ok (.aload 4, 2) := by decide +kernel
theorem dX10_finish_289 : decode cX10_finish 289 = .ok (.invokestatic 260, 3) := by decide +kernel
theorem dX10_finish_292 : decode cX10_finish 292 = .ok (.istore 5, 2) := by decide +kernel
theorem dX10_finish_294 : decode cX10_finish 294 = .ok (.goto 96, 3) := by decide +kernel
theorem dX10_finish_297 : decode cX10_finish 297 = .ok (.aload_n 0, 1) := by decide +kernel
theorem dX10_finish_298 : decode cX10_finish 298 = .ok (.getfield 11, 3) := by decide +kernel
theorem dX10_finish_301 : decode cX10_finish 301 = .ok (.aload_n 3, 1) := by decide +kernel
theorem dX10_finish_302 : decode cX10_finish 302 = .ok (.aload 4, 2) := by decide +kernel
theorem dX10_finish_304 : decode cX10_finish 304 = .ok (.invokestatic 263, 3) := by decide +kernel
theorem dX10_finish_307 : decode cX10_finish 307 = .ok (.istore 5, 2) := by decide +kernel
theorem dX10_finish_309 : decode cX10_finish 309 = .ok (.goto 81, 3) := by decide +kernel
theorem dX10_finish_312 : decode cX10_finish 312 = .ok (.aload_n 3, 1) := by decide +kernel
theorem dX10_finish_313 : decode cX10_finish 313 = .ok (.aload 4, 2) := by decide +kernel
theorem dX10_finish_315 : decode cX10_finish 315 = .ok (.invokestatic 267, 3) := by decide +kernel
theorem dX10_finish_318 : decode cX10_finish 318 = .ok (.istore 5, 2) := by decide +kernel
theorem dX10_finish_320 : decode cX10_finish 320 = .ok (.goto 70, 3) := by decide +kernel
theorem dX10_finish_323 : decode cX10_finish 323 = .ok (.aload_n 0, 1) := by decide +kernel
theorem dX10_finish_324 : decode cX10_finish 324 = .ok (.getfield 11, 3) := by decide +kernel
theorem dX10_finish_327 : decode cX10_finish 327 = .ok (.aload_n 3, 1) := by decide +kernel
theorem dX10_finish_328 : decode cX10_finish 328 = .ok (.aload 4, 2) := by decide +kernel
theorem dX10_finish_330 : decode cX10_finish 330 = .ok (.aload_n 0, 1) := by decide +kernel
theorem dX10_finish_331 : decode cX10_finish 331 = .ok (.getfield 36, 3) := by decide +kernel
theorem dX10_finish_334 : decode cX10_finish 334 = .ok (.iload_n 2, 1) := by decide +kernel
theorem dX10_finish_335 : decode cX10_finish 335 = .ok (.iconst 2, 1) := by decide +kernel
theorem dX10_finish_336 : decode cX10_finish 336 = .ok (.iadd, 1) := by decide +kernel
theorem dX10_finish_337 : decode cX10_finish 337 = .ok (.aaload, 1) := by decide +kernel
theorem dX10_finish_338 : decode cX10_finish 338 = .ok (.invokestatic 270, 3) := by decide +kernel
theorem dX10_finish_341 : decode cX10_finish 341 = .ok (.istore 5, 2) := by decide +kernel
theorem dX10_finish_343 : decode cX10_finish 343 = .ok (.goto 47, 3) := by decide +kernel
theorem dX10_finish_346 : decode cX10_finish 346 = .ok (.iload_n 1, 1) := by decide +kernel
theorem dX10_finish_347 : decode cX10_finish 347 = .ok (.sipush 140, 3) := by decide +kernel
theorem dX10_finish_350 : decode cX10_finish 350 = .ok (.if_icmp .ne 7, 3) := by decide +kernel
theorem dX10_finish_353 : decode cX10_finish 353 = .ok (.iconst 1, 1) := by decide +kernel
theorem dX10_finish_354 : decode cX10_finish 354 = .ok (.goto 4, 3) := by decide +kernel
theorem dX10_finish_357 : decode cX10_finish 357 = .ok (.iconst 0, 1) := by decide +kernel
theorem dX10_finish_358 : decode cX10_finish 358 = .ok (.aload_n 3, 1) := by decide +kernel
theorem dX10_finish_359 : decode cX10_finish 359 = .ok (.aload 4, 2) := by decide +kernel
theorem dX10_finish_361 : decode cX10_finish 361 = .ok (.invokestatic 274, 3) := by decide +kernel
theorem dX10_finish_364 : decode cX10_finish 364 = .ok (.istore 5, 2) := by decide +kernel
theorem dX10_finish_366 : decode cX10_finish 366 = .ok (.goto 24, 3) := by decide +kernel
theorem dX10_finish_369 : decode cX10_finish 369 = .ok (.iload_n 1, 1) := by decide +kernel
theorem dX10_finish_370 : decode cX10_finish 370 = .ok (.aload_n 3, 1) := by decide +kernel
theorem dX10_finish_371 : decode cX10_finish 371 = .ok (.aload 4, 2) := by decide +kernel
theorem dX10_finish_373 : decode cX10_finish 373 = .ok (.invokestatic 278, 3) := by decide +kernel
theorem dX10_finish_376 : decode cX10_finish 376 = .ok (.istore 5, 2) := by decide +kernel
theorem dX10_finish_378 : decode cX10_finish 378 = .ok (.goto 12, 3) := by decide +kernel
theorem dX10_finish_381 : decode cX10_finish 381 = .ok (.iload_n 1, 1) := by decide +kernel
theorem dX10_finish_382 : decode cX10_finish 382 = .ok (.aload_n 3, 1) := by decide +kernel
theorem dX10_finish_383 : decode cX10_finish 383 = .ok (.aload 4, 2) := by decide +kernel
theorem dX10_finish_385 : decode cX10_finish 385 = .ok (.invokestatic 226, 3) := by decide +kernel
theorem dX10_finish_388 : decode cX10_finish 388 = .ok (.istore 5, 2) := by decide +kernel
theorem dX10_finish_390 : decode cX10_finish 390 = .ok (.iload 5, 2) := by decide +kernel
theorem dX10_finish_392 : decode cX10_finish 392 = .ok (.ifCond .eq 10, 3) := by decide +kernel
theorem dX10_finish_395 : decode cX10_finish 395 = .ok (.aload_n 0, 1) := by decide +kernel
theorem dX10_finish_396 : decode cX10_finish 396 = .ok (.iload 5, 2) := by decide +kernel
theorem dX10_finish_398 : decode cX10_finish 398 = .ok (.invokevirtual 148, 3) := by decide +kernel
theorem dX10_finish_401 : decode cX10_finish 401 = .ok (.return_, 1) := by decide +kernel
theorem dX10_finish_402 : decode cX10_finish 402 = .ok (.aload_n 0, 1) := by decide +kernel
theorem dX10_finish_403 : decode cX10_finish 403 = .ok (.iload_n 2, 1) := by decide +kernel
theorem dX10_finish_404 : decode cX10_finish 404 = .ok (.iconst 1, 1) := by decide +kernel
theorem dX10_finish_405 : decode cX10_finish 405 = .ok (.iadd, 1) := by decide +kernel
theorem dX10_finish_406 : decode cX10_finish 406 = .ok (.putfield 77, 3) := by decide +kernel
theorem dX10_finish_409 : decode cX10_finish 409 = .ok (.aload_n 0, 1) := by decide +kernel
theorem dX10_finish_410 : decode cX10_finish 410 = .ok (.invokevirtual 167, 3) := by decide +kernel
theorem dX10_finish_413 : decode cX10_finish 413 = .ok (.return_, 1) := by decide +kernel
theorem dX11_init_0 : decode cX11_init 0 = .ok (.aload_n 0, 1) := by decide +kernel
theorem dX11_init_1 : decode cX11_init 1 = .ok (.invokespecial 5, 3) := by decide +kernel
theorem dX11_init_4 : decode cX11_init 4 = .ok (.new 11, 3) := by decide +kernel
theorem dX11_init_7 : decode cX11_init 7 = .ok (.dup, 1) := by decide +kernel
theorem dX11_init_8 : decode cX11_init 8 = .ok (.invokespecial 13, 3) := by decide +kernel
theorem dX11_init_11 : decode cX11_init 11 = .ok (.astore_n 1, 1) := by decide +kernel
theorem dX11_init_12 : decode cX11_init 12 = .ok (.aload_n 0, 1) := by decide +kernel
theorem dX11_init_13 : decode cX11_init 13 = .ok (.aload_n 1, 1) := by decide +kernel
theorem dX11_init_14 : decode cX11_init 14 = .ok (.putfield 14, 3) := by decide +kernel
theorem dX11_init_17 : decode cX11_init 17 = .ok (.aload_n 0, 1) := by decide +kernel
theorem dX11_init_18 : decode cX11_init 18 = .ok (.new 18, 3) := by decide +kernel
theorem dX11_init_21 : decode cX11_init 21 = .ok (.dup, 1) := by decide +kernel
theorem dX11_init_22 : decode cX11_init 22 = .ok (.invokespecial 20, 3) := by decide +kernel
theorem dX11_init_25 : decode cX11_init 25 = .ok (.putfield 21, 3) := by decide +kernel
theorem dX11_init_28 : decode cX11_init 28 = .ok (.aload_n 0, 1) := by decide +kernel
theorem dX11_init_29 : decode cX11_init 29 = .ok (.new 25, 3) := by decide +kernel
theorem dX11_init_32 : decode cX11_init 32 = .ok (.dup, 1) := by decide +kernel
theorem dX11_init_33 : decode cX11_init 33 = .ok (.invokespecial 27, 3) := by decide +kernel
theorem dX11_init_36 : decode cX11_init 36 = .ok (.putfield 28, 3) := by decide +kernel
theorem dX11_init_39 : decode cX11_init 39 = .ok (.aload_n 0, 1) := by decide +kernel
theorem dX11_init_40 : decode cX11_init 40 = .ok (.aload_n 0, 1) := by decide +kernel
theorem dX11_init_41 : decode cX11_init 41 = .ok (.getfield 28, 3) := by decide +kernel
theorem dX11_init_44 : decode cX11_init 44 = .ok (.getfield 32, 3) := by decide +kernel
theorem dX11_init_47 : decode cX11_init 47 = .ok (.putfield 36, 3) := by decide +kernel
theorem dX11_init_50 : decode cX11_init 50 = .ok (.aload_n 0, 1) := by decide +kernel
theorem dX11_init_51 : decode cX11_init 51 = .ok (.bipush 32, 2) := by decide +kernel
theorem dX11_init_53 : decode cX11_init 53 = .ok (.anewarray 37, 3) := by decide +kernel
theorem dX11_init_56 : decode cX11_init 56 = .ok (.putfield 39, 3) := by decide +kernel
theorem dX11_init_59 : decode cX11_init 59 = .ok (.iconst 0, 1) := by decide +kernel
theorem dX11_init_60 : decode cX11_init 60 = .ok (.istore_n 2, 1) := by decide +kernel
theorem dX11_init_61 : decode cX11_init 61 = .ok (.iload_n 2, 1) := by decide +kernel
theorem dX11_init_62 : decode cX11_init 62 = .ok (.aload_n 0, 1) := by decide +kernel
theorem dX11_init_63 : decode cX11_init 63 = .ok (.getfield 39, 3) := by decide +kernel
theorem dX11_init_66 : decode cX11_init 66 = .ok (.arraylength, 1) := by decide +kernel
theorem dX11_init_67 : decode cX11_init 67 = .ok (.if_icmp .ge 22, 3) := by decide +kernel
theorem dX11_init_70 : decode cX11_init 70 = .ok (.aload_n 0, 1) := by decide +kernel
theorem dX11_init_71 : decode cX11_init 71 = .ok (.getfield 39, 3) := by decide +kernel
theorem dX11_init_74 : decode cX11_init 74 = .ok (.iload_n 2, 1) := by decide +kernel
theorem dX11_init_75 : decode cX11_init 75 = .ok (.new 37, 3) := by decide +kernel
theorem dX11_init_78 : decode cX11_init 78 = .ok (.dup, 1) := by decide +kernel
theorem dX11_init_79 : decode cX11_init 79 = .ok (.invokespecial 43, 3) := by decide +kernel
theorem dX11_init_82 : decode cX11_init 82 = .ok (.aastore, 1) := by decide +kernel
theorem dX11_init_83 : decode cX11_init 83 = .ok (.iinc 2 1, 3) := by decide +kernel
theorem dX11_init_86 : decode cX11_init 86 = .ok (.goto (-25), 3) := by decide +kernel
theorem dX11_init_89 : decode cX11_init 89 = .ok (.aload_n 0, 1) := by decide +kernel
theorem dX11_init_90 : decode cX11_init 90 = .ok (.new 44, 3) := by decide +kernel
theorem dX11_init_93 : decode cX11_init 93 = .ok (.dup, 1) := by decide +kernel
theorem dX11_init_94 : decode cX11_init 94 = .ok (.aload_n 1, 1) := by decide +kernel
theorem dX11_init_95 : decode cX11_init 95 = .ok (.invokespecial 46, 3) := by decide +kernel
theorem dX11_init_98 : decode cX11_init 98 = .ok (.putfield 49, 3) := by decide +kernel
theorem dX11_init_101 : decode cX11_init 101 = .ok (.aload_n 0, 1) := by decide +kernel
theorem dX11_init_102 : decode cX11_init 102 = .ok (.new 53, 3) := by decide +kernel
theorem dX11_init_105 : decode cX11_init 105 = .ok (.dup, 1) := by decide +kernel
theorem dX11_init_106 : decode cX11_init 106 = .ok (.invokespecial 55, 3) := by decide +kernel
theorem dX11_init_109 : decode cX11_init 109 = .ok (.putfield 56, 3) := by decide +kernel
theorem dX11_init_112 : decode cX11_init 112 = .ok (.aload_n 0, 1) := by decide +kernel
theorem dX11_init_113 : decode cX11_init 113 = .ok (.new 53, 3) := by decide +kernel
theorem dX11_init_116 : decode cX11_init 116 = .ok (.dup, 1) := by decide +kernel
theorem dX11_init_117 : decode cX11_init 117 = .ok (.invokespecial 55, 3) := by decide +kernel
theorem dX11_init_120 : decode cX11_init 120 = .ok (.putfield 60, 3) := by decide +kernel
theorem dX11_init_123 : decode cX11_init 123 = .ok (.aload_n 0, 1) := by decide +kernel
theorem dX11_init_124 : decode cX11_init 124 = .ok (.new 53, 3) := by decide +kernel
theorem dX11_init_127 : decode cX11_init 127 = .ok (.dup, 1) := by decide +kernel
theorem dX11_init_128 : decode cX11_init 128 = .ok (.invokespecial 55, 3) := by decide +kernel
theorem dX11_init_131 : decode cX11_init 131 = .ok (.putfield 63, 3) := by decide +kernel
theorem dX11_init_134 : decode cX11_init 134 = .ok (.aload_n 0, 1) := by decide +kernel
theorem dX11_init_135 : decode cX11_init 135 = .ok (.bipush 6, 2) := by decide +kernel
theorem dX11_init_137 : decode cX11_init 137 = .ok (.anewarray 3, 3) := by decide +kernel
theorem dX11_init_140 : decode cX11_init 140 = .ok (.putfield 66, 3) := by decide +kernel
theorem dX11_init_143 : decode cX11_init 143 = .ok (.iconst 0, 1) := by decide +kernel
theorem dX11_init_144 : decode cX11_init 144 = .ok (.istore_n 2, 1) := by decide +kernel
theorem dX11_init_145 : decode cX11_init 145 = .ok (.iload_n 2, 1) := by decide +kernel
theorem dX11_init_146 : decode cX11_init 146 = .ok (.aload_n 0, 1) := by decide +kernel
theorem dX11_init_147 : decode cX11_init 147 = .ok (.getfield 66, 3) := by decide +kernel
theorem dX11_init_150 : decode cX11_init 150 = .ok (.arraylength, 1) := by decide +kernel
theorem dX11_init_151 : decode cX11_init 151 = .ok (.if_icmp .ge 22, 3) := by decide +kernel
theorem dX11_init_154 : decode cX11_init 154 = .ok (.aload_n 0, 1) := by decide +kernel
theorem dX11_init_155 : decode cX11_init 155 = .ok (.getfield 66, 3) := by decide +kernel
theorem dX11_init_158 : decode cX11_init 158 = .ok (.iload_n 2, 1) := by decide +kernel
theorem dX11_init_159 : decode cX11_init 159 = .ok (.new 3, 3) := by decide +kernel
theorem dX11_init_162 : decode cX11_init 162 = .ok (.dup, 1) := by decide +kernel
theorem dX11_init_163 : decode cX11_init 163 = .ok (.invokespecial 70, 3) := by decide +kernel
theorem dX11_init_166 : decode cX11_init 166 = .ok (.aastore, 1) := by decide +kernel
theorem dX11_init_167 : decode cX11_init 167 = .ok (.iinc 2 1, 3) := by decide +kernel
theorem dX11_init_170 : decode cX11_init 170 = .ok (.goto (-25), 3) := by decide +kernel
theorem dX11_init_173 : decode cX11_init 173 = .ok (.aload_n 0, 1) := by decide +kernel
theorem dX11_init_174 : decode cX11_init 174 = .ok (.sipush 200, 3) := by decide +kernel
theorem dX11_init_177 : decode cX11_init 177 = .ok (.bipush 14, 2) := by decide +kernel
theorem dX11_init_179 : decode cX11_init 179 = .ok (.multianewarray 71 2, 4) := by decide +kernel
theorem dX11_init_183 : decode cX11_init 183 = .ok (.putfield 73, 3) := by decide +kernel
theorem dX11_init_186 : decode cX11_init 186 = .ok (.aload_n 0, 1) := by decide +kernel
theorem dX11_init_187 : decode cX11_init 187 = .ok (.bipush 50, 2) := by decide +kernel
theorem dX11_init_189 : decode cX11_init 189 = .ok (.putfield 76, 3) := by decide +kernel
theorem dX11_init_192 : decode cX11_init 192 = .ok (.aload_n 0, 1) := by decide +kernel
theorem dX11_init_193 : decode cX11_init 193 = .ok (.iconst (-1), 1) := by decide +kernel
theorem dX11_init_194 : decode cX11_init 194 = .ok (.putfield 80, 3) := by decide +kernel
theorem dX11_init_197 : decode cX11_init 197 = .ok (.aload_n 0, 1) := by decide +kernel
theorem dX11_init_198 : decode cX11_init 198 = .ok (.bipush 6, 2) := by decide +kernel
theorem dX11_init_200 : decode cX11_init 200 = .ok (.newarray .int, 2) := by decide +kernel
theorem dX11_init_202 : decode cX11_init 202 = .ok (.putfield 83, 3) := by decide +kernel
theorem dX11_init_205 : decode cX11_init 205 = .ok (.return_, 1) := by decide +kernel
theorem dX11_feed_0 : decode cX11_feed 0 = .ok (.iload_n 3, 1) := by decide +kernel
theorem dX11_feed_1 : decode cX11_feed 1 = .ok (.iconst 1, 1) := by decide +kernel
theorem dX11_feed_2 : decode cX11_feed 2 = .ok (.if_icmp .lt 9, 3) := by decide +kernel
theorem dX11_feed_5 : decode cX11_feed 5 = .ok (.iload_n 3, 1) := by decide +kernel
theorem dX11_feed_6 : decode cX11_feed 6 = .ok (.bipush 8, 2) := by decide +kernel
theorem dX11_feed_8 : decode cX11_feed 8 = .ok (.if_icmp .le 6, 3) := by decide +kernel
theorem dX11_feed_11 : decode cX11_feed 11 = .ok (.bipush (-3), 2) := by decide +kernel
theorem dX11_feed_13 : decode cX11_feed 13 = .ok (.ireturn, 1) := by decide +kernel
theorem dX11_feed_14 : decode cX11_feed 14 = .ok (.aload_n 0, 1) := by decide +kernel
theorem dX11_feed_15 : decode cX11_feed 15 = .ok (.getfield 36, 3) := by decide +kernel
theorem dX11_feed_18 : decode cX11_feed 18 = .ok (.getfield 87, 3) := by decide +kernel
theorem dX11_feed_21 : decode cX11_feed 21 = .ok (.iload_n 3, 1) := by decide +kernel
theorem dX11_feed_22 : decode cX11_feed 22 = .ok (.iadd, 1) := by decide +kernel
theorem dX11_feed_23 : decode cX11_feed 23 = .ok (.sipush 1600, 3) := by decide +kernel
theorem dX11_feed_26 : decode cX11_feed 26 = .ok (.if_icmp .le 6, 3) := by decide +kernel
theorem dX11_feed_29 : decode cX11_feed 29 = .ok (.bipush (-5), 2) := by decide +kernel
theorem dX11_feed_31 : decode cX11_feed 31 = .ok (.ireturn, 1) := by decide +kernel
theorem dX11_feed_32 : decode cX11_feed 32 = .ok (.iload_n 3, 1) := by decide +kernel
theorem dX11_feed_33 : decode cX11_feed 33 = .ok (.iconst 1, 1) := by decide +kernel
theorem dX11_feed_34 : decode cX11_feed 34 = .ok (.isub, 1) := by decide +kernel
theorem dX11_feed_35 : decode cX11_feed 35 = .ok (.istore 4, 2) := by decide +kernel
theorem dX11_feed_37 : decode cX11_feed 37 = .ok (.iload 4, 2) := by decide +kernel
theorem dX11_feed_39 : decode cX11_feed 39 = .ok (.ifCond .lt 25, 3) := by decide +kernel
theorem dX11_feed_42 : decode cX11_feed 42 = .ok (.aload_n 0, 1) := by decide +kernel
theorem dX11_feed_43 : decode cX11_feed 43 = .ok (.getfield 36, 3) := by decide +kernel
theorem dX11_feed_46 : decode cX11_feed 46 = .ok (.lload_n 1, 1) := by decide +kernel
theorem dX11_feed_47 : decode cX11_feed 47 = .ok (.bipush 8, 2) := by decide +kernel
theorem dX11_feed_49 : decode cX11_feed 49 = .ok (.iload 4, 2) := by decide +kernel
theorem dX11_feed_51 : decode cX11_feed 51 = .ok (.imul, 1) := by decide +kernel
theorem dX11_feed_52 : decode cX11_feed 52 = .ok (.lushr, 1) := by decide +kernel
theorem dX11_feed_53 : decode cX11_feed 53 = .ok (.l2i, 1) := by decide +kernel
theorem dX11_feed_54 : decode cX11_feed 54 = .ok (.i2b, 1) := by decide +kernel
theorem dX11_feed_55 : decode cX11_feed 55 = .ok (.invokevirtual 92, 3) := by decide +kernel
theorem dX11_feed_58 : decode cX11_feed 58 = .ok (.iinc 4 (-1), 3) := by decide +kernel
theorem dX11_feed_61 : decode cX11_feed 61 = .ok (.goto (-24), 3) := by decide +kernel
theorem dX11_feed_64 : decode cX11_feed 64 = .ok (.aload_n 0, 1) := by decide +kernel
theorem dX11_feed_65 : decode cX11_feed 65 = .ok (.getfield 36, 3) := by decide +kernel
theorem dX11_feed_68 : decode cX11_feed 68 = .ok (.getfield 87, 3) := by decide +kernel
theorem dX11_feed_71 : decode cX11_feed 71 = .ok (.ireturn, 1) := by decide +kernel
theorem dX11_cut_0 : decode cX11_cut 0 = .ok (.iload_n 1, 1) := by decide +kernel
theorem dX11_cut_1 : decode cX11_cut 1 = .ok (.ifCond .lt 14, 3) := by decide +kernel
theorem dX11_cut_4 : decode cX11_cut 4 = .ok (.iload_n 1, 1) := by decide +kernel
theorem dX11_cut_5 : decode cX11_cut 5 = .ok (.aload_n 0, 1) := by decide +kernel
theorem dX11_cut_6 : decode cX11_cut 6 = .ok (.getfield 36, 3) := by decide +kernel
theorem dX11_cut_9 : decode cX11_cut 9 = .ok (.getfield 87, 3) := by decide +kernel
theorem dX11_cut_12 : decode cX11_cut 12 = .ok (.if_icmp .le 6, 3) := by decide +kernel
theorem dX11_cut_15 : decode cX11_cut 15 = .ok (.bipush (-3), 2) := by decide +kernel
theorem dX11_cut_17 : decode cX11_cut 17 = .ok (.ireturn, 1) := by decide +kernel
theorem dX11_cut_18 : decode cX11_cut 18 = .ok (.aload_n 0, 1) := by decide +kernel
theorem dX11_cut_19 : decode cX11_cut 19 = .ok (.getfield 36, 3) := by decide +kernel
theorem dX11_cut_22 : decode cX11_cut 22 = .ok (.getfield 87, 3) := by decide +kernel
theorem dX11_cut_25 : decode cX11_cut 25 = .ok (.iload_n 1, 1) := by decide +kernel
theorem dX11_cut_26 : decode cX11_cut 26 = .ok (.isub, 1) := by decide +kernel
theorem dX11_cut_27 : decode cX11_cut 27 = .ok (.istore_n 2, 1) := by decide +kernel
theorem dX11_cut_28 : decode cX11_cut 28 = .ok (.aload_n 0, 1) := by decide +kernel
theorem dX11_cut_29 : decode cX11_cut 29 = .ok (.getfield 36, 3) := by decide +kernel
theorem dX11_cut_32 : decode cX11_cut 32 = .ok (.iload_n 1, 1) := by decide +kernel
theorem dX11_cut_33 : decode cX11_cut 33 = .ok (.putfield 87, 3) := by decide +kernel
theorem dX11_cut_36 : decode cX11_cut 36 = .ok (.iload_n 2, 1) := by decide +kernel
theorem dX11_cut_37 : decode cX11_cut 37 = .ok (.ireturn, 1) := by decide +kernel
theorem dX11_clock_0 : decode cX11_clock 0 = .ok (.iload_n 1, 1) := by decide +kernel
theorem dX11_clock_1 : decode cX11_clock 1 = .ok (.invokestatic 96, 3) := by decide +kernel
theorem dX11_clock_4 : decode cX11_clock 4 = .ok (.ifCond .eq 11, 3) := by decide +kernel
theorem dX11_clock_7 : decode cX11_clock 7 = .ok (.iload_n 1, 1) := by decide +kernel
theorem dX11_clock_8 : decode cX11_clock 8 = .ok (.aload_n 0, 1) := by decide +kernel
theorem dX11_clock_9 : decode cX11_clock 9 = .ok (.getfield 100, 3) := by decide +kernel
theorem dX11_clock_12 : decode cX11_clock 12 = .ok (.if_icmp .ge 6, 3) := by decide +kernel
theorem dX11_clock_15 : decode cX11_clock 15 = .ok (.bipush (-3), 2) := by decide +kernel
theorem dX11_clock_17 : decode cX11_clock 17 = .ok (.ireturn, 1) := by decide +kernel
theorem dX11_clock_18 : decode cX11_clock 18 = .ok (.aload_n 0, 1) := by decide +kernel
theorem dX11_clock_19 : decode cX11_clock 19 = .ok (.iload_n 1, 1) := by decide +kernel
theorem dX11_clock_20 : decode cX11_clock 20 = .ok (.putfield 100, 3) := by decide +kernel
theorem dX11_clock_23 : decode cX11_clock 23 = .ok (.iconst 1, 1) := by decide +kernel
theorem dX11_clock_24 : decode cX11_clock 24 = .ok (.ireturn, 1) := by decide +kernel
theorem dX11_person_0 : decode cX11_person 0 = .ok (.iload_n 2, 1) := by decide +kernel
theorem dX11_person_1 : decode cX11_person 1 = .ok (.ldc 103, 2) := by decide +kernel
theorem dX11_person_3 : decode cX11_person 3 = .ok (.if_icmp .lt 10, 3) := by decide +kernel
theorem dX11_person_6 : decode cX11_person 6 = .ok (.iload_n 2, 1) := by decide +kernel
theorem dX11_person_7 : decode cX11_person 7 = .ok (.sipush 389, 3) := by decide +kernel
theorem dX11_person_10 : decode cX11_person 10 = .ok (.if_icmp .le 6, 3) := by decide +kernel
theorem dX11_person_13 : decode cX11_person 13 = .ok (.bipush (-3), 2) := by decide +kernel
theorem dX11_person_15 : decode cX11_person 15 = .ok (.ireturn, 1) := by decide +kernel
theorem dX11_person_16 : decode cX11_person 16 = .ok (.aload_n 0, 1) := by decide +kernel
theorem dX11_person_17 : decode cX11_person 17 = .ok (.getfield 14, 3) := by decide +kernel
theorem dX11_person_20 : decode cX11_person 20 = .ok (.iload_n 1, 1) := by decide +kernel
theorem dX11_person_21 : decode cX11_person 21 = .ok (.iload_n 2, 1) := by decide +kernel
theorem dX11_person_22 : decode cX11_person 22 = .ok (.invokevirtual 104, 3) := by decide +kernel
theorem dX11_person_25 : decode cX11_person 25 = .ok (.ireturn, 1) := by decide +kernel
theorem dX11_desk_0 : decode cX11_desk 0 = .ok (.iload_n 1, 1) := by decide +kernel
theorem dX11_desk_1 : decode cX11_desk 1 = .ok (.ifCond .lt 9, 3) := by decide +kernel
theorem dX11_desk_4 : decode cX11_desk 4 = .ok (.iload_n 1, 1) := by decide +kernel
theorem dX11_desk_5 : decode cX11_desk 5 = .ok (.bipush 7, 2) := by decide +kernel
theorem dX11_desk_7 : decode cX11_desk 7 = .ok (.if_icmp .le 6, 3) := by decide +kernel
theorem dX11_desk_10 : decode cX11_desk 10 = .ok (.bipush (-3), 2) := by decide +kernel
theorem dX11_desk_12 : decode cX11_desk 12 = .ok (.ireturn, 1) := by decide +kernel
theorem dX11_desk_13 : decode cX11_desk 13 = .ok (.iload_n 1, 1) := by decide +kernel
theorem dX11_desk_14 : decode cX11_desk 14 = .ok (.iconst 2, 1) := by decide +kernel
theorem dX11_desk_15 : decode cX11_desk 15 = .ok (.if_icmp .lt 8, 3) := by decide +kernel
theorem dX11_desk_18 : decode cX11_desk 18 = .ok (.bipush 12, 2) := by decide +kernel
theorem dX11_desk_20 : decode cX11_desk 20 = .ok (.goto 4, 3) := by decide +kernel
theorem dX11_desk_23 : decode cX11_desk 23 = .ok (.iconst 0, 1) := by decide +kernel
theorem dX11_desk_24 : decode cX11_desk 24 = .ok (.istore_n 3, 1) := by decide +kernel
theorem dX11_desk_25 : decode cX11_desk 25 = .ok (.iload_n 2, 1) := by decide +kernel
theorem dX11_desk_26 : decode cX11_desk 26 = .ok (.ifCond .lt 8, 3) := by decide +kernel
theorem dX11_desk_29 : decode cX11_desk 29 = .ok (.iload_n 2, 1) := by decide +kernel
theorem dX11_desk_30 : decode cX11_desk 30 = .ok (.iload_n 3, 1) := by decide +kernel
theorem dX11_desk_31 : decode cX11_desk 31 = .ok (.if_icmp .le 6, 3) := by decide +kernel
theorem dX11_desk_34 : decode cX11_desk 34 = .ok (.bipush (-3), 2) := by decide +kernel
theorem dX11_desk_36 : decode cX11_desk 36 = .ok (.ireturn, 1) := by decide +kernel
theorem dX11_desk_37 : decode cX11_desk 37 = .ok (.iload_n 1, 1) := by decide +kernel
theorem dX11_desk_38 : decode cX11_desk 38 = .ok (.iconst 2, 1) := by decide +kernel
theorem dX11_desk_39 : decode cX11_desk 39 = .ok (.if_icmp .lt 15, 3) := by decide +kernel
theorem dX11_desk_42 : decode cX11_desk 42 = .ok (.aload_n 0, 1) := by decide +kernel
theorem dX11_desk_43 : decode cX11_desk 43 = .ok (.getfield 21, 3) := by decide +kernel
theorem dX11_desk_46 : decode cX11_desk 46 = .ok (.iload_n 1, 1) := by decide +kernel
theorem dX11_desk_47 : decode cX11_desk 47 = .ok (.iload_n 2, 1) := by decide +kernel
theorem dX11_desk_48 : decode cX11_desk 48 = .ok (.invokevirtual 108, 3) := by decide +kernel
theorem dX11_desk_51 : decode cX11_desk 51 = .ok (.goto 12, 3) := by decide +kernel
theorem dX11_desk_54 : decode cX11_desk 54 = .ok (.aload_n 0, 1) := by decide +kernel
theorem dX11_desk_55 : decode cX11_desk 55 = .ok (.getfield 21, 3) := by decide +kernel
theorem dX11_desk_58 : decode cX11_desk 58 = .ok (.iload_n 1, 1) := by decide +kernel
theorem dX11_desk_59 : decode cX11_desk 59 = .ok (.lconst 0, 1) := by decide +kernel
theorem dX11_desk_60 : decode cX11_desk 60 = .ok (.invokevirtual 112, 3) := by decide +kernel
theorem dX11_desk_63 : decode cX11_desk 63 = .ok (.iload_n 2, 1) := by decide +kernel
theorem dX11_desk_64 : decode cX11_desk 64 = .ok (.ireturn, 1) := by decide +kernel
theorem dX11_write_0 : decode cX11_write 0 = .ok (.iload_n 1, 1) := by decide +kernel
theorem dX11_write_1 : decode cX11_write 1 = .ok (.iconst (-1), 1) := by decide +kernel
theorem dX11_write_2 : decode cX11_write 2 = .ok (.if_icmp .ne 16, 3) := by decide +kernel
theorem dX11_write_5 : decode cX11_write 5 = .ok (.aload_n 0, 1) := by decide +kernel
theorem dX11_write_6 : decode cX11_write 6 = .ok (.getfield 21, 3) := by decide +kernel
theorem dX11_write_9 : decode cX11_write 9 = .ok (.invokevirtual 116, 3) := by decide +kernel
theorem dX11_write_12 : decode cX11_write 12 = .ok (.ifCond .ne 19, 3) := by decide +kernel
theorem dX11_write_15 : decode cX11_write 15 = .ok (.goto 13, 3) := by decide +kernel
theorem dX11_write_18 : decode cX11_write 18 = .ok (.aload_n 0, 1) := by decide +kernel
theorem dX11_write_19 : decode cX11_write 19 = .ok (.getfield 21, 3) := by decide +kernel
theorem dX11_write_22 : decode cX11_write 22 = .ok (.invokevirtual 120, 3) := by decide +kernel
theorem dX11_write_25 : decode cX11_write 25 = .ok (.ifCond .ne 6, 3) := by decide +kernel
theorem dX11_write_28 : decode cX11_write 28 = .ok (.bipush (-4), 2) := by decide +kernel
theorem dX11_write_30 : decode cX11_write 30 = .ok (.ireturn, 1) := by decide +kernel
theorem dX11_write_31 : decode cX11_write 31 = .ok (.iload_n 1, 1) := by decide +kernel
theorem dX11_write_32 : decode cX11_write 32 = .ok (.iconst (-1), 1) := by decide +kernel
theorem dX11_write_33 : decode cX11_write 33 = .ok (.if_icmp .eq 18, 3) := by decide +kernel
theorem dX11_write_36 : decode cX11_write 36 = .ok (.aload_n 0, 1) := by decide +kernel
theorem dX11_write_37 : decode cX11_write 37 = .ok (.getfield 21, 3) := by decide +kernel
theorem dX11_write_40 : decode cX11_write 40 = .ok (.iload_n 1, 1) := by decide +kernel
theorem dX11_write_41 : decode cX11_write 41 = .ok (.i2l, 1) := by decide +kernel
theorem dX11_write_42 : decode cX11_write 42 = .ok (.invokevirtual 123, 3) := by decide +kernel
theorem dX11_write_45 : decode cX11_write 45 = .ok (.ifCond .ne 6, 3) := by decide +kernel
theorem dX11_write_48 : decode cX11_write 48 = .ok (.bipush (-3), 2) := by decide +kernel
theorem dX11_write_50 : decode cX11_write 50 = .ok (.ireturn, 1) := by decide +kernel
theorem dX11_write_51 : decode cX11_write 51 = .ok (.aload_n 0, 1) := by decide +kernel
theorem dX11_write_52 : decode cX11_write 52 = .ok (.getfield 21, 3) := by decide +kernel
theorem dX11_write_55 : decode cX11_write 55 = .ok (.iload_n 1, 1) := by decide +kernel
theorem dX11_write_56 : decode cX11_write 56 = .ok (.iconst (-1), 1) := by decide +kernel
theorem dX11_write_57 : decode cX11_write 57 = .ok (.if_icmp .ne 7, 3) := by decide +kernel
theorem dX11_write_60 : decode cX11_write 60 = .ok (.iconst 0, 1) := by decide +kernel
theorem dX11_write_61 : decode cX11_write 61 = .ok (.goto 4, 3) := by decide +kernel
theorem dX11_write_64 : decode cX11_write 64 = .ok (.iload_n 1, 1) := by decide +kernel
theorem dX11_write_65 : decode cX11_write 65 = .ok (.lload_n 2, 1) := by decide +kernel
theorem dX11_write_66 : decode cX11_write 66 = .ok (.invokevirtual 127, 3) := by decide +kernel
theorem dX11_write_69 : decode cX11_write 69 = .ok (.iconst 1, 1) := by decide +kernel
theorem dX11_write_70 : decode cX11_write 70 = .ok (.ireturn, 1) := by decide +kernel
theorem dX11_seat_0 : decode cX11_seat 0 = .ok (.iload_n 2, 1) := by decide +kernel
theorem dX11_seat_1 : decode cX11_seat 1 = .ok (.iconst (-1), 1) := by decide +kernel
theorem dX11_seat_2 : decode cX11_seat 2 = .ok (.if_icmp .eq 18, 3) := by decide +kernel
theorem dX11_seat_5 : decode cX11_seat 5 = .ok (.aload_n 0, 1) := by decide +kernel
theorem dX11_seat_6 : decode cX11_seat 6 = .ok (.getfield 14, 3) := by decide +kernel
theorem dX11_seat_9 : decode cX11_seat 9 = .ok (.iload_n 2, 1) := by decide +kernel
theorem dX11_seat_10 : decode cX11_seat 10 = .ok (.i2l, 1) := by decide +kernel
theorem dX11_seat_11 : decode cX11_seat 11 = .ok (.invokevirtual 130, 3) := by decide +kernel
theorem dX11_seat_14 : decode cX11_seat 14 = .ok (.ifCond .ne 6, 3) := by decide +kernel
theorem dX11_seat_17 : decode cX11_seat 17 = .ok (.bipush (-2), 2) := by decide +kernel
theorem dX11_seat_19 : decode cX11_seat 19 = .ok (.ireturn, 1) := by decide +kernel
theorem dX11_seat_20 : decode cX11_seat 20 = .ok (.aload_n 0, 1) := by decide +kernel
theorem dX11_seat_21 : decode cX11_seat 21 = .ok (.getfield 21, 3) := by decide +kernel
theorem dX11_seat_24 : decode cX11_seat 24 = .ok (.invokevirtual 133, 3) := by decide +kernel
theorem dX11_seat_27 : decode cX11_seat 27 = .ok (.ifCond .ne 6, 3) := by decide +kernel
theorem dX11_seat_30 : decode cX11_seat 30 = .ok (.bipush (-4), 2) := by decide +kernel
theorem dX11_seat_32 : decode cX11_seat 32 = .ok (.ireturn, 1) := by decide +kernel
theorem dX11_seat_33 : decode cX11_seat 33 = .ok (.aload_n 0, 1) := by decide +kernel
theorem dX11_seat_34 : decode cX11_seat 34 = .ok (.getfield 21, 3) := by decide +kernel
theorem dX11_seat_37 : decode cX11_seat 37 = .ok (.iload_n 1, 1) := by decide +kernel
theorem dX11_seat_38 : decode cX11_seat 38 = .ok (.i2l, 1) := by decide +kernel
theorem dX11_seat_39 : decode cX11_seat 39 = .ok (.invokevirtual 123, 3) := by decide +kernel
theorem dX11_seat_42 : decode cX11_seat 42 = .ok (.ifCond .ne 6, 3) := by decide +kernel
theorem dX11_seat_45 : decode cX11_seat 45 = .ok (.bipush (-3), 2) := by decide +kernel
theorem dX11_seat_47 : decode cX11_seat 47 = .ok (.ireturn, 1) := by decide +kernel
theorem dX11_seat_48 : decode cX11_seat 48 = .ok (.aload_n 0, 1) := by decide +kernel
theorem dX11_seat_49 : decode cX11_seat 49 = .ok (.getfield 14, 3) := by decide +kernel
theorem dX11_seat_52 : decode cX11_seat 52 = .ok (.aload_n 0, 1) := by decide +kernel
theorem dX11_seat_53 : decode cX11_seat 53 = .ok (.getfield 21, 3) := by decide +kernel
theorem dX11_seat_56 : decode cX11_seat 56 = .ok (.getfield 136, 3) := by decide +kernel
theorem dX11_seat_59 : decode cX11_seat 59 = .ok (.iload_n 2, 1) := by decide +kernel
theorem dX11_seat_60 : decode cX11_seat 60 = .ok (.i2l, 1) := by decide +kernel
theorem dX11_seat_61 : decode cX11_seat 61 = .ok (.invokevirtual 139, 3) := by decide +kernel
theorem dX11_seat_64 : decode cX11_seat 64 = .ok (.ifCond .ne 6, 3) := by decide +kernel
theorem dX11_seat_67 : decode cX11_seat 67 = .ok (.bipush (-4), 2) := by decide +kernel
theorem dX11_seat_69 : decode cX11_seat 69 = .ok (.ireturn, 1) := by decide +kernel
theorem dX11_seat_70 : decode cX11_seat 70 = .ok (.aload_n 0, 1) := by decide +kernel
theorem dX11_seat_71 : decode cX11_seat 71 = .ok (.getfield 21, 3) := by decide +kernel
theorem dX11_seat_74 : decode cX11_seat 74 = .ok (.iload_n 1, 1) := by decide +kernel
theorem dX11_seat_75 : decode cX11_seat 75 = .ok (.iload_n 2, 1) := by decide +kernel
theorem dX11_seat_76 : decode cX11_seat 76 = .ok (.i2l, 1) := by decide +kernel
theorem dX11_seat_77 : decode cX11_seat 77 = .ok (.invokevirtual 127, 3) := by decide +kernel
theorem dX11_seat_80 : decode cX11_seat 80 = .ok (.iconst 1, 1) := by decide +kernel
theorem dX11_seat_81 : decode cX11_seat 81 = .ok (.ireturn, 1) := by decide +kernel
theorem dX11_sort_0 : decode cX11_sort 0 = .ok (.aload_n 0, 1) := by decide +kernel
theorem dX11_sort_1 : decode cX11_sort 1 = .ok (.getfield 21, 3) := by decide +kernel
theorem dX11_sort_4 : decode cX11_sort 4 = .ok (.getfield 136, 3) := by decide +kernel
theorem dX11_sort_7 : decode cX11_sort 7 = .ok (.ireturn, 1) := by decide +kernel
theorem dX11_length_0 : decode cX11_length 0 = .ok (.aload_n 0, 1) := by decide +kernel
theorem dX11_length_1 : decode cX11_length 1 = .ok (.getfield 21, 3) := by decide +kernel
theorem dX11_length_4 : decode cX11_length 4 = .ok (.getfield 143, 3) := by decide +kernel
theorem dX11_length_7 : decode cX11_length 7 = .ok (.ireturn, 1) := by decide +kernel
theorem dX11_read_0 : decode cX11_read 0 = .ok (.iload_n 1, 1) := by decide +kernel
theorem dX11_read_1 : decode cX11_read 1 = .ok (.iconst (-1), 1) := by decide +kernel
theorem dX11_read_2 : decode cX11_read 2 = .ok (.if_icmp .ne 27, 3) := by decide +kernel
theorem dX11_read_5 : decode cX11_read 5 = .ok (.aload_n 0, 1) := by decide +kernel
theorem dX11_read_6 : decode cX11_read 6 = .ok (.getfield 21, 3) := by decide +kernel
theorem dX11_read_9 : decode cX11_read 9 = .ok (.invokevirtual 144, 3) := by decide +kernel
theorem dX11_read_12 : decode cX11_read 12 = .ok (.ifCond .eq 7, 3) := by decide +kernel
theorem dX11_read_15 : decode cX11_read 15 = .ok (.lconst 0, 1) := by decide +kernel
theorem dX11_read_16 : decode cX11_read 16 = .ok (.goto 12, 3) := by decide +kernel
theorem dX11_read_19 : decode cX11_read 19 = .ok (.aload_n 0, 1) := by decide +kernel
theorem dX11_read_20 : decode cX11_read 20 = .ok (.getfield 21, 3) := by decide +kernel
theorem dX11_read_23 : decode cX11_read 23 = .ok (.getfield 147, 3) := by decide +kernel
theorem dX11_read_26 : decode cX11_read 26 = .ok (.iconst 0, 1) := by decide +kernel
theorem dX11_read_27 : decode cX11_read 27 = .ok (.laload, 1) := by decide +kernel
theorem dX11_read_28 : decode cX11_read 28 = .ok (.lreturn, 1) := by decide +kernel
theorem dX11_read_29 : decode cX11_read 29 = .ok (.aload_n 0, 1) := by decide +kernel
theorem dX11_read_30 : decode cX11_read 30 = .ok (.getfield 21, 3) := by decide +kernel
theorem dX11_read_33 : decode cX11_read 33 = .ok (.iload_n 1, 1) := by decide +kernel
theorem dX11_read_34 : decode cX11_read 34 = .ok (.i2l, 1) := by decide +kernel
theorem dX11_read_35 : decode cX11_read 35 = .ok (.invokevirtual 123, 3) := by decide +kernel
theorem dX11_read_38 : decode cX11_read 38 = .ok (.ifCond .eq 15, 3) := by decide +kernel
theorem dX11_read_41 : decode cX11_read 41 = .ok (.aload_n 0, 1) := by decide +kernel
theorem dX11_read_42 : decode cX11_read 42 = .ok (.getfield 21, 3) := by decide +kernel
theorem dX11_read_45 : decode cX11_read 45 = .ok (.getfield 147, 3) := by decide +kernel
theorem dX11_read_48 : decode cX11_read 48 = .ok (.iload_n 1, 1) := by decide +kernel
theorem dX11_read_49 : decode cX11_read 49 = .ok (.laload, 1) := by decide +kernel
theorem dX11_read_50 : decode cX11_read 50 = .ok (.goto 4, 3) := by decide +kernel
theorem dX11_read_53 : decode cX11_read 53 = .ok (.lconst 0, 1) := by decide +kernel
theorem dX11_read_54 : decode cX11_read 54 = .ok (.lreturn, 1) := by decide +kernel
theorem dX11_fact_0 : decode cX11_fact 0 = .ok (.aload_n 0, 1) := by decide +kernel
theorem dX11_fact_1 : decode cX11_fact 1 = .ok (.getfield 36, 3) := by decide +kernel
theorem dX11_fact_4 : decode cX11_fact 4 = .ok (.invokevirtual 151, 3) := by decide +kernel
theorem dX11_fact_7 : decode cX11_fact 7 = .ok (.lstore 4, 2) := by decide +kernel
theorem dX11_fact_9 : decode cX11_fact 9 = .ok (.iload_n 1, 1) := by decide +kernel
theorem dX11_fact_10 : decode cX11_fact 10 = .ok (.invokestatic 155, 3) := by decide +kernel
theorem dX11_fact_13 : decode cX11_fact 13 = .ok (.ifCond .ne 6, 3) := by decide +kernel
theorem dX11_fact_16 : decode cX11_fact 16 = .ok (.bipush (-2), 2) := by decide +kernel
theorem dX11_fact_18 : decode cX11_fact 18 = .ok (.ireturn, 1) := by decide +kernel
theorem dX11_fact_19 : decode cX11_fact 19 = .ok (.iload_n 2, 1) := by decide +kernel
theorem dX11_fact_20 : decode cX11_fact 20 = .ok (.invokestatic 96, 3) := by decide +kernel
theorem dX11_fact_23 : decode cX11_fact 23 = .ok (.ifCond .eq 15, 3) := by decide +kernel
theorem dX11_fact_26 : decode cX11_fact 26 = .ok (.iload_n 3, 1) := by decide +kernel
theorem dX11_fact_27 : decode cX11_fact 27 = .ok (.invokestatic 96, 3) := by decide +kernel
theorem dX11_fact_30 : decode cX11_fact 30 = .ok (.ifCond .eq 8, 3) := by decide +kernel
theorem dX11_fact_33 : decode cX11_fact 33 = .ok (.iload_n 3, 1) := by decide +kernel
theorem dX11_fact_34 : decode cX11_fact 34 = .ok (.iload_n 2, 1) := by decide +kernel
theorem dX11_fact_35 : decode cX11_fact 35 = .ok (.if_icmp .ge 6, 3) := by decide +kernel
theorem dX11_fact_38 : decode cX11_fact 38 = .ok (.bipush (-3), 2) := by decide +kernel
theorem dX11_fact_40 : decode cX11_fact 40 = .ok (.ireturn, 1) := by decide +kernel
theorem dX11_fact_41 : decode cX11_fact 41 = .ok (.lload 4, 2) := by decide +kernel
theorem dX11_fact_43 : decode cX11_fact 43 = .ok (.lconst 0, 1) := by decide +kernel
theorem dX11_fact_44 : decode cX11_fact 44 = .ok (.lcmp, 1) := by decide +kernel
theorem dX11_fact_45 : decode cX11_fact 45 = .ok (.ifCond .eq 15, 3) := by decide +kernel
theorem dX11_fact_48 : decode cX11_fact 48 = .ok (.aload_n 0, 1) := by decide +kernel
theorem dX11_fact_49 : decode cX11_fact 49 = .ok (.getfield 21, 3) := by decide +kernel
theorem dX11_fact_52 : decode cX11_fact 52 = .ok (.getfield 136, 3) := by decide +kernel
theorem dX11_fact_55 : decode cX11_fact 55 = .ok (.bipush 8, 2) := by decide +kernel
theorem dX11_fact_57 : decode cX11_fact 57 = .ok (.if_icmp .ne 6, 3) := by decide +kernel
theorem dX11_fact_60 : decode cX11_fact 60 = .ok (.bipush (-4), 2) := by decide +kernel
theorem dX11_fact_62 : decode cX11_fact 62 = .ok (.ireturn, 1) := by decide +kernel
theorem dX11_fact_63 : decode cX11_fact 63 = .ok (.aload_n 0, 1) := by decide +kernel
theorem dX11_fact_64 : decode cX11_fact 64 = .ok (.getfield 14, 3) := by decide +kernel
theorem dX11_fact_67 : decode cX11_fact 67 = .ok (.getfield 158, 3) := by decide +kernel
theorem dX11_fact_70 : decode cX11_fact 70 = .ok (.sipush 200, 3) := by decide +kernel
theorem dX11_fact_73 : decode cX11_fact 73 = .ok (.if_icmp .ne 6, 3) := by decide +kernel
theorem dX11_fact_76 : decode cX11_fact 76 = .ok (.bipush (-5), 2) := by decide +kernel
theorem dX11_fact_78 : decode cX11_fact 78 = .ok (.ireturn, 1) := by decide +kernel
theorem dX11_fact_79 : decode cX11_fact 79 = .ok (.aload_n 0, 1) := by decide +kernel
theorem dX11_fact_80 : decode cX11_fact 80 = .ok (.getfield 14, 3) := by decide +kernel
theorem dX11_fact_83 : decode cX11_fact 83 = .ok (.getfield 161, 3) := by decide +kernel
theorem dX11_fact_86 : decode cX11_fact 86 = .ok (.aload_n 0, 1) := by decide +kernel
theorem dX11_fact_87 : decode cX11_fact 87 = .ok (.getfield 14, 3) := by decide +kernel
theorem dX11_fact_90 : decode cX11_fact 90 = .ok (.getfield 158, 3) := by decide +kernel
theorem dX11_fact_93 : decode cX11_fact 93 = .ok (.aaload, 1) := by decide +kernel
theorem dX11_fact_94 : decode cX11_fact 94 = .ok (.astore 6, 2) := by decide +kernel
theorem dX11_fact_96 : decode cX11_fact 96 = .ok (.aload 6, 2) := by decide +kernel
theorem dX11_fact_98 : decode cX11_fact 98 = .ok (.iload_n 1, 1) := by decide +kernel
theorem dX11_fact_99 : decode cX11_fact 99 = .ok (.putfield 165, 3) := by decide +kernel
theorem dX11_fact_102 : decode cX11_fact 102 = .ok (.aload 6, 2) := by decide +kernel
theorem dX11_fact_104 : decode cX11_fact 104 = .ok (.lload 4, 2) := by decide +kernel
theorem dX11_fact_106 : decode cX11_fact 106 = .ok (.putfield 170, 3) := by decide +kernel
theorem dX11_fact_109 : decode cX11_fact 109 = .ok (.aload 6, 2) := by decide +kernel
theorem dX11_fact_111 : decode cX11_fact 111 = .ok (.iload_n 2, 1) := by decide +kernel
theorem dX11_fact_112 : decode cX11_fact 112 = .ok (.putfield 174, 3) := by decide +kernel
theorem dX11_fact_115 : decode cX11_fact 115 = .ok (.aload 6, 2) := by decide +kernel
theorem dX11_fact_117 : decode cX11_fact 117 = .ok (.iload_n 3, 1) := by decide +kernel
theorem dX11_fact_118 : decode cX11_fact 118 = .ok (.putfield 177, 3) := by decide +kernel
theorem dX11_fact_121 : decode cX11_fact 121 = .ok (.aload 6, 2) := by decide +kernel
theorem dX11_fact_123 : decode cX11_fact 123 = .ok (.aload_n 0, 1) := by decide +kernel
theorem dX11_fact_124 : decode cX11_fact 124 = .ok (.getfield 100, 3) := by decide +kernel
theorem dX11_fact_127 : decode cX11_fact 127 = .ok (.putfield 180, 3) := by decide +kernel
theorem dX11_fact_130 : decode cX11_fact 130 = .ok (.aload 6, 2) := by decide +kernel
theorem dX11_fact_132 : decode cX11_fact 132 = .ok (.iconst (-1), 1) := by decide +kernel
theorem dX11_fact_133 : decode cX11_fact 133 = .ok (.putfield 183, 3) := by decide +kernel
theorem dX11_fact_136 : decode cX11_fact 136 = .ok (.aload 6, 2) := by decide +kernel
theorem dX11_fact_138 : decode cX11_fact 138 = .ok (.getfield 186, 3) := by decide +kernel
theorem dX11_fact_141 : decode cX11_fact 141 = .ok (.aload_n 0, 1) := by decide +kernel
theorem dX11_fact_142 : decode cX11_fact 142 = .ok (.getfield 21, 3) := by decide +kernel
theorem dX11_fact_145 : decode cX11_fact 145 = .ok (.invokevirtual 189, 3) := by decide +kernel
theorem dX11_fact_148 : decode cX11_fact 148 = .ok (.aload_n 0, 1) := by decide +kernel
theorem dX11_fact_149 : decode cX11_fact 149 = .ok (.getfield 14, 3) := by decide +kernel
theorem dX11_fact_152 : decode cX11_fact 152 = .ok (.dup, 1) := by decide +kernel
theorem dX11_fact_153 : decode cX11_fact 153 = .ok (.getfield 158, 3) := by decide +kernel
theorem dX11_fact_156 : decode cX11_fact 156 = .ok (.dup_x1, 1) := by decide +kernel
theorem dX11_fact_157 : decode cX11_fact 157 = .ok (.iconst 1, 1) := by decide +kernel
theorem dX11_fact_158 : decode cX11_fact 158 = .ok (.iadd, 1) := by decide +kernel
theorem dX11_fact_159 : decode cX11_fact 159 = .ok (.putfield 158, 3) := by decide +kernel
theorem dX11_fact_162 : decode cX11_fact 162 = .ok (.ireturn, 1) := by decide +kernel
theorem dX11_annul_0 : decode cX11_annul 0 = .ok (.iload_n 1, 1) := by decide +kernel
theorem dX11_annul_1 : decode cX11_annul 1 = .ok (.ifCond .lt 14, 3) := by decide +kernel
theorem dX11_annul_4 : decode cX11_annul 4 = .ok (.iload_n 1, 1) := by decide +kernel
theorem dX11_annul_5 : decode cX11_annul 5 = .ok (.aload_n 0, 1) := by decide +kernel
theorem dX11_annul_6 : decode cX11_annul 6 = .ok (.getfield 14, 3) := by decide +kernel
theorem dX11_annul_9 : decode cX11_annul 9 = .ok (.getfield 158, 3) := by decide +kernel
theorem dX11_annul_12 : decode cX11_annul 12 = .ok (.if_icmp .lt 6, 3) := by decide +kernel
theorem dX11_annul_15 : decode cX11_annul 15 = .ok (.bipush (-2), 2) := by decide +kernel
theorem dX11_annul_17 : decode cX11_annul 17 = .ok (.ireturn, 1) := by decide +kernel
theorem dX11_annul_18 : decode cX11_annul 18 = .ok (.aload_n 0, 1) := by decide +kernel
theorem dX11_annul_19 : decode cX11_annul 19 = .ok (.getfield 14, 3) := by decide +kernel
theorem dX11_annul_22 : decode cX11_annul 22 = .ok (.getfield 161, 3) := by decide +kernel
theorem dX11_annul_25 : decode cX11_annul 25 = .ok (.iload_n 1, 1) := by decide +kernel
theorem dX11_annul_26 : decode cX11_annul 26 = .ok (.aaload, 1) := by decide +kernel
theorem dX11_annul_27 : decode cX11_annul 27 = .ok (.getfield 183, 3) := by decide +kernel
theorem dX11_annul_30 : decode cX11_annul 30 = .ok (.iconst (-1), 1) := by decide +kernel
theorem dX11_annul_31 : decode cX11_annul 31 = .ok (.if_icmp .eq 6, 3) := by decide +kernel
theorem dX11_annul_34 : decode cX11_annul 34 = .ok (.bipush (-4), 2) := by decide +kernel
theorem dX11_annul_36 : decode cX11_annul 36 = .ok (.ireturn, 1) := by decide +kernel
theorem dX11_annul_37 : decode cX11_annul 37 = .ok (.aload_n 0, 1) := by decide +kernel
theorem dX11_annul_38 : decode cX11_annul 38 = .ok (.getfield 14, 3) := by decide +kernel
theorem dX11_annul_41 : decode cX11_annul 41 = .ok (.getfield 161, 3) := by decide +kernel
theorem dX11_annul_44 : decode cX11_annul 44 = .ok (.iload_n 1, 1) := by decide +kernel
theorem dX11_annul_45 : decode cX11_annul 45 = .ok (.aaload, 1) := by decide +kernel
theorem dX11_annul_46 : decode cX11_annul 46 = .ok (.aload_n 0, 1) := by decide +kernel
theorem dX11_annul_47 : decode cX11_annul 47 = .ok (.getfield 100, 3) := by decide +kernel
theorem dX11_annul_50 : decode cX11_annul 50 = .ok (.putfield 183, 3) := by decide +kernel
theorem dX11_annul_53 : decode cX11_annul 53 = .ok (.iconst 1, 1) := by decide +kernel
theorem dX11_annul_54 : decode cX11_annul 54 = .ok (.ireturn, 1) := by decide +kernel
theorem dX11_known_0 : decode cX11_known 0 = .ok (.aload_n 0, 1) := by decide +kernel
theorem dX11_known_1 : decode cX11_known 1 = .ok (.getfield 36, 3) := by decide +kernel
theorem dX11_known_4 : decode cX11_known 4 = .ok (.invokevirtual 151, 3) := by decide +kernel
theorem dX11_known_7 : decode cX11_known 7 = .ok (.lstore 4, 2) := by decide +kernel
theorem dX11_known_9 : decode cX11_known 9 = .ok (.iload_n 1, 1) := by decide +kernel
theorem dX11_known_10 : decode cX11_known 10 = .ok (.invokestatic 155, 3) := by decide +kernel
theorem dX11_known_13 : decode cX11_known 13 = .ok (.ifCond .ne 6, 3) := by decide +kernel
theorem dX11_known_16 : decode cX11_known 16 = .ok (.bipush (-2), 2) := by decide +kernel
theorem dX11_known_18 : decode cX11_known 18 = .ok (.ireturn, 1) := by decide +kernel
theorem dX11_known_19 : decode cX11_known 19 = .ok (.iload_n 2, 1) := by decide +kernel
theorem dX11_known_20 : decode cX11_known 20 = .ok (.invokestatic 96, 3) := by decide +kernel
theorem dX11_known_23 : decode cX11_known 23 = .ok (.ifCond .eq 11, 3) := by decide +kernel
theorem dX11_known_26 : decode cX11_known 26 = .ok (.aload_n 0, 1) := by decide +kernel
theorem dX11_known_27 : decode cX11_known 27 = .ok (.iload_n 3, 1) := by decide +kernel
theorem dX11_known_28 : decode cX11_known 28 = .ok (.invokevirtual 193, 3) := by decide +kernel
theorem dX11_known_31 : decode cX11_known 31 = .ok (.ifCond .ne 6, 3) := by decide +kernel
theorem dX11_known_34 : decode cX11_known 34 = .ok (.bipush (-3), 2) := by decide +kernel
theorem dX11_known_36 : decode cX11_known 36 = .ok (.ireturn, 1) := by decide +kernel
theorem dX11_known_37 : decode cX11_known 37 = .ok (.lload 4, 2) := by decide +kernel
theorem dX11_known_39 : decode cX11_known 39 = .ok (.lconst 0, 1) := by decide +kernel
theorem dX11_known_40 : decode cX11_known 40 = .ok (.lcmp, 1) := by decide +kernel
theorem dX11_known_41 : decode cX11_known 41 = .ok (.ifCond .ne 6, 3) := by decide +kernel
theorem dX11_known_44 : decode cX11_known 44 = .ok (.bipush (-4), 2) := by decide +kernel
theorem dX11_known_46 : decode cX11_known 46 = .ok (.ireturn, 1) := by decide +kernel
theorem dX11_known_47 : decode cX11_known 47 = .ok (.aload_n 0, 1) := by decide +kernel
theorem dX11_known_48 : decode cX11_known 48 = .ok (.getfield 14, 3) := by decide +kernel
theorem dX11_known_51 : decode cX11_known 51 = .ok (.iload_n 1, 1) := by decide +kernel
theorem dX11_known_52 : decode cX11_known 52 = .ok (.lload 4, 2) := by decide +kernel
theorem dX11_known_54 : decode cX11_known 54 = .ok (.iload_n 2, 1) := by decide +kernel
theorem dX11_known_55 : decode cX11_known 55 = .ok (.iload_n 3, 1) := by decide +kernel
theorem dX11_known_56 : decode cX11_known 56 = .ok (.invokevirtual 196, 3) := by decide +kernel
theorem dX11_known_59 : decode cX11_known 59 = .ok (.istore 6, 2) := by decide +kernel
theorem dX11_known_61 : decode cX11_known 61 = .ok (.iload 6, 2) := by decide +kernel
theorem dX11_known_63 : decode cX11_known 63 = .ok (.ifCond .lt 35, 3) := by decide +kernel
theorem dX11_known_66 : decode cX11_known 66 = .ok (.iload 6, 2) := by decide +kernel
theorem dX11_known_68 : decode cX11_known 68 = .ok (.aload_n 0, 1) := by decide +kernel
theorem dX11_known_69 : decode cX11_known 69 = .ok (.getfield 14, 3) := by decide +kernel
theorem dX11_known_72 : decode cX11_known 72 = .ok (.getfield 158, 3) := by decide +kernel
theorem dX11_known_75 : decode cX11_known 75 = .ok (.if_icmp .ge 23, 3) := by decide +kernel
theorem dX11_known_78 : decode cX11_known 78 = .ok (.aload_n 0, 1) := by decide +kernel
theorem dX11_known_79 : decode cX11_known 79 = .ok (.getfield 21, 3) := by decide +kernel
theorem dX11_known_82 : decode cX11_known 82 = .ok (.aload_n 0, 1) := by decide +kernel
theorem dX11_known_83 : decode cX11_known 83 = .ok (.getfield 14, 3) := by decide +kernel
theorem dX11_known_86 : decode cX11_known 86 = .ok (.getfield 161, 3) := by decide +kernel
theorem dX11_known_89 : decode cX11_known 89 = .ok (.iload 6, 2) := by decide +kernel
theorem dX11_known_91 : decode cX11_known 91 = .ok (.aaload, 1) := by decide +kernel
theorem dX11_known_92 : decode cX11_known 92 = .ok (.getfield 186, 3) := by decide +kernel
theorem dX11_known_95 : decode cX11_known 95 = .ok (.invokevirtual 189, 3) := by decide +kernel
theorem dX11_known_98 : decode cX11_known 98 = .ok (.iload 6, 2) := by decide +kernel
theorem dX11_known_100 : decode cX11_known 100 = .ok (.ireturn, 1) := by decide +kernel
theorem dX11_edition_0 : decode cX11_edition 0 = .ok (.aload_n 0, 1) := by decide +kernel
theorem dX11_edition_1 : decode cX11_edition 1 = .ok (.getfield 36, 3) := by decide +kernel
theorem dX11_edition_4 : decode cX11_edition 4 = .ok (.invokevirtual 200, 3) := by decide +kernel
theorem dX11_edition_7 : decode cX11_edition 7 = .ok (.iload_n 1, 1) := by decide +kernel
theorem dX11_edition_8 : decode cX11_edition 8 = .ok (.invokestatic 203, 3) := by decide +kernel
theorem dX11_edition_11 : decode cX11_edition 11 = .ok (.ifCond .ne 6, 3) := by decide +kernel
theorem dX11_edition_14 : decode cX11_edition 14 = .ok (.bipush (-2), 2) := by decide +kernel
theorem dX11_edition_16 : decode cX11_edition 16 = .ok (.ireturn, 1) := by decide +kernel
theorem dX11_edition_17 : decode cX11_edition 17 = .ok (.iload_n 2, 1) := by decide +kernel
theorem dX11_edition_18 : decode cX11_edition 18 = .ok (.invokestatic 96, 3) := by decide +kernel
theorem dX11_edition_21 : decode cX11_edition 21 = .ok (.ifCond .ne 6, 3) := by decide +kernel
theorem dX11_edition_24 : decode cX11_edition 24 = .ok (.bipush (-3), 2) := by decide +kernel
theorem dX11_edition_26 : decode cX11_edition 26 = .ok (.ireturn, 1) := by decide +kernel
theorem dX11_edition_27 : decode cX11_edition 27 = .ok (.aload_n 0, 1) := by decide +kernel
theorem dX11_edition_28 : decode cX11_edition 28 = .ok (.iload_n 1, 1) := by decide +kernel
theorem dX11_edition_29 : decode cX11_edition 29 = .ok (.iload_n 2, 1) := by decide +kernel
theorem dX11_edition_30 : decode cX11_edition 30 = .ok (.invokevirtual 206, 3) := by decide +kernel
theorem dX11_edition_33 : decode cX11_edition 33 = .ok (.istore_n 3, 1) := by decide +kernel
theorem dX11_edition_34 : decode cX11_edition 34 = .ok (.iload_n 3, 1) := by decide +kernel
theorem dX11_edition_35 : decode cX11_edition 35 = .ok (.ifCond .lt 12, 3) := by decide +kernel
theorem dX11_edition_38 : decode cX11_edition 38 = .ok (.iload_n 3, 1) := by decide +kernel
theorem dX11_edition_39 : decode cX11_edition 39 = .ok (.aload_n 0, 1) := by decide +kernel
theorem dX11_edition_40 : decode cX11_edition 40 = .ok (.getfield 39, 3) := by decide +kernel
theorem dX11_edition_43 : decode cX11_edition 43 = .ok (.arraylength, 1) := by decide +kernel
theorem dX11_edition_44 : decode cX11_edition 44 = .ok (.if_icmp .lt 6, 3) := by decide +kernel
theorem dX11_edition_47 : decode cX11_edition 47 = .ok (.bipush (-5), 2) := by decide +kernel
theorem dX11_edition_49 : decode cX11_edition 49 = .ok (.ireturn, 1) := by decide +kernel
theorem dX11_edition_50 : decode cX11_edition 50 = .ok (.aload_n 0, 1) := by decide +kernel
theorem dX11_edition_51 : decode cX11_edition 51 = .ok (.getfield 28, 3) := by decide +kernel
theorem dX11_edition_54 : decode cX11_edition 54 = .ok (.invokevirtual 210, 3) := by decide +kernel
theorem dX11_edition_57 : decode cX11_edition 57 = .ok (.aload_n 0, 1) := by decide +kernel
theorem dX11_edition_58 : decode cX11_edition 58 = .ok (.getfield 28, 3) := by decide +kernel
theorem dX11_edition_61 : decode cX11_edition 61 = .ok (.getfield 213, 3) := by decide +kernel
theorem dX11_edition_64 : decode cX11_edition 64 = .ok (.ifCond .eq 14, 3) := by decide +kernel
theorem dX11_edition_67 : decode cX11_edition 67 = .ok (.bipush (-10), 2) := by decide +kernel
theorem dX11_edition_69 : decode cX11_edition 69 = .ok (.aload_n 0, 1) := by decide +kernel
theorem dX11_edition_70 : decode cX11_edition 70 = .ok (.getfield 28, 3) := by decide +kernel
theorem dX11_edition_73 : decode cX11_edition 73 = .ok (.getfield 216, 3) := by decide +kernel
theorem dX11_edition_76 : decode cX11_edition 76 = .ok (.isub, 1) := by decide +kernel
theorem dX11_edition_77 : decode cX11_edition 77 = .ok (.ireturn, 1) := by decide +kernel
theorem dX11_edition_78 : decode cX11_edition 78 = .ok (.aload_n 0, 1) := by decide +kernel
theorem dX11_edition_79 : decode cX11_edition 79 = .ok (.getfield 28, 3) := by decide +kernel
theorem dX11_edition_82 : decode cX11_edition 82 = .ok (.getfield 219, 3) := by decide +kernel
theorem dX11_edition_85 : decode cX11_edition 85 = .ok (.astore 4, 2) := by decide +kernel
theorem dX11_edition_87 : decode cX11_edition 87 = .ok (.aload_n 0, 1) := by decide +kernel
theorem dX11_edition_88 : decode cX11_edition 88 = .ok (.getfield 28, 3) := by decide +kernel
theorem dX11_edition_91 : decode cX11_edition 91 = .ok (.aload_n 0, 1) := by decide +kernel
theorem dX11_edition_92 : decode cX11_edition 92 = .ok (.getfield 39, 3) := by decide +kernel
theorem dX11_edition_95 : decode cX11_edition 95 = .ok (.iload_n 3, 1) := by decide +kernel
theorem dX11_edition_96 : decode cX11_edition 96 = .ok (.aaload, 1) := by decide +kernel
theorem dX11_edition_97 : decode cX11_edition 97 = .ok (.putfield 219, 3) := by decide +kernel
theorem dX11_edition_100 : decode cX11_edition 100 = .ok (.aload_n 0, 1) := by decide +kernel
theorem dX11_edition_101 : decode cX11_edition 101 = .ok (.getfield 39, 3) := by decide +kernel
theorem dX11_edition_104 : decode cX11_edition 104 = .ok (.iload_n 3, 1) := by decide +kernel
theorem dX11_edition_105 : decode cX11_edition 105 = .ok (.aload 4, 2) := by decide +kernel
theorem dX11_edition_107 : decode cX11_edition 107 = .ok (.aastore, 1) := by decide +kernel
theorem dX11_edition_108 : decode cX11_edition 108 = .ok (.aload 4, 2) := by decide +kernel
theorem dX11_edition_110 : decode cX11_edition 110 = .ok (.iload_n 2, 1) := by decide +kernel
theorem dX11_edition_111 : decode cX11_edition 111 = .ok (.putfield 223, 3) := by decide +kernel
theorem dX11_edition_114 : decode cX11_edition 114 = .ok (.aload 4, 2) := by decide +kernel
theorem dX11_edition_116 : decode cX11_edition 116 = .ok (.getfield 226, 3) := by decide +kernel
theorem dX11_edition_119 : decode cX11_edition 119 = .ok (.ireturn, 1) := by decide +kernel
theorem dX11_fault_0 : decode cX11_fault 0 = .ok (.aload_n 0, 1) := by decide +kernel
theorem dX11_fault_1 : decode cX11_fault 1 = .ok (.getfield 28, 3) := by decide +kernel
theorem dX11_fault_4 : decode cX11_fault 4 = .ok (.getfield 213, 3) := by decide +kernel
theorem dX11_fault_7 : decode cX11_fault 7 = .ok (.ireturn, 1) := by decide +kernel
theorem dX11_inForce_0 : decode cX11_inForce 0 = .ok (.iload_n 1, 1) := by decide +kernel
theorem dX11_inForce_1 : decode cX11_inForce 1 = .ok (.invokestatic 203, 3) := by decide +kernel
theorem dX11_inForce_4 : decode cX11_inForce 4 = .ok (.ifCond .ne 6, 3) := by decide +kernel
theorem dX11_inForce_7 : decode cX11_inForce 7 = .ok (.bipush (-2), 2) := by decide +kernel
theorem dX11_inForce_9 : decode cX11_inForce 9 = .ok (.ireturn, 1) := by decide +kernel
theorem dX11_inForce_10 : decode cX11_inForce 10 = .ok (.iload_n 2, 1) := by decide +kernel
theorem dX11_inForce_11 : decode cX11_inForce 11 = .ok (.invokestatic 96, 3) := by decide +kernel
theorem dX11_inForce_14 : decode cX11_inForce 14 = .ok (.ifCond .ne 6, 3) := by decide +kernel
theorem dX11_inForce_17 : decode cX11_inForce 17 = .ok (.bipush (-3), 2) := by decide +kernel
theorem dX11_inForce_19 : decode cX11_inForce 19 = .ok (.ireturn, 1) := by decide +kernel
theorem dX11_inForce_20 : decode cX11_inForce 20 = .ok (.aload_n 0, 1) := by decide +kernel
theorem dX11_inForce_21 : decode cX11_inForce 21 = .ok (.iload_n 1, 1) := by decide +kernel
theorem dX11_inForce_22 : decode cX11_inForce 22 = .ok (.iload_n 2, 1) := by decide +kernel
theorem dX11_inForce_23 : decode cX11_inForce 23 = .ok (.invokevirtual 229, 3) := by decide +kernel
theorem dX11_inForce_26 : decode cX11_inForce 26 = .ok (.astore_n 3, 1) := by decide +kernel
theorem dX11_inForce_27 : decode cX11_inForce 27 = .ok (.aload_n 3, 1) := by decide +kernel
theorem dX11_inForce_28 : decode cX11_inForce 28 = .ok (.ifnonnull 7, 3) := by decide +kernel
theorem dX11_inForce_31 : decode cX11_inForce 31 = .ok (.iconst (-1), 1) := by decide +kernel
theorem dX11_inForce_32 : decode cX11_inForce 32 = .ok (.goto 7, 3) := by decide +kernel
theorem dX11_inForce_35 : decode cX11_inForce 35 = .ok (.aload_n 3, 1) := by decide +kernel
theorem dX11_inForce_36 : decode cX11_inForce 36 = .ok (.getfield 223, 3) := by decide +kernel
theorem dX11_inForce_39 : decode cX11_inForce 39 = .ok (.ireturn, 1) := by decide +kernel
theorem dX11_figure_0 : decode cX11_figure 0 = .ok (.aload_n 0, 1) := by decide +kernel
theorem dX11_figure_1 : decode cX11_figure 1 = .ok (.getfield 36, 3) := by decide +kernel
theorem dX11_figure_4 : decode cX11_figure 4 = .ok (.invokevirtual 151, 3) := by decide +kernel
theorem dX11_figure_7 : decode cX11_figure 7 = .ok (.lstore 5, 2) := by decide +kernel
theorem dX11_figure_9 : decode cX11_figure 9 = .ok (.iload_n 1, 1) := by decide +kernel
theorem dX11_figure_10 : decode cX11_figure 10 = .ok (.invokestatic 155, 3) := by decide +kernel
theorem dX11_figure_13 : decode cX11_figure 13 = .ok (.ifCond .eq 10, 3) := by decide +kernel
theorem dX11_figure_16 : decode cX11_figure 16 = .ok (.iload_n 2, 1) := by decide +kernel
theorem dX11_figure_17 : decode cX11_figure 17 = .ok (.invokestatic 203, 3) := by decide +kernel
theorem dX11_figure_20 : decode cX11_figure 20 = .ok (.ifCond .ne 6, 3) := by decide +kernel
theorem dX11_figure_23 : decode cX11_figure 23 = .ok (.bipush (-2), 2) := by decide +kernel
theorem dX11_figure_25 : decode cX11_figure 25 = .ok (.ireturn, 1) := by decide +kernel
theorem dX11_figure_26 : decode cX11_figure 26 = .ok (.iload_n 3, 1) := by decide +kernel
theorem dX11_figure_27 : decode cX11_figure 27 = .ok (.invokestatic 96, 3) := by decide +kernel
theorem dX11_figure_30 : decode cX11_figure 30 = .ok (.ifCond .eq 12, 3) := by decide +kernel
theorem dX11_figure_33 : decode cX11_figure 33 = .ok (.aload_n 0, 1) := by decide +kernel
theorem dX11_figure_34 : decode cX11_figure 34 = .ok (.iload 4, 2) := by decide +kernel
theorem dX11_figure_36 : decode cX11_figure 36 = .ok (.invokevirtual 193, 3) := by decide +kernel
theorem dX11_figure_39 : decode cX11_figure 39 = .ok (.ifCond .ne 6, 3) := by decide +kernel
theorem dX11_figure_42 : decode cX11_figure 42 = .ok (.bipush (-3), 2) := by decide +kernel
theorem dX11_figure_44 : decode cX11_figure 44 = .ok (.ireturn, 1) := by decide +kernel
theorem dX11_figure_45 : decode cX11_figure 45 = .ok (.aload_n 0, 1) := by decide +kernel
theorem dX11_figure_46 : decode cX11_figure 46 = .ok (.iload_n 2, 1) := by decide +kernel
theorem dX11_figure_47 : decode cX11_figure 47 = .ok (.iload_n 3, 1) := by decide +kernel
theorem dX11_figure_48 : decode cX11_figure 48 = .ok (.invokevirtual 229, 3) := by decide +kernel
theorem dX11_figure_51 : decode cX11_figure 51 = .ok (.astore 7, 2) := by decide +kernel
theorem dX11_figure_53 : decode cX11_figure 53 = .ok (.lload 5, 2) := by decide +kernel
theorem dX11_figure_55 : decode cX11_figure 55 = .ok (.lconst 0, 1) := by decide +kernel
theorem dX11_figure_56 : decode cX11_figure 56 = .ok (.lcmp, 1) := by decide +kernel
theorem dX11_figure_57 : decode cX11_figure 57 = .ok (.ifCond .eq 19, 3) := by decide +kernel
theorem dX11_figure_60 : decode cX11_figure 60 = .ok (.aload 7, 2) := by decide +kernel
theorem dX11_figure_62 : decode cX11_figure 62 = .ok (.ifnull 14, 3) := by decide +kernel
theorem dX11_figure_65 : decode cX11_figure 65 = .ok (.aload 7, 2) := by decide +kernel
theorem dX11_figure_67 : decode cX11_figure 67 = .ok (.lload 5, 2) := by decide +kernel
theorem dX11_figure_69 : decode cX11_figure 69 = .ok (.invokevirtual 233, 3) := by decide +kernel
theorem dX11_figure_72 : decode cX11_figure 72 = .ok (.iconst (-1), 1) := by decide +kernel
theorem dX11_figure_73 : decode cX11_figure 73 = .ok (.if_icmp .ne 6, 3) := by decide +kernel
theorem dX11_figure_76 : decode cX11_figure 76 = .ok (.bipush (-4), 2) := by decide +kernel
theorem dX11_figure_78 : decode cX11_figure 78 = .ok (.ireturn, 1) := by decide +kernel
theorem dX11_figure_79 : decode cX11_figure 79 = .ok (.aload_n 0, 1) := by decide +kernel
theorem dX11_figure_80 : decode cX11_figure 80 = .ok (.getfield 49, 3) := by decide +kernel
theorem dX11_figure_83 : decode cX11_figure 83 = .ok (.aload_n 0, 1) := by decide +kernel
theorem dX11_figure_84 : decode cX11_figure 84 = .ok (.getfield 56, 3) := by decide +kernel
theorem dX11_figure_87 : decode cX11_figure 87 = .ok (.aload 7, 2) := by decide +kernel
theorem dX11_figure_89 : decode cX11_figure 89 = .ok (.lload 5, 2) := by decide +kernel
theorem dX11_figure_91 : decode cX11_figure 91 = .ok (.iload_n 1, 1) := by decide +kernel
theorem dX11_figure_92 : decode cX11_figure 92 = .ok (.iload_n 3, 1) := by decide +kernel
theorem dX11_figure_93 : decode cX11_figure 93 = .ok (.iload 4, 2) := by decide +kernel
theorem dX11_figure_95 : decode cX11_figure 95 = .ok (.invokevirtual 237, 3) := by decide +kernel
theorem dX11_figure_98 : decode cX11_figure 98 = .ok (.aload_n 0, 1) := by decide +kernel
theorem dX11_figure_99 : decode cX11_figure 99 = .ok (.getfield 56, 3) := by decide +kernel
theorem dX11_figure_102 : decode cX11_figure 102 = .ok (.getfield 241, 3) := by decide +kernel
theorem dX11_figure_105 : decode cX11_figure 105 = .ok (.ifCond .ne 25, 3) := by decide +kernel
theorem dX11_figure_108 : decode cX11_figure 108 = .ok (.aload_n 0, 1) := by decide +kernel
theorem dX11_figure_109 : decode cX11_figure 109 = .ok (.getfield 21, 3) := by decide +kernel
theorem dX11_figure_112 : decode cX11_figure 112 = .ok (.aload_n 0, 1) := by decide +kernel
theorem dX11_figure_113 : decode cX11_figure 113 = .ok (.getfield 56, 3) := by decide +kernel
theorem dX11_figure_116 : decode cX11_figure 116 = .ok (.getfield 244, 3) := by decide +kernel
theorem dX11_figure_119 : decode cX11_figure 119 = .ok (.aload_n 0, 1) := by decide +kernel
theorem dX11_figure_120 : decode cX11_figure 120 = .ok (.getfield 56, 3) := by decide +kernel
theorem dX11_figure_123 : decode cX11_figure 123 = .ok (.getfield 248, 3) := by decide +kernel
theorem dX11_figure_126 : decode cX11_figure 126 = .ok (.aaload, 1) := by decide +kernel
theorem dX11_figure_127 : decode cX11_figure 127 = .ok (.invokevirtual 189, 3) := by decide +kernel
theorem dX11_figure_130 : decode cX11_figure 130 = .ok (.aload_n 0, 1) := by decide +kernel
theorem dX11_figure_131 : decode cX11_figure 131 = .ok (.getfield 56, 3) := by decide +kernel
theorem dX11_figure_134 : decode cX11_figure 134 = .ok (.getfield 241, 3) := by decide +kernel
theorem dX11_figure_137 : decode cX11_figure 137 = .ok (.ireturn, 1) := by decide +kernel
theorem dX11_told_0 : decode cX11_told 0 = .ok (.iload_n 1, 1) := by decide +kernel
theorem dX11_told_1 : decode cX11_told 1 = .ok (.tableswitch 75 0 4 #[35, 43, 51, 59, 67], 35) := by decide +kernel
theorem dX11_told_36 : decode cX11_told 36 = .ok (.aload_n 0, 1) := by decide +kernel
theorem dX11_told_37 : decode cX11_told 37 = .ok (.getfield 56, 3) := by decide +kernel
theorem dX11_told_40 : decode cX11_told 40 = .ok (.getfield 251, 3) := by decide +kernel
theorem dX11_told_43 : decode cX11_told 43 = .ok (.ireturn, 1) := by decide +kernel
theorem dX11_told_44 : decode cX11_told 44 = .ok (.aload_n 0, 1) := by decide +kernel
theorem dX11_told_45 : decode cX11_told 45 = .ok (.getfield 56, 3) := by decide +kernel
theorem dX11_told_48 : decode cX11_told 48 = .ok (.getfield 254, 3) := by decide +kernel
theorem dX11_told_51 : decode cX11_told 51 = .ok (.ireturn, 1) := by decide +kernel
theorem dX11_told_52 : decode cX11_told 52 = .ok (.aload_n 0, 1) := by decide +kernel
theorem dX11_told_53 : decode cX11_told 53 = .ok (.getfield 56, 3) := by decide +kernel
theorem dX11_told_56 : decode cX11_told 56 = .ok (.getfield 256, 3) := by decide +kernel
theorem dX11_told_59 : decode cX11_told 59 = .ok (.ireturn, 1) := by decide +kernel
theorem dX11_told_60 : decode cX11_told 60 = .ok (.aload_n 0, 1) := by decide +kernel
theorem dX11_told_61 : decode cX11_told 61 = .ok (.getfield 56, 3) := by decide +kernel
theorem dX11_told_64 : decode cX11_told 64 = .ok (.getfield 259, 3) := by decide +kernel
theorem dX11_told_67 : decode cX11_told 67 = .ok (.ireturn, 1) := by decide +kernel
theorem dX11_told_68 : decode cX11_told 68 = .ok (.aload_n 0, 1) := by decide +kernel
theorem dX11_told_69 : decode cX11_told 69 = .ok (.getfield 56, 3) := by decide +kernel
theorem dX11_told_72 : decode cX11_told 72 = .ok (.getfield 262, 3) := by decide +kernel
theorem dX11_told_75 : decode cX11_told 75 = .ok (.ireturn, 1) := by decide +kernel
theorem dX11_told_76 : decode cX11_told 76 = .ok (.bipush (-3), 2) := by decide +kernel
theorem dX11_told_78 : decode cX11_told 78 = .ok (.ireturn, 1) := by decide +kernel
theorem dX11_step_0 : decode cX11_step 0 = .ok (.iload_n 1, 1) := by decide +kernel
theorem dX11_step_1 : decode cX11_step 1 = .ok (.ifCond .lt 14, 3) := by decide +kernel
theorem dX11_step_4 : decode cX11_step 4 = .ok (.iload_n 1, 1) := by decide +kernel
theorem dX11_step_5 : decode cX11_step 5 = .ok (.aload_n 0, 1) := by decide +kernel
theorem dX11_step_6 : decode cX11_step 6 = .ok (.getfield 56, 3) := by decide +kernel
theorem dX11_step_9 : decode cX11_step 9 = .ok (.getfield 256, 3) := by decide +kernel
theorem dX11_step_12 : decode cX11_step 12 = .ok (.if_icmp .lt 6, 3) := by decide +kernel
theorem dX11_step_15 : decode cX11_step 15 = .ok (.bipush (-2), 2) := by decide +kernel
theorem dX11_step_17 : decode cX11_step 17 = .ok (.ireturn, 1) := by decide +kernel
theorem dX11_step_18 : decode cX11_step 18 = .ok (.aload_n 0, 1) := by decide +kernel
theorem dX11_step_19 : decode cX11_step 19 = .ok (.getfield 56, 3) := by decide +kernel
theorem dX11_step_22 : decode cX11_step 22 = .ok (.getfield 265, 3) := by decide +kernel
theorem dX11_step_25 : decode cX11_step 25 = .ok (.iload_n 1, 1) := by decide +kernel
theorem dX11_step_26 : decode cX11_step 26 = .ok (.iaload, 1) := by decide +kernel
theorem dX11_step_27 : decode cX11_step 27 = .ok (.istore_n 2, 1) := by decide +kernel
theorem dX11_step_28 : decode cX11_step 28 = .ok (.aload_n 0, 1) := by decide +kernel
theorem dX11_step_29 : decode cX11_step 29 = .ok (.getfield 56, 3) := by decide +kernel
theorem dX11_step_32 : decode cX11_step 32 = .ok (.getfield 268, 3) := by decide +kernel
theorem dX11_step_35 : decode cX11_step 35 = .ok (.iload_n 2, 1) := by decide +kernel
theorem dX11_step_36 : decode cX11_step 36 = .ok (.iaload, 1) := by decide +kernel
theorem dX11_step_37 : decode cX11_step 37 = .ok (.istore_n 3, 1) := by decide +kernel
theorem dX11_step_38 : decode cX11_step 38 = .ok (.iload_n 3, 1) := by decide +kernel
theorem dX11_step_39 : decode cX11_step 39 = .ok (.ifCond .ne 19, 3) := by decide +kernel
theorem dX11_step_42 : decode cX11_step 42 = .ok (.aload_n 0, 1) := by decide +kernel
theorem dX11_step_43 : decode cX11_step 43 = .ok (.getfield 21, 3) := by decide +kernel
theorem dX11_step_46 : decode cX11_step 46 = .ok (.aload_n 0, 1) := by decide +kernel
theorem dX11_step_47 : decode cX11_step 47 = .ok (.getfield 56, 3) := by decide +kernel
theorem dX11_step_50 : decode cX11_step 50 = .ok (.getfield 244, 3) := by decide +kernel
theorem dX11_step_53 : decode cX11_step 53 = .ok (.iload_n 2, 1) := by decide +kernel
theorem dX11_step_54 : decode cX11_step 54 = .ok (.aaload, 1) := by decide +kernel
theorem dX11_step_55 : decode cX11_step 55 = .ok (.invokevirtual 189, 3) := by decide +kernel
theorem dX11_step_58 : decode cX11_step 58 = .ok (.bipush 100, 2) := by decide +kernel
theorem dX11_step_60 : decode cX11_step 60 = .ok (.iload_n 2, 1) := by decide +kernel
theorem dX11_step_61 : decode cX11_step 61 = .ok (.imul, 1) := by decide +kernel
theorem dX11_step_62 : decode cX11_step 62 = .ok (.iload_n 3, 1) := by decide +kernel
theorem dX11_step_63 : decode cX11_step 63 = .ok (.iadd, 1) := by decide +kernel
theorem dX11_step_64 : decode cX11_step 64 = .ok (.ireturn, 1) := by decide +kernel
theorem dX11_trial_0 : decode cX11_trial 0 = .ok (.aload_n 0, 1) := by decide +kernel
theorem dX11_trial_1 : decode cX11_trial 1 = .ok (.getfield 36, 3) := by decide +kernel
theorem dX11_trial_4 : decode cX11_trial 4 = .ok (.invokevirtual 200, 3) := by decide +kernel
theorem dX11_trial_7 : decode cX11_trial 7 = .ok (.iload_n 1, 1) := by decide +kernel
theorem dX11_trial_8 : decode cX11_trial 8 = .ok (.invokestatic 203, 3) := by decide +kernel
theorem dX11_trial_11 : decode cX11_trial 11 = .ok (.ifCond .ne 6, 3) := by decide +kernel
theorem dX11_trial_14 : decode cX11_trial 14 = .ok (.bipush (-2), 2) := by decide +kernel
theorem dX11_trial_16 : decode cX11_trial 16 = .ok (.ireturn, 1) := by decide +kernel
theorem dX11_trial_17 : decode cX11_trial 17 = .ok (.iload_n 2, 1) := by decide +kernel
theorem dX11_trial_18 : decode cX11_trial 18 = .ok (.invokestatic 96, 3) := by decide +kernel
theorem dX11_trial_21 : decode cX11_trial 21 = .ok (.ifCond .eq 11, 3) := by decide +kernel
theorem dX11_trial_24 : decode cX11_trial 24 = .ok (.aload_n 0, 1) := by decide +kernel
theorem dX11_trial_25 : decode cX11_trial 25 = .ok (.iload_n 3, 1) := by decide +kernel
theorem dX11_trial_26 : decode cX11_trial 26 = .ok (.invokevirtual 193, 3) := by decide +kernel
theorem dX11_trial_29 : decode cX11_trial 29 = .ok (.ifCond .ne 6, 3) := by decide +kernel
theorem dX11_trial_32 : decode cX11_trial 32 = .ok (.bipush (-3), 2) := by decide +kernel
theorem dX11_trial_34 : decode cX11_trial 34 = .ok (.ireturn, 1) := by decide +kernel
theorem dX11_trial_35 : decode cX11_trial 35 = .ok (.aload_n 0, 1) := by decide +kernel
theorem dX11_trial_36 : decode cX11_trial 36 = .ok (.getfield 28, 3) := by decide +kernel
theorem dX11_trial_39 : decode cX11_trial 39 = .ok (.invokevirtual 210, 3) := by decide +kernel
theorem dX11_trial_42 : decode cX11_trial 42 = .ok (.aload_n 0, 1) := by decide +kernel
theorem dX11_trial_43 : decode cX11_trial 43 = .ok (.getfield 28, 3) := by decide +kernel
theorem dX11_trial_46 : decode cX11_trial 46 = .ok (.getfield 213, 3) := by decide +kernel
theorem dX11_trial_49 : decode cX11_trial 49 = .ok (.ifCond .eq 14, 3) := by decide +kernel
theorem dX11_trial_52 : decode cX11_trial 52 = .ok (.bipush (-10), 2) := by decide +kernel
theorem dX11_trial_54 : decode cX11_trial 54 = .ok (.aload_n 0, 1) := by decide +kernel
theorem dX11_trial_55 : decode cX11_trial 55 = .ok (.getfield 28, 3) := by decide +kernel
theorem dX11_trial_58 : decode cX11_trial 58 = .ok (.getfield 216, 3) := by decide +kernel
theorem dX11_trial_61 : decode cX11_trial 61 = .ok (.isub, 1) := by decide +kernel
theorem dX11_trial_62 : decode cX11_trial 62 = .ok (.ireturn, 1) := by decide +kernel
theorem dX11_trial_63 : decode cX11_trial 63 = .ok (.aload_n 0, 1) := by decide +kernel
theorem dX11_trial_64 : decode cX11_trial 64 = .ok (.iload_n 1, 1) := by decide +kernel
theorem dX11_trial_65 : decode cX11_trial 65 = .ok (.iload_n 2, 1) := by decide +kernel
theorem dX11_trial_66 : decode cX11_trial 66 = .ok (.invokevirtual 229, 3) := by decide +kernel
theorem dX11_trial_69 : decode cX11_trial 69 = .ok (.astore 4, 2) := by decide +kernel
theorem dX11_trial_71 : decode cX11_trial 71 = .ok (.iconst 0, 1) := by decide +kernel
theorem dX11_trial_72 : decode cX11_trial 72 = .ok (.istore 5, 2) := by decide +kernel
theorem dX11_trial_74 : decode cX11_trial 74 = .ok (.iconst 0, 1) := by decide +kernel
theorem dX11_trial_75 : decode cX11_trial 75 = .ok (.istore 6, 2) := by decide +kernel
theorem dX11_trial_77 : decode cX11_trial 77 = .ok (.iload 6, 2) := by decide +kernel
theorem dX11_trial_79 : decode cX11_trial 79 = .ok (.bipush 10, 2) := by decide +kernel
theorem dX11_trial_81 : decode cX11_trial 81 = .ok (.if_icmp .ge 77, 3) := by decide +kernel
theorem dX11_trial_84 : decode cX11_trial 84 = .ok (.aload_n 0, 1) := by decide +kernel
theorem dX11_trial_85 : decode cX11_trial 85 = .ok (.getfield 49, 3) := by decide +kernel
theorem dX11_trial_88 : decode cX11_trial 88 = .ok (.aload_n 0, 1) := by decide +kernel
theorem dX11_trial_89 : decode cX11_trial 89 = .ok (.getfield 60, 3) := by decide +kernel
theorem dX11_trial_92 : decode cX11_trial 92 = .ok (.aload_n 0, 1) := by decide +kernel
theorem dX11_trial_93 : decode cX11_trial 93 = .ok (.getfield 28, 3) := by decide +kernel
theorem dX11_trial_96 : decode cX11_trial 96 = .ok (.getfield 219, 3) := by decide +kernel
theorem dX11_trial_99 : decode cX11_trial 99 = .ok (.ldc2_w 271, 3) := by decide +kernel
theorem dX11_trial_102 : decode cX11_trial 102 = .ok (.iload 6, 2) := by decide +kernel
theorem dX11_trial_104 : decode cX11_trial 104 = .ok (.iload_n 2, 1) := by decide +kernel
theorem dX11_trial_105 : decode cX11_trial 105 = .ok (.iload_n 3, 1) := by decide +kernel
theorem dX11_trial_106 : decode cX11_trial 106 = .ok (.invokevirtual 237, 3) := by decide +kernel
theorem dX11_trial_109 : decode cX11_trial 109 = .ok (.aload_n 0, 1) := by decide +kernel
theorem dX11_trial_110 : decode cX11_trial 110 = .ok (.getfield 49, 3) := by decide +kernel
theorem dX11_trial_113 : decode cX11_trial 113 = .ok (.aload_n 0, 1) := by decide +kernel
theorem dX11_trial_114 : decode cX11_trial 114 = .ok (.getfield 63, 3) := by decide +kernel
theorem dX11_trial_117 : decode cX11_trial 117 = .ok (.aload 4, 2) := by decide +kernel
theorem dX11_trial_119 : decode cX11_trial 119 = .ok (.ldc2_w 271, 3) := by decide +kernel
theorem dX11_trial_122 : decode cX11_trial 122 = .ok (.iload 6, 2) := by decide +kernel
theorem dX11_trial_124 : decode cX11_trial 124 = .ok (.iload_n 2, 1) := by decide +kernel
theorem dX11_trial_125 : decode cX11_trial 125 = .ok (.iload_n 3, 1) := by decide +kernel
theorem dX11_trial_126 : decode cX11_trial 126 = .ok (.invokevirtual 237, 3) := by decide +kernel
theorem dX11_trial_129 : decode cX11_trial 129 = .ok (.aload_n 0, 1) := by decide +kernel
theorem dX11_trial_130 : decode cX11_trial 130 = .ok (.getfield 60, 3) := by decide +kernel
theorem dX11_trial_133 : decode cX11_trial 133 = .ok (.aload_n 0, 1) := by decide +kernel
theorem dX11_trial_134 : decode cX11_trial 134 = .ok (.getfield 63, 3) := by decide +kernel
theorem dX11_trial_137 : decode cX11_trial 137 = .ok (.invokevirtual 273, 3) := by decide +kernel
theorem dX11_trial_140 : decode cX11_trial 140 = .ok (.ifCond .ne 12, 3) := by decide +kernel
theorem dX11_trial_143 : decode cX11_trial 143 = .ok (.iload 5, 2) := by decide +kernel
theorem dX11_trial_145 : decode cX11_trial 145 = .ok (.iconst 1, 1) := by decide +kernel
theorem dX11_trial_146 : decode cX11_trial 146 = .ok (.iload 6, 2) := by decide +kernel
theorem dX11_trial_148 : decode cX11_trial 148 = .ok (.ishl, 1) := by decide +kernel
theorem dX11_trial_149 : decode cX11_trial 149 = .ok (.ior, 1) := by decide +kernel
theorem dX11_trial_150 : decode cX11_trial 150 = .ok (.istore 5, 2) := by decide +kernel
theorem dX11_trial_152 : decode cX11_trial 152 = .ok (.iinc 6 1, 3) := by decide +kernel
theorem dX11_trial_155 : decode cX11_trial 155 = .ok (.goto (-78), 3) := by decide +kernel
theorem dX11_trial_158 : decode cX11_trial 158 = .ok (.iload 5, 2) := by decide +kernel
theorem dX11_trial_160 : decode cX11_trial 160 = .ok (.ireturn, 1) := by decide +kernel
theorem dX11_award_0 : decode cX11_award 0 = .ok (.iload_n 1, 1) := by decide +kernel
theorem dX11_award_1 : decode cX11_award 1 = .ok (.invokestatic 155, 3) := by decide +kernel
theorem dX11_award_4 : decode cX11_award 4 = .ok (.ifCond .eq 10, 3) := by decide +kernel
theorem dX11_award_7 : decode cX11_award 7 = .ok (.iload_n 2, 1) := by decide +kernel
theorem dX11_award_8 : decode cX11_award 8 = .ok (.invokestatic 203, 3) := by decide +kernel
theorem dX11_award_11 : decode cX11_award 11 = .ok (.ifCond .ne 6, 3) := by decide +kernel
theorem dX11_award_14 : decode cX11_award 14 = .ok (.bipush (-2), 2) := by decide +kernel
theorem dX11_award_16 : decode cX11_award 16 = .ok (.ireturn, 1) := by decide +kernel
theorem dX11_award_17 : decode cX11_award 17 = .ok (.iload_n 3, 1) := by decide +kernel
theorem dX11_award_18 : decode cX11_award 18 = .ok (.invokestatic 277, 3) := by decide +kernel
theorem dX11_award_21 : decode cX11_award 21 = .ok (.ifCond .ne 6, 3) := by decide +kernel
theorem dX11_award_24 : decode cX11_award 24 = .ok (.bipush (-3), 2) := by decide +kernel
theorem dX11_award_26 : decode cX11_award 26 = .ok (.ireturn, 1) := by decide +kernel
theorem dX11_award_27 : decode cX11_award 27 = .ok (.iconst 0, 1) := by decide +kernel
theorem dX11_award_28 : decode cX11_award 28 = .ok (.istore 4, 2) := by decide +kernel
theorem dX11_award_30 : decode cX11_award 30 = .ok (.iload 4, 2) := by decide +kernel
theorem dX11_award_32 : decode cX11_award 32 = .ok (.aload_n 0, 1) := by decide +kernel
theorem dX11_award_33 : decode cX11_award 33 = .ok (.getfield 280, 3) := by decide +kernel
theorem dX11_award_36 : decode cX11_award 36 = .ok (.if_icmp .ge 40, 3) := by decide +kernel
theorem dX11_award_39 : decode cX11_award 39 = .ok (.aload_n 0, 1) := by decide +kernel
theorem dX11_award_40 : decode cX11_award 40 = .ok (.getfield 66, 3) := by decide +kernel
theorem dX11_award_43 : decode cX11_award 43 = .ok (.iload 4, 2) := by decide +kernel
theorem dX11_award_45 : decode cX11_award 45 = .ok (.aaload, 1) := by decide +kernel
theorem dX11_award_46 : decode cX11_award 46 = .ok (.getfield 283, 3) := by decide +kernel
theorem dX11_award_49 : decode cX11_award 49 = .ok (.iload_n 1, 1) := by decide +kernel
theorem dX11_award_50 : decode cX11_award 50 = .ok (.if_icmp .ne 20, 3) := by decide +kernel
theorem dX11_award_53 : decode cX11_award 53 = .ok (.aload_n 0, 1) := by decide +kernel
theorem dX11_award_54 : decode cX11_award 54 = .ok (.getfield 66, 3) := by decide +kernel
theorem dX11_award_57 : decode cX11_award 57 = .ok (.iload 4, 2) := by decide +kernel
theorem dX11_award_59 : decode cX11_award 59 = .ok (.aaload, 1) := by decide +kernel
theorem dX11_award_60 : decode cX11_award 60 = .ok (.getfield 284, 3) := by decide +kernel
theorem dX11_award_63 : decode cX11_award 63 = .ok (.iload_n 2, 1) := by decide +kernel
theorem dX11_award_64 : decode cX11_award 64 = .ok (.if_icmp .ne 6, 3) := by decide +kernel
theorem dX11_award_67 : decode cX11_award 67 = .ok (.bipush (-4), 2) := by decide +kernel
theorem dX11_award_69 : decode cX11_award 69 = .ok (.ireturn, 1) := by decide +kernel
theorem dX11_award_70 : decode cX11_award 70 = .ok (.iinc 4 1, 3) := by decide +kernel
theorem dX11_award_73 : decode cX11_award 73 = .ok (.goto (-43), 3) := by decide +kernel
theorem dX11_award_76 : decode cX11_award 76 = .ok (.aload_n 0, 1) := by decide +kernel
theorem dX11_award_77 : decode cX11_award 77 = .ok (.getfield 280, 3) := by decide +kernel
theorem dX11_award_80 : decode cX11_award 80 = .ok (.bipush 6, 2) := by decide +kernel
theorem dX11_award_82 : decode cX11_award 82 = .ok (.if_icmp .ne 6, 3) := by decide +kernel
theorem dX11_award_85 : decode cX11_award 85 = .ok (.bipush (-5), 2) := by decide +kernel
theorem dX11_award_87 : decode cX11_award 87 = .ok (.ireturn, 1) := by decide +kernel
theorem dX11_award_88 : decode cX11_award 88 = .ok (.aload_n 0, 1) := by decide +kernel
theorem dX11_award_89 : decode cX11_award 89 = .ok (.getfield 66, 3) := by decide +kernel
theorem dX11_award_92 : decode cX11_award 92 = .ok (.aload_n 0, 1) := by decide +kernel
theorem dX11_award_93 : decode cX11_award 93 = .ok (.getfield 280, 3) := by decide +kernel
theorem dX11_award_96 : decode cX11_award 96 = .ok (.aaload, 1) := by decide +kernel
theorem dX11_award_97 : decode cX11_award 97 = .ok (.iload_n 1, 1) := by decide +kernel
theorem dX11_award_98 : decode cX11_award 98 = .ok (.putfield 283, 3) := by decide +kernel
theorem dX11_award_101 : decode cX11_award 101 = .ok (.aload_n 0, 1) := by decide +kernel
theorem dX11_award_102 : decode cX11_award 102 = .ok (.getfield 66, 3) := by decide +kernel
theorem dX11_award_105 : decode cX11_award 105 = .ok (.aload_n 0, 1) := by decide +kernel
theorem dX11_award_106 : decode cX11_award 106 = .ok (.getfield 280, 3) := by decide +kernel
theorem dX11_award_109 : decode cX11_award 109 = .ok (.aaload, 1) := by decide +kernel
theorem dX11_award_110 : decode cX11_award 110 = .ok (.iload_n 2, 1) := by decide +kernel
theorem dX11_award_111 : decode cX11_award 111 = .ok (.putfield 284, 3) := by decide +kernel
theorem dX11_award_114 : decode cX11_award 114 = .ok (.aload_n 0, 1) := by decide +kernel
theorem dX11_award_115 : decode cX11_award 115 = .ok (.getfield 66, 3) := by decide +kernel
theorem dX11_award_118 : decode cX11_award 118 = .ok (.aload_n 0, 1) := by decide +kernel
theorem dX11_award_119 : decode cX11_award 119 = .ok (.getfield 280, 3) := by decide +kernel
theorem dX11_award_122 : decode cX11_award 122 = .ok (.aaload, 1) := by decide +kernel
theorem dX11_award_123 : decode cX11_award 123 = .ok (.iload_n 3, 1) := by decide +kernel
theorem dX11_award_124 : decode cX11_award 124 = .ok (.putfield 287, 3) := by decide +kernel
theorem dX11_award_127 : decode cX11_award 127 = .ok (.aload_n 0, 1) := by decide +kernel
theorem dX11_award_128 : decode cX11_award 128 = .ok (.dup, 1) := by decide +kernel
theorem dX11_award_129 : decode cX11_award 129 = .ok (.getfield 280, 3) := by decide +kernel
theorem dX11_award_132 : decode cX11_award 132 = .ok (.dup_x1, 1) := by decide +kernel
theorem dX11_award_133 : decode cX11_award 133 = .ok (.iconst 1, 1) := by decide +kernel
theorem dX11_award_134 : decode cX11_award 134 = .ok (.iadd, 1) := by decide +kernel
theorem dX11_award_135 : decode cX11_award 135 = .ok (.putfield 280, 3) := by decide +kernel
theorem dX11_award_138 : decode cX11_award 138 = .ok (.ireturn, 1) := by decide +kernel
theorem dX11_due_0 : decode cX11_due 0 = .ok (.aload_n 0, 1) := by decide +kernel
theorem dX11_due_1 : decode cX11_due 1 = .ok (.iload_n 1, 1) := by decide +kernel
theorem dX11_due_2 : decode cX11_due 2 = .ok (.invokevirtual 288, 3) := by decide +kernel
theorem dX11_due_5 : decode cX11_due 5 = .ok (.ifCond .ne 6, 3) := by decide +kernel
theorem dX11_due_8 : decode cX11_due 8 = .ok (.bipush (-2), 2) := by decide +kernel
theorem dX11_due_10 : decode cX11_due 10 = .ok (.ireturn, 1) := by decide +kernel
theorem dX11_due_11 : decode cX11_due 11 = .ok (.iload_n 2, 1) := by decide +kernel
theorem dX11_due_12 : decode cX11_due 12 = .ok (.invokestatic 277, 3) := by decide +kernel
theorem dX11_due_15 : decode cX11_due 15 = .ok (.ifCond .eq 11, 3) := by decide +kernel
theorem dX11_due_18 : decode cX11_due 18 = .ok (.aload_n 0, 1) := by decide +kernel
theorem dX11_due_19 : decode cX11_due 19 = .ok (.iload_n 3, 1) := by decide +kernel
theorem dX11_due_20 : decode cX11_due 20 = .ok (.invokevirtual 193, 3) := by decide +kernel
theorem dX11_due_23 : decode cX11_due 23 = .ok (.ifCond .ne 6, 3) := by decide +kernel
theorem dX11_due_26 : decode cX11_due 26 = .ok (.bipush (-3), 2) := by decide +kernel
theorem dX11_due_28 : decode cX11_due 28 = .ok (.ireturn, 1) := by decide +kernel
theorem dX11_due_29 : decode cX11_due 29 = .ok (.aload_n 0, 1) := by decide +kernel
theorem dX11_due_30 : decode cX11_due 30 = .ok (.aload_n 0, 1) := by decide +kernel
theorem dX11_due_31 : decode cX11_due 31 = .ok (.getfield 66, 3) := by decide +kernel
theorem dX11_due_34 : decode cX11_due 34 = .ok (.iload_n 1, 1) := by decide +kernel
theorem dX11_due_35 : decode cX11_due 35 = .ok (.aaload, 1) := by decide +kernel
theorem dX11_due_36 : decode cX11_due 36 = .ok (.iload_n 2, 1) := by decide +kernel
theorem dX11_due_37 : decode cX11_due 37 = .ok (.iload_n 2, 1) := by decide +kernel
theorem dX11_due_38 : decode cX11_due 38 = .ok (.iload_n 3, 1) := by decide +kernel
theorem dX11_due_39 : decode cX11_due 39 = .ok (.invokevirtual 291, 3) := by decide +kernel
theorem dX11_due_42 : decode cX11_due 42 = .ok (.pop2, 1) := by decide +kernel
theorem dX11_due_43 : decode cX11_due 43 = .ok (.aload_n 0, 1) := by decide +kernel
theorem dX11_due_44 : decode cX11_due 44 = .ok (.getfield 60, 3) := by decide +kernel
theorem dX11_due_47 : decode cX11_due 47 = .ok (.invokevirtual 295, 3) := by decide +kernel
theorem dX11_due_50 : decode cX11_due 50 = .ok (.ireturn, 1) := by decide +kernel
theorem dX11_deduct_0 : decode cX11_deduct 0 = .ok (.aload_n 0, 1) := by decide +kernel
theorem dX11_deduct_1 : decode cX11_deduct 1 = .ok (.iload_n 1, 1) := by decide +kernel
theorem dX11_deduct_2 : decode cX11_deduct 2 = .ok (.invokevirtual 288, 3) := by decide +kernel
theorem dX11_deduct_5 : decode cX11_deduct 5 = .ok (.ifCond .ne 6, 3) := by decide +kernel
theorem dX11_deduct_8 : decode cX11_deduct 8 = .ok (.bipush (-2), 2) := by decide +kernel
theorem dX11_deduct_10 : decode cX11_deduct 10 = .ok (.ireturn, 1) := by decide +kernel
theorem dX11_deduct_11 : decode cX11_deduct 11 = .ok (.iload_n 2, 1) := by decide +kernel
theorem dX11_deduct_12 : decode cX11_deduct 12 = .ok (.iconst 1, 1) := by decide +kernel
theorem dX11_deduct_13 : decode cX11_deduct 13 = .ok (.if_icmp .lt 20, 3) := by decide +kernel
theorem dX11_deduct_16 : decode cX11_deduct 16 = .ok (.iload_n 2, 1) := by decide +kernel
theorem dX11_deduct_17 : decode cX11_deduct 17 = .ok (.ldc_w 299, 3) := by decide +kernel
theorem dX11_deduct_20 : decode cX11_deduct 20 = .ok (.if_icmp .gt 13, 3) := by decide +kernel
theorem dX11_deduct_23 : decode cX11_deduct 23 = .ok (.iload_n 3, 1) := by decide +kernel
theorem dX11_deduct_24 : decode cX11_deduct 24 = .ok (.ifCond .lt 9, 3) := by decide +kernel
theorem dX11_deduct_27 : decode cX11_deduct 27 = .ok (.iload_n 3, 1) := by decide +kernel
theorem dX11_deduct_28 : decode cX11_deduct 28 = .ok (.bipush 9, 2) := by decide +kernel
theorem dX11_deduct_30 : decode cX11_deduct 30 = .ok (.if_icmp .le 6, 3) := by decide +kernel
theorem dX11_deduct_33 : decode cX11_deduct 33 = .ok (.bipush (-3), 2) := by decide +kernel
theorem dX11_deduct_35 : decode cX11_deduct 35 = .ok (.ireturn, 1) := by decide +kernel
theorem dX11_deduct_36 : decode cX11_deduct 36 = .ok (.aload_n 0, 1) := by decide +kernel
theorem dX11_deduct_37 : decode cX11_deduct 37 = .ok (.getfield 66, 3) := by decide +kernel
theorem dX11_deduct_40 : decode cX11_deduct 40 = .ok (.iload_n 1, 1) := by decide +kernel
theorem dX11_deduct_41 : decode cX11_deduct 41 = .ok (.aaload, 1) := by decide +kernel
theorem dX11_deduct_42 : decode cX11_deduct 42 = .ok (.iload_n 2, 1) := by decide +kernel
theorem dX11_deduct_43 : decode cX11_deduct 43 = .ok (.iload_n 3, 1) := by decide +kernel
theorem dX11_deduct_44 : decode cX11_deduct 44 = .ok (.invokevirtual 300, 3) := by decide +kernel
theorem dX11_deduct_47 : decode cX11_deduct 47 = .ok (.ireturn, 1) := by decide +kernel
theorem dX11_share_0 : decode cX11_share 0 = .ok (.iload_n 1, 1) := by decide +kernel
theorem dX11_share_1 : decode cX11_share 1 = .ok (.ifCond .lt 9, 3) := by decide +kernel
theorem dX11_share_4 : decode cX11_share 4 = .ok (.iload_n 1, 1) := by decide +kernel
theorem dX11_share_5 : decode cX11_share 5 = .ok (.bipush 100, 2) := by decide +kernel
theorem dX11_share_7 : decode cX11_share 7 = .ok (.if_icmp .le 6, 3) := by decide +kernel
theorem dX11_share_10 : decode cX11_share 10 = .ok (.bipush (-3), 2) := by decide +kernel
theorem dX11_share_12 : decode cX11_share 12 = .ok (.ireturn, 1) := by decide +kernel
theorem dX11_share_13 : decode cX11_share 13 = .ok (.aload_n 0, 1) := by decide +kernel
theorem dX11_share_14 : decode cX11_share 14 = .ok (.getfield 76, 3) := by decide +kernel
theorem dX11_share_17 : decode cX11_share 17 = .ok (.istore_n 2, 1) := by decide +kernel
theorem dX11_share_18 : decode cX11_share 18 = .ok (.aload_n 0, 1) := by decide +kernel
theorem dX11_share_19 : decode cX11_share 19 = .ok (.iload_n 1, 1) := by decide +kernel
theorem dX11_share_20 : decode cX11_share 20 = .ok (.putfield 76, 3) := by decide +kernel
theorem dX11_share_23 : decode cX11_share 23 = .ok (.iload_n 2, 1) := by decide +kernel
theorem dX11_share_24 : decode cX11_share 24 = .ok (.ireturn, 1) := by decide +kernel
theorem dX11_run_0 : decode cX11_run 0 = .ok (.iload_n 1, 1) := by decide +kernel
theorem dX11_run_1 : decode cX11_run 1 = .ok (.invokestatic 277, 3) := by decide +kernel
theorem dX11_run_4 : decode cX11_run 4 = .ok (.ifCond .ne 6, 3) := by decide +kernel
theorem dX11_run_7 : decode cX11_run 7 = .ok (.bipush (-3), 2) := by decide +kernel
theorem dX11_run_9 : decode cX11_run 9 = .ok (.ireturn, 1) := by decide +kernel
theorem dX11_run_10 : decode cX11_run 10 = .ok (.aload_n 0, 1) := by decide +kernel
theorem dX11_run_11 : decode cX11_run 11 = .ok (.getfield 303, 3) := by decide +kernel
theorem dX11_run_14 : decode cX11_run 14 = .ok (.aload_n 0, 1) := by decide +kernel
theorem dX11_run_15 : decode cX11_run 15 = .ok (.getfield 306, 3) := by decide +kernel
theorem dX11_run_18 : decode cX11_run 18 = .ok (.if_icmp .lt 22, 3) := by decide +kernel
theorem dX11_run_21 : decode cX11_run 21 = .ok (.iload_n 1, 1) := by decide +kernel
theorem dX11_run_22 : decode cX11_run 22 = .ok (.aload_n 0, 1) := by decide +kernel
theorem dX11_run_23 : decode cX11_run 23 = .ok (.getfield 80, 3) := by decide +kernel
theorem dX11_run_26 : decode cX11_run 26 = .ok (.if_icmp .le 14, 3) := by decide +kernel
theorem dX11_run_29 : decode cX11_run 29 = .ok (.iload_n 1, 1) := by decide +kernel
theorem dX11_run_30 : decode cX11_run 30 = .ok (.bipush 30, 2) := by decide +kernel
theorem dX11_run_32 : decode cX11_run 32 = .ok (.imul, 1) := by decide +kernel
theorem dX11_run_33 : decode cX11_run 33 = .ok (.aload_n 0, 1) := by decide +kernel
theorem dX11_run_34 : decode cX11_run 34 = .ok (.getfield 100, 3) := by decide +kernel
theorem dX11_run_37 : decode cX11_run 37 = .ok (.if_icmp .le 6, 3) := by decide +kernel
theorem dX11_run_40 : decode cX11_run 40 = .ok (.bipush (-4), 2) := by decide +kernel
theorem dX11_run_42 : decode cX11_run 42 = .ok (.ireturn, 1) := by decide +kernel
theorem dX11_run_43 : decode cX11_run 43 = .ok (.iconst 0, 1) := by decide +kernel
theorem dX11_run_44 : decode cX11_run 44 = .ok (.istore_n 2, 1) := by decide +kernel
theorem dX11_run_45 : decode cX11_run 45 = .ok (.iconst 0, 1) := by decide +kernel
theorem dX11_run_46 : decode cX11_run 46 = .ok (.istore_n 3, 1) := by decide +kernel
theorem dX11_run_47 : decode cX11_run 47 = .ok (.iload_n 3, 1) := by decide +kernel
theorem dX11_run_48 : decode cX11_run 48 = .ok (.aload_n 0, 1) := by decide +kernel
theorem dX11_run_49 : decode cX11_run 49 = .ok (.getfield 280, 3) := by decide +kernel
theorem dX11_run_52 : decode cX11_run 52 = .ok (.if_icmp .ge 25, 3) := by decide +kernel
theorem dX11_run_55 : decode cX11_run 55 = .ok (.aload_n 0, 1) := by decide +kernel
theorem dX11_run_56 : decode cX11_run 56 = .ok (.getfield 66, 3) := by decide +kernel
theorem dX11_run_59 : decode cX11_run 59 = .ok (.iload_n 3, 1) := by decide +kernel
theorem dX11_run_60 : decode cX11_run 60 = .ok (.aaload, 1) := by decide +kernel
theorem dX11_run_61 : decode cX11_run 61 = .ok (.getfield 287, 3) := by decide +kernel
theorem dX11_run_64 : decode cX11_run 64 = .ok (.iload_n 1, 1) := by decide +kernel
theorem dX11_run_65 : decode cX11_run 65 = .ok (.if_icmp .gt 6, 3) := by decide +kernel
theorem dX11_run_68 : decode cX11_run 68 = .ok (.iinc 2 1, 3) := by decide +kernel
theorem dX11_run_71 : decode cX11_run 71 = .ok (.iinc 3 1, 3) := by decide +kernel
theorem dX11_run_74 : decode cX11_run 74 = .ok (.goto (-27), 3) := by decide +kernel
theorem dX11_run_77 : decode cX11_run 77 = .ok (.aload_n 0, 1) := by decide +kernel
theorem dX11_run_78 : decode cX11_run 78 = .ok (.getfield 309, 3) := by decide +kernel
theorem dX11_run_81 : decode cX11_run 81 = .ok (.iload_n 2, 1) := by decide +kernel
theorem dX11_run_82 : decode cX11_run 82 = .ok (.iadd, 1) := by decide +kernel
theorem dX11_run_83 : decode cX11_run 83 = .ok (.sipush 200, 3) := by decide +kernel
theorem dX11_run_86 : decode cX11_run 86 = .ok (.if_icmp .le 6, 3) := by decide +kernel
theorem dX11_run_89 : decode cX11_run 89 = .ok (.bipush (-5), 2) := by decide +kernel
theorem dX11_run_91 : decode cX11_run 91 = .ok (.ireturn, 1) := by decide +kernel
theorem dX11_run_92 : decode cX11_run 92 = .ok (.aload_n 0, 1) := by decide +kernel
theorem dX11_run_93 : decode cX11_run 93 = .ok (.iload_n 1, 1) := by decide +kernel
theorem dX11_run_94 : decode cX11_run 94 = .ok (.invokevirtual 312, 3) := by decide +kernel
theorem dX11_run_97 : decode cX11_run 97 = .ok (.iload_n 2, 1) := by decide +kernel
theorem dX11_run_98 : decode cX11_run 98 = .ok (.ireturn, 1) := by decide +kernel
theorem dX11_advance_0 : decode cX11_advance 0 = .ok (.iload_n 1, 1) := by decide +kernel
theorem dX11_advance_1 : decode cX11_advance 1 = .ok (.iconst 1, 1) := by decide +kernel
theorem dX11_advance_2 : decode cX11_advance 2 = .ok (.if_icmp .lt 9, 3) := by decide +kernel
theorem dX11_advance_5 : decode cX11_advance 5 = .ok (.iload_n 1, 1) := by decide +kernel
theorem dX11_advance_6 : decode cX11_advance 6 = .ok (.bipush 6, 2) := by decide +kernel
theorem dX11_advance_8 : decode cX11_advance 8 = .ok (.if_icmp .le 6, 3) := by decide +kernel
theorem dX11_advance_11 : decode cX11_advance 11 = .ok (.bipush (-3), 2) := by decide +kernel
theorem dX11_advance_13 : decode cX11_advance 13 = .ok (.ireturn, 1) := by decide +kernel
theorem dX11_advance_14 : decode cX11_advance 14 = .ok (.aload_n 0, 1) := by decide +kernel
theorem dX11_advance_15 : decode cX11_advance 15 = .ok (.getfield 303, 3) := by decide +kernel
theorem dX11_advance_18 : decode cX11_advance 18 = .ok (.aload_n 0, 1) := by decide +kernel
theorem dX11_advance_19 : decode cX11_advance 19 = .ok (.getfield 306, 3) := by decide +kernel
theorem dX11_advance_22 : decode cX11_advance 22 = .ok (.if_icmp .lt 6, 3) := by decide +kernel
theorem dX11_advance_25 : decode cX11_advance 25 = .ok (.bipush (-4), 2) := by decide +kernel
theorem dX11_advance_27 : decode cX11_advance 27 = .ok (.ireturn, 1) := by decide +kernel
theorem dX11_advance_28 : decode cX11_advance 28 = .ok (.iconst 0, 1) := by decide +kernel
theorem dX11_advance_29 : decode cX11_advance 29 = .ok (.istore_n 2, 1) := by decide +kernel
theorem dX11_advance_30 : decode cX11_advance 30 = .ok (.iload_n 2, 1) := by decide +kernel
theorem dX11_advance_31 : decode cX11_advance 31 = .ok (.iload_n 1, 1) := by decide +kernel
theorem dX11_advance_32 : decode cX11_advance 32 = .ok (.if_icmp .ge 132, 3) := by decide +kernel
theorem dX11_advance_35 : decode cX11_advance 35 = .ok (.aload_n 0, 1) := by decide +kernel
theorem dX11_advance_36 : decode cX11_advance 36 = .ok (.getfield 303, 3) := by decide +kernel
theorem dX11_advance_39 : decode cX11_advance 39 = .ok (.aload_n 0, 1) := by decide +kernel
theorem dX11_advance_40 : decode cX11_advance 40 = .ok (.getfield 306, 3) := by decide +kernel
theorem dX11_advance_43 : decode cX11_advance 43 = .ok (.if_icmp .ge 121, 3) := by decide +kernel
theorem dX11_advance_46 : decode cX11_advance 46 = .ok (.aload_n 0, 1) := by decide +kernel
theorem dX11_advance_47 : decode cX11_advance 47 = .ok (.getfield 303, 3) := by decide +kernel
theorem dX11_advance_50 : decode cX11_advance 50 = .ok (.aload_n 0, 1) := by decide +kernel
theorem dX11_advance_51 : decode cX11_advance 51 = .ok (.getfield 83, 3) := by decide +kernel
theorem dX11_advance_54 : decode cX11_advance 54 = .ok (.arraylength, 1) := by decide +kernel
theorem dX11_advance_55 : decode cX11_advance 55 = .ok (.if_icmp .ge 109, 3) := by decide +kernel
theorem dX11_advance_58 : decode cX11_advance 58 = .ok (.aload_n 0, 1) := by decide +kernel
theorem dX11_advance_59 : decode cX11_advance 59 = .ok (.getfield 309, 3) := by decide +kernel
theorem dX11_advance_62 : decode cX11_advance 62 = .ok (.sipush 200, 3) := by decide +kernel
theorem dX11_advance_65 : decode cX11_advance 65 = .ok (.if_icmp .ge 99, 3) := by decide +kernel
theorem dX11_advance_68 : decode cX11_advance 68 = .ok (.aload_n 0, 1) := by decide +kernel
theorem dX11_advance_69 : decode cX11_advance 69 = .ok (.getfield 83, 3) := by decide +kernel
theorem dX11_advance_72 : decode cX11_advance 72 = .ok (.aload_n 0, 1) := by decide +kernel
theorem dX11_advance_73 : decode cX11_advance 73 = .ok (.getfield 303, 3) := by decide +kernel
theorem dX11_advance_76 : decode cX11_advance 76 = .ok (.iaload, 1) := by decide +kernel
theorem dX11_advance_77 : decode cX11_advance 77 = .ok (.istore_n 3, 1) := by decide +kernel
theorem dX11_advance_78 : decode cX11_advance 78 = .ok (.aload_n 0, 1) := by decide +kernel
theorem dX11_advance_79 : decode cX11_advance 79 = .ok (.aload_n 0, 1) := by decide +kernel
theorem dX11_advance_80 : decode cX11_advance 80 = .ok (.getfield 66, 3) := by decide +kernel
theorem dX11_advance_83 : decode cX11_advance 83 = .ok (.iload_n 3, 1) := by decide +kernel
theorem dX11_advance_84 : decode cX11_advance 84 = .ok (.aaload, 1) := by decide +kernel
theorem dX11_advance_85 : decode cX11_advance 85 = .ok (.aload_n 0, 1) := by decide +kernel
theorem dX11_advance_86 : decode cX11_advance 86 = .ok (.getfield 66, 3) := by decide +kernel
theorem dX11_advance_89 : decode cX11_advance 89 = .ok (.iload_n 3, 1) := by decide +kernel
theorem dX11_advance_90 : decode cX11_advance 90 = .ok (.aaload, 1) := by decide +kernel
theorem dX11_advance_91 : decode cX11_advance 91 = .ok (.getfield 287, 3) := by decide +kernel
theorem dX11_advance_94 : decode cX11_advance 94 = .ok (.aload_n 0, 1) := by decide +kernel
theorem dX11_advance_95 : decode cX11_advance 95 = .ok (.getfield 80, 3) := by decide +kernel
theorem dX11_advance_98 : decode cX11_advance 98 = .ok (.iconst 1, 1) := by decide +kernel
theorem dX11_advance_99 : decode cX11_advance 99 = .ok (.isub, 1) := by decide +kernel
theorem dX11_advance_100 : decode cX11_advance 100 = .ok (.aload_n 0, 1) := by decide +kernel
theorem dX11_advance_101 : decode cX11_advance 101 = .ok (.getfield 100, 3) := by decide +kernel
theorem dX11_advance_104 : decode cX11_advance 104 = .ok (.invokevirtual 291, 3) := by decide +kernel
theorem dX11_advance_107 : decode cX11_advance 107 = .ok (.aload_n 0, 1) := by decide +kernel
theorem dX11_advance_108 : decode cX11_advance 108 = .ok (.iload_n 3, 1) := by decide +kernel
theorem dX11_advance_109 : decode cX11_advance 109 = .ok (.invokevirtual 316, 3) := by decide +kernel
theorem dX11_advance_112 : decode cX11_advance 112 = .ok (.lsub, 1) := by decide +kernel
theorem dX11_advance_113 : decode cX11_advance 113 = .ok (.lstore 4, 2) := by decide +kernel
theorem dX11_advance_115 : decode cX11_advance 115 = .ok (.aload_n 0, 1) := by decide +kernel
theorem dX11_advance_116 : decode cX11_advance 116 = .ok (.aload_n 0, 1) := by decide +kernel
theorem dX11_advance_117 : decode cX11_advance 117 = .ok (.getfield 66, 3) := by decide +kernel
theorem dX11_advance_120 : decode cX11_advance 120 = .ok (.iload_n 3, 1) := by decide +kernel
theorem dX11_advance_121 : decode cX11_advance 121 = .ok (.aaload, 1) := by decide +kernel
theorem dX11_advance_122 : decode cX11_advance 122 = .ok (.aload_n 0, 1) := by decide +kernel
theorem dX11_advance_123 : decode cX11_advance 123 = .ok (.getfield 80, 3) := by decide +kernel
theorem dX11_advance_126 : decode cX11_advance 126 = .ok (.aload_n 0, 1) := by decide +kernel
theorem dX11_advance_127 : decode cX11_advance 127 = .ok (.getfield 80, 3) := by decide +kernel
theorem dX11_advance_130 : decode cX11_advance 130 = .ok (.aload_n 0, 1) := by decide +kernel
theorem dX11_advance_131 : decode cX11_advance 131 = .ok (.getfield 100, 3) := by decide +kernel
theorem dX11_advance_134 : decode cX11_advance 134 = .ok (.invokevirtual 291, 3) := by decide +kernel
theorem dX11_advance_137 : decode cX11_advance 137 = .ok (.lstore 6, 2) := by decide +kernel
theorem dX11_advance_139 : decode cX11_advance 139 = .ok (.aload_n 0, 1) := by decide +kernel
theorem dX11_advance_140 : decode cX11_advance 140 = .ok (.iload_n 3, 1) := by decide +kernel
theorem dX11_advance_141 : decode cX11_advance 141 = .ok (.lload 6, 2) := by decide +kernel
theorem dX11_advance_143 : decode cX11_advance 143 = .ok (.lload 4, 2) := by decide +kernel
theorem dX11_advance_145 : decode cX11_advance 145 = .ok (.invokevirtual 320, 3) := by decide +kernel
theorem dX11_advance_148 : decode cX11_advance 148 = .ok (.aload_n 0, 1) := by decide +kernel
theorem dX11_advance_149 : decode cX11_advance 149 = .ok (.dup, 1) := by decide +kernel
theorem dX11_advance_150 : decode cX11_advance 150 = .ok (.getfield 303, 3) := by decide +kernel
theorem dX11_advance_153 : decode cX11_advance 153 = .ok (.iconst 1, 1) := by decide +kernel
theorem dX11_advance_154 : decode cX11_advance 154 = .ok (.iadd, 1) := by decide +kernel
theorem dX11_advance_155 : decode cX11_advance 155 = .ok (.putfield 303, 3) := by decide +kernel
theorem dX11_advance_158 : decode cX11_advance 158 = .ok (.iinc 2 1, 3) := by decide +kernel
theorem dX11_advance_161 : decode cX11_advance 161 = .ok (.goto (-131), 3) := by decide +kernel
theorem dX11_advance_164 : decode cX11_advance 164 = .ok (.iload_n 2, 1) := by decide +kernel
theorem dX11_advance_165 : decode cX11_advance 165 = .ok (.ireturn, 1) := by decide +kernel
theorem dX11_payment_0 : decode cX11_payment 0 = .ok (.iload_n 1, 1) := by decide +kernel
theorem dX11_payment_1 : decode cX11_payment 1 = .ok (.ifCond .lt 21, 3) := by decide +kernel
theorem dX11_payment_4 : decode cX11_payment 4 = .ok (.iload_n 1, 1) := by decide +kernel
theorem dX11_payment_5 : decode cX11_payment 5 = .ok (.aload_n 0, 1) := by decide +kernel
theorem dX11_payment_6 : decode cX11_payment 6 = .ok (.getfield 309, 3) := by decide +kernel
theorem dX11_payment_9 : decode cX11_payment 9 = .ok (.if_icmp .ge 13, 3) := by decide +kernel
theorem dX11_payment_12 : decode cX11_payment 12 = .ok (.iload_n 2, 1) := by decide +kernel
theorem dX11_payment_13 : decode cX11_payment 13 = .ok (.ifCond .lt 9, 3) := by decide +kernel
theorem dX11_payment_16 : decode cX11_payment 16 = .ok (.iload_n 2, 1) := by decide +kernel
theorem dX11_payment_17 : decode cX11_payment 17 = .ok (.bipush 8, 2) := by decide +kernel
theorem dX11_payment_19 : decode cX11_payment 19 = .ok (.if_icmp .lt 5, 3) := by decide +kernel
theorem dX11_payment_22 : decode cX11_payment 22 = .ok (.lconst 0, 1) := by decide +kernel
theorem dX11_payment_23 : decode cX11_payment 23 = .ok (.lreturn, 1) := by decide +kernel
theorem dX11_payment_24 : decode cX11_payment 24 = .ok (.aload_n 0, 1) := by decide +kernel
theorem dX11_payment_25 : decode cX11_payment 25 = .ok (.getfield 73, 3) := by decide +kernel
theorem dX11_payment_28 : decode cX11_payment 28 = .ok (.iload_n 1, 1) := by decide +kernel
theorem dX11_payment_29 : decode cX11_payment 29 = .ok (.aaload, 1) := by decide +kernel
theorem dX11_payment_30 : decode cX11_payment 30 = .ok (.iload_n 2, 1) := by decide +kernel
theorem dX11_payment_31 : decode cX11_payment 31 = .ok (.laload, 1) := by decide +kernel
theorem dX11_payment_32 : decode cX11_payment 32 = .ok (.lreturn, 1) := by decide +kernel
theorem dX11_taken_0 : decode cX11_taken 0 = .ok (.iload_n 1, 1) := by decide +kernel
theorem dX11_taken_1 : decode cX11_taken 1 = .ok (.ifCond .lt 11, 3) := by decide +kernel
theorem dX11_taken_4 : decode cX11_taken 4 = .ok (.iload_n 1, 1) := by decide +kernel
theorem dX11_taken_5 : decode cX11_taken 5 = .ok (.aload_n 0, 1) := by decide +kernel
theorem dX11_taken_6 : decode cX11_taken 6 = .ok (.getfield 309, 3) := by decide +kernel
theorem dX11_taken_9 : decode cX11_taken 9 = .ok (.if_icmp .lt 6, 3) := by decide +kernel
theorem dX11_taken_12 : decode cX11_taken 12 = .ok (.bipush (-2), 2) := by decide +kernel
theorem dX11_taken_14 : decode cX11_taken 14 = .ok (.ireturn, 1) := by decide +kernel
theorem dX11_taken_15 : decode cX11_taken 15 = .ok (.iload_n 2, 1) := by decide +kernel
theorem dX11_taken_16 : decode cX11_taken 16 = .ok (.ifCond .lt 9, 3) := by decide +kernel
theorem dX11_taken_19 : decode cX11_taken 19 = .ok (.iload_n 2, 1) := by decide +kernel
theorem dX11_taken_20 : decode cX11_taken 20 = .ok (.bipush 6, 2) := by decide +kernel
theorem dX11_taken_22 : decode cX11_taken 22 = .ok (.if_icmp .lt 6, 3) := by decide +kernel
theorem dX11_taken_25 : decode cX11_taken 25 = .ok (.bipush (-3), 2) := by decide +kernel
theorem dX11_taken_27 : decode cX11_taken 27 = .ok (.ireturn, 1) := by decide +kernel
theorem dX11_taken_28 : decode cX11_taken 28 = .ok (.aload_n 0, 1) := by decide +kernel
theorem dX11_taken_29 : decode cX11_taken 29 = .ok (.getfield 73, 3) := by decide +kernel
theorem dX11_taken_32 : decode cX11_taken 32 = .ok (.iload_n 1, 1) := by decide +kernel
theorem dX11_taken_33 : decode cX11_taken 33 = .ok (.aaload, 1) := by decide +kernel
theorem dX11_taken_34 : decode cX11_taken 34 = .ok (.bipush 8, 2) := by decide +kernel
theorem dX11_taken_36 : decode cX11_taken 36 = .ok (.iload_n 2, 1) := by decide +kernel
theorem dX11_taken_37 : decode cX11_taken 37 = .ok (.iadd, 1) := by decide +kernel
theorem dX11_taken_38 : decode cX11_taken 38 = .ok (.laload, 1) := by decide +kernel
theorem dX11_taken_39 : decode cX11_taken 39 = .ok (.l2i, 1) := by decide +kernel
theorem dX11_taken_40 : decode cX11_taken 40 = .ok (.ireturn, 1) := by decide +kernel
theorem dX11_returned_0 : decode cX11_returned 0 = .ok (.iload_n 1, 1) := by decide +kernel
theorem dX11_returned_1 : decode cX11_returned 1 = .ok (.ifCond .lt 11, 3) := by decide +kernel
theorem dX11_returned_4 : decode cX11_returned 4 = .ok (.iload_n 1, 1) := by decide +kernel
theorem dX11_returned_5 : decode cX11_returned 5 = .ok (.aload_n 0, 1) := by decide +kernel
theorem dX11_returned_6 : decode cX11_returned 6 = .ok (.getfield 309, 3) := by decide +kernel
theorem dX11_returned_9 : decode cX11_returned 9 = .ok (.if_icmp .lt 6, 3) := by decide +kernel
theorem dX11_returned_12 : decode cX11_returned 12 = .ok (.bipush (-2), 2) := by decide +kernel
theorem dX11_returned_14 : decode cX11_returned 14 = .ok (.ireturn, 1) := by decide +kernel
theorem dX11_returned_15 : decode cX11_returned 15 = .ok (.aload_n 0, 1) := by decide +kernel
theorem dX11_returned_16 : decode cX11_returned 16 = .ok (.getfield 73, 3) := by decide +kernel
theorem dX11_returned_19 : decode cX11_returned 19 = .ok (.iload_n 1, 1) := by decide +kernel
theorem dX11_returned_20 : decode cX11_returned 20 = .ok (.aaload, 1) := by decide +kernel
theorem dX11_returned_21 : decode cX11_returned 21 = .ok (.bipush 6, 2) := by decide +kernel
theorem dX11_returned_23 : decode cX11_returned 23 = .ok (.laload, 1) := by decide +kernel
theorem dX11_returned_24 : decode cX11_returned 24 = .ok (.lconst 0, 1) := by decide +kernel
theorem dX11_returned_25 : decode cX11_returned 25 = .ok (.lcmp, 1) := by decide +kernel
theorem dX11_returned_26 : decode cX11_returned 26 = .ok (.ifCond .eq 6, 3) := by decide +kernel
theorem dX11_returned_29 : decode cX11_returned 29 = .ok (.bipush (-4), 2) := by decide +kernel
theorem dX11_returned_31 : decode cX11_returned 31 = .ok (.ireturn, 1) := by decide +kernel
theorem dX11_returned_32 : decode cX11_returned 32 = .ok (.aload_n 0, 1) := by decide +kernel
theorem dX11_returned_33 : decode cX11_returned 33 = .ok (.getfield 73, 3) := by decide +kernel
theorem dX11_returned_36 : decode cX11_returned 36 = .ok (.iload_n 1, 1) := by decide +kernel
theorem dX11_returned_37 : decode cX11_returned 37 = .ok (.aaload, 1) := by decide +kernel
theorem dX11_returned_38 : decode cX11_returned 38 = .ok (.bipush 6, 2) := by decide +kernel
theorem dX11_returned_40 : decode cX11_returned 40 = .ok (.lconst 1, 1) := by decide +kernel
theorem dX11_returned_41 : decode cX11_returned 41 = .ok (.lastore, 1) := by decide +kernel
theorem dX11_returned_42 : decode cX11_returned 42 = .ok (.iconst 1, 1) := by decide +kernel
theorem dX11_returned_43 : decode cX11_returned 43 = .ok (.ireturn, 1) := by decide +kernel
theorem dX11_balance_0 : decode cX11_balance 0 = .ok (.aload_n 0, 1) := by decide +kernel
theorem dX11_balance_1 : decode cX11_balance 1 = .ok (.iload_n 1, 1) := by decide +kernel
theorem dX11_balance_2 : decode cX11_balance 2 = .ok (.invokevirtual 288, 3) := by decide +kernel
theorem dX11_balance_5 : decode cX11_balance 5 = .ok (.ifCond .eq 10, 3) := by decide +kernel
theorem dX11_balance_8 : decode cX11_balance 8 = .ok (.iload_n 2, 1) := by decide +kernel
theorem dX11_balance_9 : decode cX11_balance 9 = .ok (.invokestatic 277, 3) := by decide +kernel
theorem dX11_balance_12 : decode cX11_balance 12 = .ok (.ifCond .ne 5, 3) := by decide +kernel
theorem dX11_balance_15 : decode cX11_balance 15 = .ok (.lconst 0, 1) := by decide +kernel
theorem dX11_balance_16 : decode cX11_balance 16 = .ok (.lreturn, 1) := by decide +kernel
theorem dX11_balance_17 : decode cX11_balance 17 = .ok (.aload_n 0, 1) := by decide +kernel
theorem dX11_balance_18 : decode cX11_balance 18 = .ok (.aload_n 0, 1) := by decide +kernel
theorem dX11_balance_19 : decode cX11_balance 19 = .ok (.getfield 66, 3) := by decide +kernel
theorem dX11_balance_22 : decode cX11_balance 22 = .ok (.iload_n 1, 1) := by decide +kernel
theorem dX11_balance_23 : decode cX11_balance 23 = .ok (.aaload, 1) := by decide +kernel
theorem dX11_balance_24 : decode cX11_balance 24 = .ok (.aload_n 0, 1) := by decide +kernel
theorem dX11_balance_25 : decode cX11_balance 25 = .ok (.getfield 66, 3) := by decide +kernel
theorem dX11_balance_28 : decode cX11_balance 28 = .ok (.iload_n 1, 1) := by decide +kernel
theorem dX11_balance_29 : decode cX11_balance 29 = .ok (.aaload, 1) := by decide +kernel
theorem dX11_balance_30 : decode cX11_balance 30 = .ok (.getfield 287, 3) := by decide +kernel
theorem dX11_balance_33 : decode cX11_balance 33 = .ok (.iload_n 2, 1) := by decide +kernel
theorem dX11_balance_34 : decode cX11_balance 34 = .ok (.aload_n 0, 1) := by decide +kernel
theorem dX11_balance_35 : decode cX11_balance 35 = .ok (.getfield 100, 3) := by decide +kernel
theorem dX11_balance_38 : decode cX11_balance 38 = .ok (.invokevirtual 291, 3) := by decide +kernel
theorem dX11_balance_41 : decode cX11_balance 41 = .ok (.aload_n 0, 1) := by decide +kernel
theorem dX11_balance_42 : decode cX11_balance 42 = .ok (.iload_n 1, 1) := by decide +kernel
theorem dX11_balance_43 : decode cX11_balance 43 = .ok (.invokevirtual 316, 3) := by decide +kernel
theorem dX11_balance_46 : decode cX11_balance 46 = .ok (.lsub, 1) := by decide +kernel
theorem dX11_balance_47 : decode cX11_balance 47 = .ok (.lreturn, 1) := by decide +kernel
theorem dX11_count_0 : decode cX11_count 0 = .ok (.iload_n 1, 1) := by decide +kernel
theorem dX11_count_1 : decode cX11_count 1 = .ok (.tableswitch 92 0 6 #[43, 51, 59, 64, 69, 79, 87], 43) := by decide +kernel
theorem dX11_count_44 : decode cX11_count 44 = .ok (.aload_n 0, 1) := by decide +kernel
theorem dX11_count_45 : decode cX11_count 45 = .ok (.getfield 14, 3) := by decide +kernel
theorem dX11_count_48 : decode cX11_count 48 = .ok (.getfield 324, 3) := by decide +kernel
theorem dX11_count_51 : decode cX11_count 51 = .ok (.ireturn, 1) := by decide +kernel
theorem dX11_count_52 : decode cX11_count 52 = .ok (.aload_n 0, 1) := by decide +kernel
theorem dX11_count_53 : decode cX11_count 53 = .ok (.getfield 14, 3) := by decide +kernel
theorem dX11_count_56 : decode cX11_count 56 = .ok (.getfield 158, 3) := by decide +kernel
theorem dX11_count_59 : decode cX11_count 59 = .ok (.ireturn, 1) := by decide +kernel
theorem dX11_count_60 : decode cX11_count 60 = .ok (.aload_n 0, 1) := by decide +kernel
theorem dX11_count_61 : decode cX11_count 61 = .ok (.getfield 280, 3) := by decide +kernel
theorem dX11_count_64 : decode cX11_count 64 = .ok (.ireturn, 1) := by decide +kernel
theorem dX11_count_65 : decode cX11_count 65 = .ok (.aload_n 0, 1) := by decide +kernel
theorem dX11_count_66 : decode cX11_count 66 = .ok (.getfield 309, 3) := by decide +kernel
theorem dX11_count_69 : decode cX11_count 69 = .ok (.ireturn, 1) := by decide +kernel
theorem dX11_count_70 : decode cX11_count 70 = .ok (.aload_n 0, 1) := by decide +kernel
theorem dX11_count_71 : decode cX11_count 71 = .ok (.getfield 306, 3) := by decide +kernel
theorem dX11_count_74 : decode cX11_count 74 = .ok (.aload_n 0, 1) := by decide +kernel
theorem dX11_count_75 : decode cX11_count 75 = .ok (.getfield 303, 3) := by decide +kernel
theorem dX11_count_78 : decode cX11_count 78 = .ok (.isub, 1) := by decide +kernel
theorem dX11_count_79 : decode cX11_count 79 = .ok (.ireturn, 1) := by decide +kernel
theorem dX11_count_80 : decode cX11_count 80 = .ok (.aload_n 0, 1) := by decide +kernel
theorem dX11_count_81 : decode cX11_count 81 = .ok (.getfield 36, 3) := by decide +kernel
theorem dX11_count_84 : decode cX11_count 84 = .ok (.getfield 87, 3) := by decide +kernel
theorem dX11_count_87 : decode cX11_count 87 = .ok (.ireturn, 1) := by decide +kernel
theorem dX11_count_88 : decode cX11_count 88 = .ok (.aload_n 0, 1) := by decide +kernel
theorem dX11_count_89 : decode cX11_count 89 = .ok (.getfield 100, 3) := by decide +kernel
theorem dX11_count_92 : decode cX11_count 92 = .ok (.ireturn, 1) := by decide +kernel
theorem dX11_count_93 : decode cX11_count 93 = .ok (.bipush (-3), 2) := by decide +kernel
theorem dX11_count_95 : decode cX11_count 95 = .ok (.ireturn, 1) := by decide +kernel
theorem dX11_isDay_0 : decode cX11_isDay 0 = .ok (.iload_n 0, 1) := by decide +kernel
theorem dX11_isDay_1 : decode cX11_isDay 1 = .ok (.ifCond .lt 14, 3) := by decide +kernel
theorem dX11_isDay_4 : decode cX11_isDay 4 = .ok (.iload_n 0, 1) := by decide +kernel
theorem dX11_isDay_5 : decode cX11_isDay 5 = .ok (.sipush 389, 3) := by decide +kernel
theorem dX11_isDay_8 : decode cX11_isDay 8 = .ok (.if_icmp .gt 7, 3) := by decide +kernel
theorem dX11_isDay_11 : decode cX11_isDay 11 = .ok (.iconst 1, 1) := by decide +kernel
theorem dX11_isDay_12 : decode cX11_isDay 12 = .ok (.goto 4, 3) := by decide +kernel
theorem dX11_isDay_15 : decode cX11_isDay 15 = .ok (.iconst 0, 1) := by decide +kernel
theorem dX11_isDay_16 : decode cX11_isDay 16 = .ok (.ireturn, 1) := by decide +kernel
theorem dX11_isPast_0 : decode cX11_isPast 0 = .ok (.iload_n 1, 1) := by decide +kernel
theorem dX11_isPast_1 : decode cX11_isPast 1 = .ok (.ifCond .lt 15, 3) := by decide +kernel
theorem dX11_isPast_4 : decode cX11_isPast 4 = .ok (.iload_n 1, 1) := by decide +kernel
theorem dX11_isPast_5 : decode cX11_isPast 5 = .ok (.aload_n 0, 1) := by decide +kernel
theorem dX11_isPast_6 : decode cX11_isPast 6 = .ok (.getfield 100, 3) := by decide +kernel
theorem dX11_isPast_9 : decode cX11_isPast 9 = .ok (.if_icmp .gt 7, 3) := by decide +kernel
theorem dX11_isPast_12 : decode cX11_isPast 12 = .ok (.iconst 1, 1) := by decide +kernel
theorem dX11_isPast_13 : decode cX11_isPast 13 = .ok (.goto 4, 3) := by decide +kernel
theorem dX11_isPast_16 : decode cX11_isPast 16 = .ok (.iconst 0, 1) := by decide +kernel
theorem dX11_isPast_17 : decode cX11_isPast 17 = .ok (.ireturn, 1) := by decide +kernel
theorem dX11_isMonth_0 : decode cX11_isMonth 0 = .ok (.iload_n 0, 1) := by decide +kernel
theorem dX11_isMonth_1 : decode cX11_isMonth 1 = .ok (.ifCond .lt 13, 3) := by decide +kernel
theorem dX11_isMonth_4 : decode cX11_isMonth 4 = .ok (.iload_n 0, 1) := by decide +kernel
theorem dX11_isMonth_5 : decode cX11_isMonth 5 = .ok (.bipush 12, 2) := by decide +kernel
theorem dX11_isMonth_7 : decode cX11_isMonth 7 = .ok (.if_icmp .gt 7, 3) := by decide +kernel
theorem dX11_isMonth_10 : decode cX11_isMonth 10 = .ok (.iconst 1, 1) := by decide +kernel
theorem dX11_isMonth_11 : decode cX11_isMonth 11 = .ok (.goto 4, 3) := by decide +kernel
theorem dX11_isMonth_14 : decode cX11_isMonth 14 = .ok (.iconst 0, 1) := by decide +kernel
theorem dX11_isMonth_15 : decode cX11_isMonth 15 = .ok (.ireturn, 1) := by decide +kernel
theorem dX11_isMember_0 : decode cX11_isMember 0 = .ok (.iload_n 0, 1) := by decide +kernel
theorem dX11_isMember_1 : decode cX11_isMember 1 = .ok (.ifCond .lt 13, 3) := by decide +kernel
theorem dX11_isMember_4 : decode cX11_isMember 4 = .ok (.iload_n 0, 1) := by decide +kernel
theorem dX11_isMember_5 : decode cX11_isMember 5 = .ok (.bipush 10, 2) := by decide +kernel
theorem dX11_isMember_7 : decode cX11_isMember 7 = .ok (.if_icmp .ge 7, 3) := by decide +kernel
theorem dX11_isMember_10 : decode cX11_isMember 10 = .ok (.iconst 1, 1) := by decide +kernel
theorem dX11_isMember_11 : decode cX11_isMember 11 = .ok (.goto 4, 3) := by decide +kernel
theorem dX11_isMember_14 : decode cX11_isMember 14 = .ok (.iconst 0, 1) := by decide +kernel
theorem dX11_isMember_15 : decode cX11_isMember 15 = .ok (.ireturn, 1) := by decide +kernel
theorem dX11_isScheme_0 : decode cX11_isScheme 0 = .ok (.iload_n 0, 1) := by decide +kernel
theorem dX11_isScheme_1 : decode cX11_isScheme 1 = .ok (.ifCond .lt 12, 3) := by decide +kernel
theorem dX11_isScheme_4 : decode cX11_isScheme 4 = .ok (.iload_n 0, 1) := by decide +kernel
theorem dX11_isScheme_5 : decode cX11_isScheme 5 = .ok (.iconst 4, 1) := by decide +kernel
theorem dX11_isScheme_6 : decode cX11_isScheme 6 = .ok (.if_icmp .ge 7, 3) := by decide +kernel
theorem dX11_isScheme_9 : decode cX11_isScheme 9 = .ok (.iconst 1, 1) := by decide +kernel
theorem dX11_isScheme_10 : decode cX11_isScheme 10 = .ok (.goto 4, 3) := by decide +kernel
theorem dX11_isScheme_13 : decode cX11_isScheme 13 = .ok (.iconst 0, 1) := by decide +kernel
theorem dX11_isScheme_14 : decode cX11_isScheme 14 = .ok (.ireturn, 1) := by decide +kernel
theorem dX11_isAward_0 : decode cX11_isAward 0 = .ok (.iload_n 1, 1) := by decide +kernel
theorem dX11_isAward_1 : decode cX11_isAward 1 = .ok (.ifCond .lt 15, 3) := by decide +kernel
theorem dX11_isAward_4 : decode cX11_isAward 4 = .ok (.iload_n 1, 1) := by decide +kernel
theorem dX11_isAward_5 : decode cX11_isAward 5 = .ok (.aload_n 0, 1) := by decide +kernel
theorem dX11_isAward_6 : decode cX11_isAward 6 = .ok (.getfield 280, 3) := by decide +kernel
theorem dX11_isAward_9 : decode cX11_isAward 9 = .ok (.if_icmp .ge 7, 3) := by decide +kernel
theorem dX11_isAward_12 : decode cX11_isAward 12 = .ok (.iconst 1, 1) := by decide +kernel
theorem dX11_isAward_13 : decode cX11_isAward 13 = .ok (.goto 4, 3) := by decide +kernel
theorem dX11_isAward_16 : decode cX11_isAward 16 = .ok (.iconst 0, 1) := by decide +kernel
theorem dX11_isAward_17 : decode cX11_isAward 17 = .ok (.ireturn, 1) := by decide +kernel
theorem dX11_placeForEdition_0 : decode cX11_placeForEdition 0 = .ok (.iconst (-1), 1) := by decide +kernel
theorem dX11_placeForEdition_1 : decode cX11_placeForEdition 1 = .ok (.istore_n 3, 1) := by decide +kernel
theorem dX11_placeForEdition_2 : decode cX11_placeForEdition 2 = .ok (.iload_n 1, 1) := by decide +kernel
theorem dX11_placeForEdition_3 : decode cX11_placeForEdition 3 = .ok (.bipush 8, 2) := by decide +kernel
theorem dX11_placeForEdition_5 : decode cX11_placeForEdition 5 = .ok (.imul, 1) := by decide +kernel
theorem dX11_placeForEdition_6 : decode cX11_placeForEdition 6 = .ok (.istore 4, 2) := by decide +kernel
theorem dX11_placeForEdition_8 : decode cX11_placeForEdition 8 = .ok (.iload 4, 2) := by decide +kernel
theorem dX11_placeForEdition_10 : decode cX11_placeForEdition 10 = .ok (.iload_n 1, 1) := by decide +kernel
theorem dX11_placeForEdition_11 : decode cX11_placeForEdition 11 = .ok (.iconst 1, 1) := by decide +kernel
theorem dX11_placeForEdition_12 : decode cX11_placeForEdition 12 = .ok (.iadd, 1) := by decide +kernel
theorem dX11_placeForEdition_13 : decode cX11_placeForEdition 13 = .ok (.bipush 8, 2) := by decide +kernel
theorem dX11_placeForEdition_15 : decode cX11_placeForEdition 15 = .ok (.imul, 1) := by decide +kernel
theorem dX11_placeForEdition_16 : decode cX11_placeForEdition 16 = .ok (.if_icmp .ge 48, 3) := by decide +kernel
theorem dX11_placeForEdition_19 : decode cX11_placeForEdition 19 = .ok (.aload_n 0, 1) := by decide +kernel
theorem dX11_placeForEdition_20 : decode cX11_placeForEdition 20 = .ok (.getfield 39, 3) := by decide +kernel
theorem dX11_placeForEdition_23 : decode cX11_placeForEdition 23 = .ok (.iload 4, 2) := by decide +kernel
theorem dX11_placeForEdition_25 : decode cX11_placeForEdition 25 = .ok (.aaload, 1) := by decide +kernel
theorem dX11_placeForEdition_26 : decode cX11_placeForEdition 26 = .ok (.getfield 223, 3) := by decide +kernel
theorem dX11_placeForEdition_29 : decode cX11_placeForEdition 29 = .ok (.iload_n 2, 1) := by decide +kernel
theorem dX11_placeForEdition_30 : decode cX11_placeForEdition 30 = .ok (.if_icmp .ne 6, 3) := by decide +kernel
theorem dX11_placeForEdition_33 : decode cX11_placeForEdition 33 = .ok (.iload 4, 2) := by decide +kernel
theorem dX11_placeForEdition_35 : decode cX11_placeForEdition 35 = .ok (.ireturn, 1) := by decide +kernel
theorem dX11_placeForEdition_36 : decode cX11_placeForEdition 36 = .ok (.aload_n 0, 1) := by decide +kernel
theorem dX11_placeForEdition_37 : decode cX11_placeForEdition 37 = .ok (.getfield 39, 3) := by decide +kernel
theorem dX11_placeForEdition_40 : decode cX11_placeForEdition 40 = .ok (.iload 4, 2) := by decide +kernel
theorem dX11_placeForEdition_42 : decode cX11_placeForEdition 42 = .ok (.aaload, 1) := by decide +kernel
theorem dX11_placeForEdition_43 : decode cX11_placeForEdition 43 = .ok (.getfield 223, 3) := by decide +kernel
theorem dX11_placeForEdition_46 : decode cX11_placeForEdition 46 = .ok (.iconst (-1), 1) := by decide +kernel
theorem dX11_placeForEdition_47 : decode cX11_placeForEdition 47 = .ok (.if_icmp .ne 11, 3) := by decide +kernel
theorem dX11_placeForEdition_50 : decode cX11_placeForEdition 50 = .ok (.iload_n 3, 1) := by decide +kernel
theorem dX11_placeForEdition_51 : decode cX11_placeForEdition 51 = .ok (.iconst (-1), 1) := by decide +kernel
theorem dX11_placeForEdition_52 : decode cX11_placeForEdition 52 = .ok (.if_icmp .ne 6, 3) := by decide +kernel
theorem dX11_placeForEdition_55 : decode cX11_placeForEdition 55 = .ok (.iload 4, 2) := by decide +kernel
theorem dX11_placeForEdition_57 : decode cX11_placeForEdition 57 = .ok (.istore_n 3, 1) := by decide +kernel
theorem dX11_placeForEdition_58 : decode cX11_placeForEdition 58 = .ok (.iinc 4 1, 3) := by decide +kernel
theorem dX11_placeForEdition_61 : decode cX11_placeForEdition 61 = .ok (.goto (-53), 3) := by decide +kernel
theorem dX11_placeForEdition_64 : decode cX11_placeForEdition 64 = .ok (.iload_n 3, 1) := by decide +kernel
theorem dX11_placeForEdition_65 : decode cX11_placeForEdition 65 = .ok (.ireturn, 1) := by decide +kernel
theorem dX11_textInForce_0 : decode cX11_textInForce 0 = .ok (.aconst_null, 1) := by decide +kernel
theorem dX11_textInForce_1 : decode cX11_textInForce 1 = .ok (.astore_n 3, 1) := by decide +kernel
theorem dX11_textInForce_2 : decode cX11_textInForce 2 = .ok (.iload_n 1, 1) := by decide +kernel
theorem dX11_textInForce_3 : decode cX11_textInForce 3 = .ok (.bipush 8, 2) := by decide +kernel
theorem dX11_textInForce_5 : decode cX11_textInForce 5 = .ok (.imul, 1) := by decide +kernel
theorem dX11_textInForce_6 : decode cX11_textInForce 6 = .ok (.istore 4, 2) := by decide +kernel
theorem dX11_textInForce_8 : decode cX11_textInForce 8 = .ok (.iload 4, 2) := by decide +kernel
theorem dX11_textInForce_10 : decode cX11_textInForce 10 = .ok (.iload_n 1, 1) := by decide +kernel
theorem dX11_textInForce_11 : decode cX11_textInForce 11 = .ok (.iconst 1, 1) := by decide +kernel
theorem dX11_textInForce_12 : decode cX11_textInForce 12 = .ok (.iadd, 1) := by decide +kernel
theorem dX11_textInForce_13 : decode cX11_textInForce 13 = .ok (.bipush 8, 2) := by decide +kernel
theorem dX11_textInForce_15 : decode cX11_textInForce 15 = .ok (.imul, 1) := by decide +kernel
theorem dX11_textInForce_16 : decode cX11_textInForce 16 = .ok (.if_icmp .ge 55, 3) := by decide +kernel
theorem dX11_textInForce_19 : decode cX11_textInForce 19 = .ok (.aload_n 0, 1) := by decide +kernel
theorem dX11_textInForce_20 : decode cX11_textInForce 20 = .ok (.getfield 39, 3) := by decide +kernel
theorem dX11_textInForce_23 : decode cX11_textInForce 23 = .ok (.iload 4, 2) := by decide +kernel
theorem dX11_textInForce_25 : decode cX11_textInForce 25 = .ok (.aaload, 1) := by decide +kernel
theorem dX11_textInForce_26 : decode cX11_textInForce 26 = .ok (.astore 5, 2) := by decide +kernel
theorem dX11_textInForce_28 : decode cX11_textInForce 28 = .ok (.aload 5, 2) := by decide +kernel
theorem dX11_textInForce_30 : decode cX11_textInForce 30 = .ok (.getfield 223, 3) := by decide +kernel
theorem dX11_textInForce_33 : decode cX11_textInForce 33 = .ok (.iconst (-1), 1) := by decide +kernel
theorem dX11_textInForce_34 : decode cX11_textInForce 34 = .ok (.if_icmp .eq 31, 3) := by decide +kernel
theorem dX11_textInForce_37 : decode cX11_textInForce 37 = .ok (.aload 5, 2) := by decide +kernel
theorem dX11_textInForce_39 : decode cX11_textInForce 39 = .ok (.getfield 223, 3) := by decide +kernel
theorem dX11_textInForce_42 : decode cX11_textInForce 42 = .ok (.iload_n 2, 1) := by decide +kernel
theorem dX11_textInForce_43 : decode cX11_textInForce 43 = .ok (.if_icmp .gt 22, 3) := by decide +kernel
theorem dX11_textInForce_46 : decode cX11_textInForce 46 = .ok (.aload_n 3, 1) := by decide +kernel
theorem dX11_textInForce_47 : decode cX11_textInForce 47 = .ok (.ifnull 15, 3) := by decide +kernel
theorem dX11_textInForce_50 : decode cX11_textInForce 50 = .ok (.aload 5, 2) := by decide +kernel
theorem dX11_textInForce_52 : decode cX11_textInForce 52 = .ok (.getfield 223, 3) := by decide +kernel
theorem dX11_textInForce_55 : decode cX11_textInForce 55 = .ok (.aload_n 3, 1) := by decide +kernel
theorem dX11_textInForce_56 : decode cX11_textInForce 56 = .ok (.getfield 223, 3) := by decide +kernel
theorem dX11_textInForce_59 : decode cX11_textInForce 59 = .ok (.if_icmp .le 6, 3) := by decide +kernel
theorem dX11_textInForce_62 : decode cX11_textInForce 62 = .ok (.aload 5, 2) := by decide +kernel
theorem dX11_textInForce_64 : decode cX11_textInForce 64 = .ok (.astore_n 3, 1) := by decide +kernel
theorem dX11_textInForce_65 : decode cX11_textInForce 65 = .ok (.iinc 4 1, 3) := by decide +kernel
theorem dX11_textInForce_68 : decode cX11_textInForce 68 = .ok (.goto (-60), 3) := by decide +kernel
theorem dX11_textInForce_71 : decode cX11_textInForce 71 = .ok (.aload_n 3, 1) := by decide +kernel
theorem dX11_textInForce_72 : decode cX11_textInForce 72 = .ok (.areturn, 1) := by decide +kernel
theorem dX11_dues_0 : decode cX11_dues 0 = .ok (.lconst 0, 1) := by decide +kernel
theorem dX11_dues_1 : decode cX11_dues 1 = .ok (.lstore 5, 2) := by decide +kernel
theorem dX11_dues_3 : decode cX11_dues 3 = .ok (.iload_n 2, 1) := by decide +kernel
theorem dX11_dues_4 : decode cX11_dues 4 = .ok (.istore 7, 2) := by decide +kernel
theorem dX11_dues_6 : decode cX11_dues 6 = .ok (.iload 7, 2) := by decide +kernel
theorem dX11_dues_8 : decode cX11_dues 8 = .ok (.iload_n 3, 1) := by decide +kernel
theorem dX11_dues_9 : decode cX11_dues 9 = .ok (.if_icmp .gt 65, 3) := by decide +kernel
theorem dX11_dues_12 : decode cX11_dues 12 = .ok (.iload 7, 2) := by decide +kernel
theorem dX11_dues_14 : decode cX11_dues 14 = .ok (.bipush 30, 2) := by decide +kernel
theorem dX11_dues_16 : decode cX11_dues 16 = .ok (.imul, 1) := by decide +kernel
theorem dX11_dues_17 : decode cX11_dues 17 = .ok (.istore 8, 2) := by decide +kernel
theorem dX11_dues_19 : decode cX11_dues 19 = .ok (.aload_n 0, 1) := by decide +kernel
theorem dX11_dues_20 : decode cX11_dues 20 = .ok (.getfield 49, 3) := by decide +kernel
theorem dX11_dues_23 : decode cX11_dues 23 = .ok (.aload_n 0, 1) := by decide +kernel
theorem dX11_dues_24 : decode cX11_dues 24 = .ok (.getfield 60, 3) := by decide +kernel
theorem dX11_dues_27 : decode cX11_dues 27 = .ok (.aload_n 0, 1) := by decide +kernel
theorem dX11_dues_28 : decode cX11_dues 28 = .ok (.aload_n 1, 1) := by decide +kernel
theorem dX11_dues_29 : decode cX11_dues 29 = .ok (.getfield 284, 3) := by decide +kernel
theorem dX11_dues_32 : decode cX11_dues 32 = .ok (.iload 8, 2) := by decide +kernel
theorem dX11_dues_34 : decode cX11_dues 34 = .ok (.invokevirtual 229, 3) := by decide +kernel
theorem dX11_dues_37 : decode cX11_dues 37 = .ok (.ldc2_w 271, 3) := by decide +kernel
theorem dX11_dues_40 : decode cX11_dues 40 = .ok (.aload_n 1, 1) := by decide +kernel
theorem dX11_dues_41 : decode cX11_dues 41 = .ok (.getfield 283, 3) := by decide +kernel
theorem dX11_dues_44 : decode cX11_dues 44 = .ok (.iload 8, 2) := by decide +kernel
theorem dX11_dues_46 : decode cX11_dues 46 = .ok (.iload 4, 2) := by decide +kernel
theorem dX11_dues_48 : decode cX11_dues 48 = .ok (.invokevirtual 237, 3) := by decide +kernel
theorem dX11_dues_51 : decode cX11_dues 51 = .ok (.lload 5, 2) := by decide +kernel
theorem dX11_dues_53 : decode cX11_dues 53 = .ok (.iconst 0, 1) := by decide +kernel
theorem dX11_dues_54 : decode cX11_dues 54 = .ok (.aload_n 0, 1) := by decide +kernel
theorem dX11_dues_55 : decode cX11_dues 55 = .ok (.getfield 60, 3) := by decide +kernel
theorem dX11_dues_58 : decode cX11_dues 58 = .ok (.invokevirtual 295, 3) := by decide +kernel
theorem dX11_dues_61 : decode cX11_dues 61 = .ok (.invokestatic 327, 3) := by decide +kernel
theorem dX11_dues_64 : decode cX11_dues 64 = .ok (.i2l, 1) := by decide +kernel
theorem dX11_dues_65 : decode cX11_dues 65 = .ok (.ladd, 1) := by decide +kernel
theorem dX11_dues_66 : decode cX11_dues 66 = .ok (.lstore 5, 2) := by decide +kernel
theorem dX11_dues_68 : decode cX11_dues 68 = .ok (.iinc 7 1, 3) := by decide +kernel
theorem dX11_dues_71 : decode cX11_dues 71 = .ok (.goto (-65), 3) := by decide +kernel
theorem dX11_dues_74 : decode cX11_dues 74 = .ok (.lload 5, 2) := by decide +kernel
theorem dX11_dues_76 : decode cX11_dues 76 = .ok (.lreturn, 1) := by decide +kernel
theorem dX11_paidTo_0 : decode cX11_paidTo 0 = .ok (.lconst 0, 1) := by decide +kernel
theorem dX11_paidTo_1 : decode cX11_paidTo 1 = .ok (.lstore_n 2, 1) := by decide +kernel
theorem dX11_paidTo_2 : decode cX11_paidTo 2 = .ok (.iconst 0, 1) := by decide +kernel
theorem dX11_paidTo_3 : decode cX11_paidTo 3 = .ok (.istore 4, 2) := by decide +kernel
theorem dX11_paidTo_5 : decode cX11_paidTo 5 = .ok (.iload 4, 2) := by decide +kernel
theorem dX11_paidTo_7 : decode cX11_paidTo 7 = .ok (.aload_n 0, 1) := by decide +kernel
theorem dX11_paidTo_8 : decode cX11_paidTo 8 = .ok (.getfield 309, 3) := by decide +kernel
theorem dX11_paidTo_11 : decode cX11_paidTo 11 = .ok (.if_icmp .ge 51, 3) := by decide +kernel
theorem dX11_paidTo_14 : decode cX11_paidTo 14 = .ok (.aload_n 0, 1) := by decide +kernel
theorem dX11_paidTo_15 : decode cX11_paidTo 15 = .ok (.getfield 73, 3) := by decide +kernel
theorem dX11_paidTo_18 : decode cX11_paidTo 18 = .ok (.iload 4, 2) := by decide +kernel
theorem dX11_paidTo_20 : decode cX11_paidTo 20 = .ok (.aaload, 1) := by decide +kernel
theorem dX11_paidTo_21 : decode cX11_paidTo 21 = .ok (.iconst 0, 1) := by decide +kernel
theorem dX11_paidTo_22 : decode cX11_paidTo 22 = .ok (.laload, 1) := by decide +kernel
theorem dX11_paidTo_23 : decode cX11_paidTo 23 = .ok (.iload_n 1, 1) := by decide +kernel
theorem dX11_paidTo_24 : decode cX11_paidTo 24 = .ok (.i2l, 1) := by decide +kernel
theorem dX11_paidTo_25 : decode cX11_paidTo 25 = .ok (.lcmp, 1) := by decide +kernel
theorem dX11_paidTo_26 : decode cX11_paidTo 26 = .ok (.ifCond .ne 30, 3) := by decide +kernel
theorem dX11_paidTo_29 : decode cX11_paidTo 29 = .ok (.aload_n 0, 1) := by decide +kernel
theorem dX11_paidTo_30 : decode cX11_paidTo 30 = .ok (.getfield 73, 3) := by decide +kernel
theorem dX11_paidTo_33 : decode cX11_paidTo 33 = .ok (.iload 4, 2) := by decide +kernel
theorem dX11_paidTo_35 : decode cX11_paidTo 35 = .ok (.aaload, 1) := by decide +kernel
theorem dX11_paidTo_36 : decode cX11_paidTo 36 = .ok (.bipush 6, 2) := by decide +kernel
theorem dX11_paidTo_38 : decode cX11_paidTo 38 = .ok (.laload, 1) := by decide +kernel
theorem dX11_paidTo_39 : decode cX11_paidTo 39 = .ok (.lconst 0, 1) := by decide +kernel
theorem dX11_paidTo_40 : decode cX11_paidTo 40 = .ok (.lcmp, 1) := by decide +kernel
theorem dX11_paidTo_41 : decode cX11_paidTo 41 = .ok (.ifCond .ne 15, 3) := by decide +kernel
theorem dX11_paidTo_44 : decode cX11_paidTo 44 = .ok (.lload_n 2, 1) := by decide +kernel
theorem dX11_paidTo_45 : decode cX11_paidTo 45 = .ok (.aload_n 0, 1) := by decide +kernel
theorem dX11_paidTo_46 : decode cX11_paidTo 46 = .ok (.getfield 73, 3) := by decide +kernel
theorem dX11_paidTo_49 : decode cX11_paidTo 49 = .ok (.iload 4, 2) := by decide +kernel
theorem dX11_paidTo_51 : decode cX11_paidTo 51 = .ok (.aaload, 1) := by decide +kernel
theorem dX11_paidTo_52 : decode cX11_paidTo 52 = .ok (.iconst 4, 1) := by decide +kernel
theorem dX11_paidTo_53 : decode cX11_paidTo 53 = .ok (.laload, 1) := by decide +kernel
theorem dX11_paidTo_54 : decode cX11_paidTo 54 = .ok (.ladd, 1) := by decide +kernel
theorem dX11_paidTo_55 : decode cX11_paidTo 55 = .ok (.lstore_n 2, 1) := by decide +kernel
theorem dX11_paidTo_56 : decode cX11_paidTo 56 = .ok (.iinc 4 1, 3) := by decide +kernel
theorem dX11_paidTo_59 : decode cX11_paidTo 59 = .ok (.goto (-54), 3) := by decide +kernel
theorem dX11_paidTo_62 : decode cX11_paidTo 62 = .ok (.lload_n 2, 1) := by decide +kernel
theorem dX11_paidTo_63 : decode cX11_paidTo 63 = .ok (.lreturn, 1) := by decide +kernel
theorem dX11_beginRun_0 : decode cX11_beginRun 0 = .ok (.aload_n 0, 1) := by decide +kernel
theorem dX11_beginRun_1 : decode cX11_beginRun 1 = .ok (.iload_n 1, 1) := by decide +kernel
theorem dX11_beginRun_2 : decode cX11_beginRun 2 = .ok (.putfield 80, 3) := by decide +kernel
theorem dX11_beginRun_5 : decode cX11_beginRun 5 = .ok (.aload_n 0, 1) := by decide +kernel
theorem dX11_beginRun_6 : decode cX11_beginRun 6 = .ok (.iconst 0, 1) := by decide +kernel
theorem dX11_beginRun_7 : decode cX11_beginRun 7 = .ok (.putfield 306, 3) := by decide +kernel
theorem dX11_beginRun_10 : decode cX11_beginRun 10 = .ok (.aload_n 0, 1) := by decide +kernel
theorem dX11_beginRun_11 : decode cX11_beginRun 11 = .ok (.iconst 0, 1) := by decide +kernel
theorem dX11_beginRun_12 : decode cX11_beginRun 12 = .ok (.putfield 303, 3) := by decide +kernel
theorem dX11_beginRun_15 : decode cX11_beginRun 15 = .ok (.iconst 0, 1) := by decide +kernel
theorem dX11_beginRun_16 : decode cX11_beginRun 16 = .ok (.istore_n 2, 1) := by decide +kernel
theorem dX11_beginRun_17 : decode cX11_beginRun 17 = .ok (.iload_n 2, 1) := by decide +kernel
theorem dX11_beginRun_18 : decode cX11_beginRun 18 = .ok (.aload_n 0, 1) := by decide +kernel
theorem dX11_beginRun_19 : decode cX11_beginRun 19 = .ok (.getfield 280, 3) := by decide +kernel
theorem dX11_beginRun_22 : decode cX11_beginRun 22 = .ok (.if_icmp .ge 39, 3) := by decide +kernel
theorem dX11_beginRun_25 : decode cX11_beginRun 25 = .ok (.aload_n 0, 1) := by decide +kernel
theorem dX11_beginRun_26 : decode cX11_beginRun 26 = .ok (.getfield 66, 3) := by decide +kernel
theorem dX11_beginRun_29 : decode cX11_beginRun 29 = .ok (.iload_n 2, 1) := by decide +kernel
theorem dX11_beginRun_30 : decode cX11_beginRun 30 = .ok (.aaload, 1) := by decide +kernel
theorem dX11_beginRun_31 : decode cX11_beginRun 31 = .ok (.getfield 287, 3) := by decide +kernel
theorem dX11_beginRun_34 : decode cX11_beginRun 34 = .ok (.iload_n 1, 1) := by decide +kernel
theorem dX11_beginRun_35 : decode cX11_beginRun 35 = .ok (.if_icmp .gt 20, 3) := by decide +kernel
theorem dX11_beginRun_38 : decode cX11_beginRun 38 = .ok (.aload_n 0, 1) := by decide +kernel
theorem dX11_beginRun_39 : decode cX11_beginRun 39 = .ok (.getfield 83, 3) := by decide +kernel
theorem dX11_beginRun_42 : decode cX11_beginRun 42 = .ok (.aload_n 0, 1) := by decide +kernel
theorem dX11_beginRun_43 : decode cX11_beginRun 43 = .ok (.dup, 1) := by decide +kernel
theorem dX11_beginRun_44 : decode cX11_beginRun 44 = .ok (.getfield 306, 3) := by decide +kernel
theorem dX11_beginRun_47 : decode cX11_beginRun 47 = .ok (.dup_x1, 1) := by decide +kernel
theorem dX11_beginRun_48 : decode cX11_beginRun 48 = .ok (.iconst 1, 1) := by decide +kernel
theorem dX11_beginRun_49 : decode cX11_beginRun 49 = .ok (.iadd, 1) := by decide +kernel
theorem dX11_beginRun_50 : decode cX11_beginRun 50 = .ok (.putfield 306, 3) := by decide +kernel
theorem dX11_beginRun_53 : decode cX11_beginRun 53 = .ok (.iload_n 2, 1) := by decide +kernel
theorem dX11_beginRun_54 : decode cX11_beginRun 54 = .ok (.iastore, 1) := by decide +kernel
theorem dX11_beginRun_55 : decode cX11_beginRun 55 = .ok (.iinc 2 1, 3) := by decide +kernel
theorem dX11_beginRun_58 : decode cX11_beginRun 58 = .ok (.goto (-41), 3) := by decide +kernel
theorem dX11_beginRun_61 : decode cX11_beginRun 61 = .ok (.return_, 1) := by decide +kernel
theorem dX11_pay_0 : decode cX11_pay 0 = .ok (.lload_n 2, 1) := by decide +kernel
theorem dX11_pay_1 : decode cX11_pay 1 = .ok (.lload 4, 2) := by decide +kernel
theorem dX11_pay_3 : decode cX11_pay 3 = .ok (.ladd, 1) := by decide +kernel
theorem dX11_pay_4 : decode cX11_pay 4 = .ok (.lstore 6, 2) := by decide +kernel
theorem dX11_pay_6 : decode cX11_pay 6 = .ok (.lload 4, 2) := by decide +kernel
theorem dX11_pay_8 : decode cX11_pay 8 = .ok (.lconst 0, 1) := by decide +kernel
theorem dX11_pay_9 : decode cX11_pay 9 = .ok (.lcmp, 1) := by decide +kernel
theorem dX11_pay_10 : decode cX11_pay 10 = .ok (.ifCond .ge 24, 3) := by decide +kernel
theorem dX11_pay_13 : decode cX11_pay 13 = .ok (.lload_n 2, 1) := by decide +kernel
theorem dX11_pay_14 : decode cX11_pay 14 = .ok (.lload 4, 2) := by decide +kernel
theorem dX11_pay_16 : decode cX11_pay 16 = .ok (.lneg, 1) := by decide +kernel
theorem dX11_pay_17 : decode cX11_pay 17 = .ok (.lload_n 2, 1) := by decide +kernel
theorem dX11_pay_18 : decode cX11_pay 18 = .ok (.aload_n 0, 1) := by decide +kernel
theorem dX11_pay_19 : decode cX11_pay 19 = .ok (.getfield 76, 3) := by decide +kernel
theorem dX11_pay_22 : decode cX11_pay 22 = .ok (.i2l, 1) := by decide +kernel
theorem dX11_pay_23 : decode cX11_pay 23 = .ok (.lmul, 1) := by decide +kernel
theorem dX11_pay_24 : decode cX11_pay 24 = .ok (.ldc2_w 332, 3) := by decide +kernel
theorem dX11_pay_27 : decode cX11_pay 27 = .ok (.ldiv, 1) := by decide +kernel
theorem dX11_pay_28 : decode cX11_pay 28 = .ok (.invokestatic 334, 3) := by decide +kernel
theorem dX11_pay_31 : decode cX11_pay 31 = .ok (.lsub, 1) := by decide +kernel
theorem dX11_pay_32 : decode cX11_pay 32 = .ok (.lstore 6, 2) := by decide +kernel
theorem dX11_pay_34 : decode cX11_pay 34 = .ok (.aload_n 0, 1) := by decide +kernel
theorem dX11_pay_35 : decode cX11_pay 35 = .ok (.getfield 73, 3) := by decide +kernel
theorem dX11_pay_38 : decode cX11_pay 38 = .ok (.aload_n 0, 1) := by decide +kernel
theorem dX11_pay_39 : decode cX11_pay 39 = .ok (.dup, 1) := by decide +kernel
theorem dX11_pay_40 : decode cX11_pay 40 = .ok (.getfield 309, 3) := by decide +kernel
theorem dX11_pay_43 : decode cX11_pay 43 = .ok (.dup_x1, 1) := by decide +kernel
theorem dX11_pay_44 : decode cX11_pay 44 = .ok (.iconst 1, 1) := by decide +kernel
theorem dX11_pay_45 : decode cX11_pay 45 = .ok (.iadd, 1) := by decide +kernel
theorem dX11_pay_46 : decode cX11_pay 46 = .ok (.putfield 309, 3) := by decide +kernel
theorem dX11_pay_49 : decode cX11_pay 49 = .ok (.aaload, 1) := by decide +kernel
theorem dX11_pay_50 : decode cX11_pay 50 = .ok (.astore 8, 2) := by decide +kernel
theorem dX11_pay_52 : decode cX11_pay 52 = .ok (.aload 8, 2) := by decide +kernel
theorem dX11_pay_54 : decode cX11_pay 54 = .ok (.iconst 0, 1) := by decide +kernel
theorem dX11_pay_55 : decode cX11_pay 55 = .ok (.iload_n 1, 1) := by decide +kernel
theorem dX11_pay_56 : decode cX11_pay 56 = .ok (.i2l, 1) := by decide +kernel
theorem dX11_pay_57 : decode cX11_pay 57 = .ok (.lastore, 1) := by decide +kernel
theorem dX11_pay_58 : decode cX11_pay 58 = .ok (.aload 8, 2) := by decide +kernel
theorem dX11_pay_60 : decode cX11_pay 60 = .ok (.iconst 1, 1) := by decide +kernel
theorem dX11_pay_61 : decode cX11_pay 61 = .ok (.aload_n 0, 1) := by decide +kernel
theorem dX11_pay_62 : decode cX11_pay 62 = .ok (.getfield 80, 3) := by decide +kernel
theorem dX11_pay_65 : decode cX11_pay 65 = .ok (.i2l, 1) := by decide +kernel
theorem dX11_pay_66 : decode cX11_pay 66 = .ok (.lastore, 1) := by decide +kernel
theorem dX11_pay_67 : decode cX11_pay 67 = .ok (.aload 8, 2) := by decide +kernel
theorem dX11_pay_69 : decode cX11_pay 69 = .ok (.iconst 2, 1) := by decide +kernel
theorem dX11_pay_70 : decode cX11_pay 70 = .ok (.lload_n 2, 1) := by decide +kernel
theorem dX11_pay_71 : decode cX11_pay 71 = .ok (.lastore, 1) := by decide +kernel
theorem dX11_pay_72 : decode cX11_pay 72 = .ok (.aload 8, 2) := by decide +kernel
theorem dX11_pay_74 : decode cX11_pay 74 = .ok (.iconst 3, 1) := by decide +kernel
theorem dX11_pay_75 : decode cX11_pay 75 = .ok (.lload 4, 2) := by decide +kernel
theorem dX11_pay_77 : decode cX11_pay 77 = .ok (.lastore, 1) := by decide +kernel
theorem dX11_pay_78 : decode cX11_pay 78 = .ok (.aload 8, 2) := by decide +kernel
theorem dX11_pay_80 : decode cX11_pay 80 = .ok (.iconst 4, 1) := by decide +kernel
theorem dX11_pay_81 : decode cX11_pay 81 = .ok (.lload 6, 2) := by decide +kernel
theorem dX11_pay_83 : decode cX11_pay 83 = .ok (.lastore, 1) := by decide +kernel
theorem dX11_pay_84 : decode cX11_pay 84 = .ok (.aload 8, 2) := by decide +kernel
theorem dX11_pay_86 : decode cX11_pay 86 = .ok (.iconst 5, 1) := by decide +kernel
theorem dX11_pay_87 : decode cX11_pay 87 = .ok (.aload_n 0, 1) := by decide +kernel
theorem dX11_pay_88 : decode cX11_pay 88 = .ok (.getfield 66, 3) := by decide +kernel
theorem dX11_pay_91 : decode cX11_pay 91 = .ok (.iload_n 1, 1) := by decide +kernel
theorem dX11_pay_92 : decode cX11_pay 92 = .ok (.aaload, 1) := by decide +kernel
theorem dX11_pay_93 : decode cX11_pay 93 = .ok (.lload 6, 2) := by decide +kernel
theorem dX11_pay_95 : decode cX11_pay 95 = .ok (.aload 8, 2) := by decide +kernel
theorem dX11_pay_97 : decode cX11_pay 97 = .ok (.bipush 8, 2) := by decide +kernel
theorem dX11_pay_99 : decode cX11_pay 99 = .ok (.invokevirtual 338, 3) := by decide +kernel
theorem dX11_pay_102 : decode cX11_pay 102 = .ok (.lastore, 1) := by decide +kernel
theorem dX11_pay_103 : decode cX11_pay 103 = .ok (.aload 8, 2) := by decide +kernel
theorem dX11_pay_105 : decode cX11_pay 105 = .ok (.bipush 6, 2) := by decide +kernel
theorem dX11_pay_107 : decode cX11_pay 107 = .ok (.lconst 0, 1) := by decide +kernel
theorem dX11_pay_108 : decode cX11_pay 108 = .ok (.lastore, 1) := by decide +kernel
theorem dX11_pay_109 : decode cX11_pay 109 = .ok (.aload 8, 2) := by decide +kernel
theorem dX11_pay_111 : decode cX11_pay 111 = .ok (.bipush 7, 2) := by decide +kernel
theorem dX11_pay_113 : decode cX11_pay 113 = .ok (.aload_n 0, 1) := by decide +kernel
theorem dX11_pay_114 : decode cX11_pay 114 = .ok (.getfield 60, 3) := by decide +kernel
theorem dX11_pay_117 : decode cX11_pay 117 = .ok (.invokevirtual 295, 3) := by decide +kernel
theorem dX11_pay_120 : decode cX11_pay 120 = .ok (.iconst (-1), 1) := by decide +kernel
theorem dX11_pay_121 : decode cX11_pay 121 = .ok (.if_icmp .ne 7, 3) := by decide +kernel
theorem dX11_pay_124 : decode cX11_pay 124 = .ok (.lconst 1, 1) := by decide +kernel
theorem dX11_pay_125 : decode cX11_pay 125 = .ok (.goto 4, 3) := by decide +kernel
theorem dX11_pay_128 : decode cX11_pay 128 = .ok (.lconst 0, 1) := by decide +kernel
theorem dX11_pay_129 : decode cX11_pay 129 = .ok (.lastore, 1) := by decide +kernel
theorem dX11_pay_130 : decode cX11_pay 130 = .ok (.return_, 1) := by decide +kernel
theorem dX12_init_0 : decode cX12_init 0 = .ok (.aload_n 0, 1) := by decide +kernel
theorem dX12_init_1 : decode cX12_init 1 = .ok (.invokespecial 1, 3) := by decide +kernel
theorem dX12_init_4 : decode cX12_init 4 = .ok (.aload_n 0, 1) := by decide +kernel
theorem dX12_init_5 : decode cX12_init 5 = .ok (.sipush 1500, 3) := by decide +kernel
theorem dX12_init_8 : decode cX12_init 8 = .ok (.newarray .int, 2) := by decide +kernel
theorem dX12_init_10 : decode cX12_init 10 = .ok (.putfield 7, 3) := by decide +kernel
theorem dX12_init_13 : decode cX12_init 13 = .ok (.aload_n 0, 1) := by decide +kernel
theorem dX12_init_14 : decode cX12_init 14 = .ok (.sipush 1500, 3) := by decide +kernel
theorem dX12_init_17 : decode cX12_init 17 = .ok (.newarray .int, 2) := by decide +kernel
theorem dX12_init_19 : decode cX12_init 19 = .ok (.putfield 13, 3) := by decide +kernel
theorem dX12_init_22 : decode cX12_init 22 = .ok (.aload_n 0, 1) := by decide +kernel
theorem dX12_init_23 : decode cX12_init 23 = .ok (.sipush 18000, 3) := by decide +kernel
theorem dX12_init_26 : decode cX12_init 26 = .ok (.newarray .long, 2) := by decide +kernel
theorem dX12_init_28 : decode cX12_init 28 = .ok (.putfield 16, 3) := by decide +kernel
theorem dX12_init_31 : decode cX12_init 31 = .ok (.aload_n 0, 1) := by decide +kernel
theorem dX12_init_32 : decode cX12_init 32 = .ok (.sipush 18000, 3) := by decide +kernel
theorem dX12_init_35 : decode cX12_init 35 = .ok (.newarray .double, 2) := by decide +kernel
theorem dX12_init_37 : decode cX12_init 37 = .ok (.putfield 20, 3) := by decide +kernel
theorem dX12_init_40 : decode cX12_init 40 = .ok (.aload_n 0, 1) := by decide +kernel
theorem dX12_init_41 : decode cX12_init 41 = .ok (.sipush 1600, 3) := by decide +kernel
theorem dX12_init_44 : decode cX12_init 44 = .ok (.newarray .int, 2) := by decide +kernel
theorem dX12_init_46 : decode cX12_init 46 = .ok (.putfield 24, 3) := by decide +kernel
theorem dX12_init_49 : decode cX12_init 49 = .ok (.aload_n 0, 1) := by decide +kernel
theorem dX12_init_50 : decode cX12_init 50 = .ok (.sipush 1602, 3) := by decide +kernel
theorem dX12_init_53 : decode cX12_init 53 = .ok (.newarray .int, 2) := by decide +kernel
theorem dX12_init_55 : decode cX12_init 55 = .ok (.putfield 27, 3) := by decide +kernel
theorem dX12_init_58 : decode cX12_init 58 = .ok (.aload_n 0, 1) := by decide +kernel
theorem dX12_init_59 : decode cX12_init 59 = .ok (.sipush 1602, 3) := by decide +kernel
theorem dX12_init_62 : decode cX12_init 62 = .ok (.newarray .int, 2) := by decide +kernel
theorem dX12_init_64 : decode cX12_init 64 = .ok (.putfield 30, 3) := by decide +kernel
theorem dX12_init_67 : decode cX12_init 67 = .ok (.aload_n 0, 1) := by decide +kernel
theorem dX12_init_68 : decode cX12_init 68 = .ok (.sipush 1602, 3) := by decide +kernel
theorem dX12_init_71 : decode cX12_init 71 = .ok (.newarray .long, 2) := by decide +kernel
theorem dX12_init_73 : decode cX12_init 73 = .ok (.putfield 33, 3) := by decide +kernel
theorem dX12_init_76 : decode cX12_init 76 = .ok (.aload_n 0, 1) := by decide +kernel
theorem dX12_init_77 : decode cX12_init 77 = .ok (.sipush 1602, 3) := by decide +kernel
theorem dX12_init_80 : decode cX12_init 80 = .ok (.newarray .int, 2) := by decide +kernel
theorem dX12_init_82 : decode cX12_init 82 = .ok (.putfield 36, 3) := by decide +kernel
theorem dX12_init_85 : decode cX12_init 85 = .ok (.aload_n 0, 1) := by decide +kernel
theorem dX12_init_86 : decode cX12_init 86 = .ok (.sipush 9933, 3) := by decide +kernel
theorem dX12_init_89 : decode cX12_init 89 = .ok (.newarray .int, 2) := by decide +kernel
theorem dX12_init_91 : decode cX12_init 91 = .ok (.putfield 39, 3) := by decide +kernel
theorem dX12_init_94 : decode cX12_init 94 = .ok (.aload_n 0, 1) := by decide +kernel
theorem dX12_init_95 : decode cX12_init 95 = .ok (.sipush 9933, 3) := by decide +kernel
theorem dX12_init_98 : decode cX12_init 98 = .ok (.newarray .int, 2) := by decide +kernel
theorem dX12_init_100 : decode cX12_init 100 = .ok (.putfield 42, 3) := by decide +kernel
theorem dX12_init_103 : decode cX12_init 103 = .ok (.aload_n 0, 1) := by decide +kernel
theorem dX12_init_104 : decode cX12_init 104 = .ok (.sipush 9933, 3) := by decide +kernel
theorem dX12_init_107 : decode cX12_init 107 = .ok (.newarray .int, 2) := by decide +kernel
theorem dX12_init_109 : decode cX12_init 109 = .ok (.putfield 45, 3) := by decide +kernel
theorem dX12_init_112 : decode cX12_init 112 = .ok (.aload_n 0, 1) := by decide +kernel
theorem dX12_init_113 : decode cX12_init 113 = .ok (.sipush 9933, 3) := by decide +kernel
theorem dX12_init_116 : decode cX12_init 116 = .ok (.newarray .int, 2) := by decide +kernel
theorem dX12_init_118 : decode cX12_init 118 = .ok (.putfield 48, 3) := by decide +kernel
theorem dX12_init_121 : decode cX12_init 121 = .ok (.aload_n 0, 1) := by decide +kernel
theorem dX12_init_122 : decode cX12_init 122 = .ok (.sipush 9933, 3) := by decide +kernel
theorem dX12_init_125 : decode cX12_init 125 = .ok (.newarray .long, 2) := by decide +kernel
theorem dX12_init_127 : decode cX12_init 127 = .ok (.putfield 51, 3) := by decide +kernel
theorem dX12_init_130 : decode cX12_init 130 = .ok (.aload_n 0, 1) := by decide +kernel
theorem dX12_init_131 : decode cX12_init 131 = .ok (.sipush 9933, 3) := by decide +kernel
theorem dX12_init_134 : decode cX12_init 134 = .ok (.newarray .int, 2) := by decide +kernel
theorem dX12_init_136 : decode cX12_init 136 = .ok (.putfield 54, 3) := by decide +kernel
theorem dX12_init_139 : decode cX12_init 139 = .ok (.aload_n 0, 1) := by decide +kernel
theorem dX12_init_140 : decode cX12_init 140 = .ok (.bipush 33, 2) := by decide +kernel
theorem dX12_init_142 : decode cX12_init 142 = .ok (.newarray .int, 2) := by decide +kernel
theorem dX12_init_144 : decode cX12_init 144 = .ok (.putfield 57, 3) := by decide +kernel
theorem dX12_init_147 : decode cX12_init 147 = .ok (.aload_n 0, 1) := by decide +kernel
theorem dX12_init_148 : decode cX12_init 148 = .ok (.bipush 33, 2) := by decide +kernel
theorem dX12_init_150 : decode cX12_init 150 = .ok (.newarray .int, 2) := by decide +kernel
theorem dX12_init_152 : decode cX12_init 152 = .ok (.putfield 60, 3) := by decide +kernel
theorem dX12_init_155 : decode cX12_init 155 = .ok (.aload_n 0, 1) := by decide +kernel
theorem dX12_init_156 : decode cX12_init 156 = .ok (.sipush 792, 3) := by decide +kernel
theorem dX12_init_159 : decode cX12_init 159 = .ok (.newarray .long, 2) := by decide +kernel
theorem dX12_init_161 : decode cX12_init 161 = .ok (.putfield 63, 3) := by decide +kernel
theorem dX12_init_164 : decode cX12_init 164 = .ok (.aload_n 0, 1) := by decide +kernel
theorem dX12_init_165 : decode cX12_init 165 = .ok (.sipush 792, 3) := by decide +kernel
theorem dX12_init_168 : decode cX12_init 168 = .ok (.newarray .int, 2) := by decide +kernel
theorem dX12_init_170 : decode cX12_init 170 = .ok (.putfield 66, 3) := by decide +kernel
theorem dX12_init_173 : decode cX12_init 173 = .ok (.aload_n 0, 1) := by decide +kernel
theorem dX12_init_174 : decode cX12_init 174 = .ok (.bipush 24, 2) := by decide +kernel
theorem dX12_init_176 : decode cX12_init 176 = .ok (.newarray .long, 2) := by decide +kernel
theorem dX12_init_178 : decode cX12_init 178 = .ok (.putfield 69, 3) := by decide +kernel
theorem dX12_init_181 : decode cX12_init 181 = .ok (.aload_n 0, 1) := by decide +kernel
theorem dX12_init_182 : decode cX12_init 182 = .ok (.bipush 24, 2) := by decide +kernel
theorem dX12_init_184 : decode cX12_init 184 = .ok (.newarray .int, 2) := by decide +kernel
theorem dX12_init_186 : decode cX12_init 186 = .ok (.putfield 72, 3) := by decide +kernel
theorem dX12_init_189 : decode cX12_init 189 = .ok (.aload_n 0, 1) := by decide +kernel
theorem dX12_init_190 : decode cX12_init 190 = .ok (.bipush 24, 2) := by decide +kernel
theorem dX12_init_192 : decode cX12_init 192 = .ok (.newarray .int, 2) := by decide +kernel
theorem dX12_init_194 : decode cX12_init 194 = .ok (.putfield 75, 3) := by decide +kernel
theorem dX12_init_197 : decode cX12_init 197 = .ok (.aload_n 0, 1) := by decide +kernel
theorem dX12_init_198 : decode cX12_init 198 = .ok (.bipush 24, 2) := by decide +kernel
theorem dX12_init_200 : decode cX12_init 200 = .ok (.newarray .int, 2) := by decide +kernel
theorem dX12_init_202 : decode cX12_init 202 = .ok (.putfield 78, 3) := by decide +kernel
theorem dX12_init_205 : decode cX12_init 205 = .ok (.aload_n 0, 1) := by decide +kernel
theorem dX12_init_206 : decode cX12_init 206 = .ok (.bipush 24, 2) := by decide +kernel
theorem dX12_init_208 : decode cX12_init 208 = .ok (.newarray .int, 2) := by decide +kernel
theorem dX12_init_210 : decode cX12_init 210 = .ok (.putfield 81, 3) := by decide +kernel
theorem dX12_init_213 : decode cX12_init 213 = .ok (.aload_n 0, 1) := by decide +kernel
theorem dX12_init_214 : decode cX12_init 214 = .ok (.bipush 24, 2) := by decide +kernel
theorem dX12_init_216 : decode cX12_init 216 = .ok (.newarray .int, 2) := by decide +kernel
theorem dX12_init_218 : decode cX12_init 218 = .ok (.putfield 84, 3) := by decide +kernel
theorem dX12_init_221 : decode cX12_init 221 = .ok (.aload_n 0, 1) := by decide +kernel
theorem dX12_init_222 : decode cX12_init 222 = .ok (.bipush 24, 2) := by decide +kernel
theorem dX12_init_224 : decode cX12_init 224 = .ok (.newarray .int, 2) := by decide +kernel
theorem dX12_init_226 : decode cX12_init 226 = .ok (.putfield 87, 3) := by decide +kernel
theorem dX12_init_229 : decode cX12_init 229 = .ok (.aload_n 0, 1) := by decide +kernel
theorem dX12_init_230 : decode cX12_init 230 = .ok (.sipush 9933, 3) := by decide +kernel
theorem dX12_init_233 : decode cX12_init 233 = .ok (.newarray .long, 2) := by decide +kernel
theorem dX12_init_235 : decode cX12_init 235 = .ok (.putfield 90, 3) := by decide +kernel
theorem dX12_init_238 : decode cX12_init 238 = .ok (.aload_n 0, 1) := by decide +kernel
theorem dX12_init_239 : decode cX12_init 239 = .ok (.bipush 12, 2) := by decide +kernel
theorem dX12_init_241 : decode cX12_init 241 = .ok (.newarray .boolean, 2) := by decide +kernel
theorem dX12_init_243 : decode cX12_init 243 = .ok (.putfield 93, 3) := by decide +kernel
theorem dX12_init_246 : decode cX12_init 246 = .ok (.aload_n 0, 1) := by decide +kernel
theorem dX12_init_247 : decode cX12_init 247 = .ok (.bipush 16, 2) := by decide +kernel
theorem dX12_init_249 : decode cX12_init 249 = .ok (.newarray .boolean, 2) := by decide +kernel
theorem dX12_init_251 : decode cX12_init 251 = .ok (.putfield 97, 3) := by decide +kernel
theorem dX12_init_254 : decode cX12_init 254 = .ok (.aload_n 0, 1) := by decide +kernel
theorem dX12_init_255 : decode cX12_init 255 = .ok (.bipush 16, 2) := by decide +kernel
theorem dX12_init_257 : decode cX12_init 257 = .ok (.newarray .int, 2) := by decide +kernel
theorem dX12_init_259 : decode cX12_init 259 = .ok (.putfield 100, 3) := by decide +kernel
theorem dX12_init_262 : decode cX12_init 262 = .ok (.aload_n 0, 1) := by decide +kernel
theorem dX12_init_263 : decode cX12_init 263 = .ok (.sipush 200, 3) := by decide +kernel
theorem dX12_init_266 : decode cX12_init 266 = .ok (.newarray .int, 2) := by decide +kernel
theorem dX12_init_268 : decode cX12_init 268 = .ok (.putfield 103, 3) := by decide +kernel
theorem dX12_init_271 : decode cX12_init 271 = .ok (.aload_n 0, 1) := by decide +kernel
theorem dX12_init_272 : decode cX12_init 272 = .ok (.sipush 200, 3) := by decide +kernel
theorem dX12_init_275 : decode cX12_init 275 = .ok (.newarray .long, 2) := by decide +kernel
theorem dX12_init_277 : decode cX12_init 277 = .ok (.putfield 106, 3) := by decide +kernel
theorem dX12_init_280 : decode cX12_init 280 = .ok (.aload_n 0, 1) := by decide +kernel
theorem dX12_init_281 : decode cX12_init 281 = .ok (.sipush 200, 3) := by decide +kernel
theorem dX12_init_284 : decode cX12_init 284 = .ok (.newarray .int, 2) := by decide +kernel
theorem dX12_init_286 : decode cX12_init 286 = .ok (.putfield 109, 3) := by decide +kernel
theorem dX12_init_289 : decode cX12_init 289 = .ok (.aload_n 0, 1) := by decide +kernel
theorem dX12_init_290 : decode cX12_init 290 = .ok (.sipush 200, 3) := by decide +kernel
theorem dX12_init_293 : decode cX12_init 293 = .ok (.newarray .int, 2) := by decide +kernel
theorem dX12_init_295 : decode cX12_init 295 = .ok (.putfield 112, 3) := by decide +kernel
theorem dX12_init_298 : decode cX12_init 298 = .ok (.aload_n 0, 1) := by decide +kernel
theorem dX12_init_299 : decode cX12_init 299 = .ok (.sipush 200, 3) := by decide +kernel
theorem dX12_init_302 : decode cX12_init 302 = .ok (.newarray .int, 2) := by decide +kernel
theorem dX12_init_304 : decode cX12_init 304 = .ok (.putfield 115, 3) := by decide +kernel
theorem dX12_init_307 : decode cX12_init 307 = .ok (.aload_n 0, 1) := by decide +kernel
theorem dX12_init_308 : decode cX12_init 308 = .ok (.sipush 200, 3) := by decide +kernel
theorem dX12_init_311 : decode cX12_init 311 = .ok (.newarray .int, 2) := by decide +kernel
theorem dX12_init_313 : decode cX12_init 313 = .ok (.putfield 118, 3) := by decide +kernel
theorem dX12_init_316 : decode cX12_init 316 = .ok (.aload_n 0, 1) := by decide +kernel
theorem dX12_init_317 : decode cX12_init 317 = .ok (.bipush 32, 2) := by decide +kernel
theorem dX12_init_319 : decode cX12_init 319 = .ok (.newarray .int, 2) := by decide +kernel
theorem dX12_init_321 : decode cX12_init 321 = .ok (.putfield 121, 3) := by decide +kernel
theorem dX12_init_324 : decode cX12_init 324 = .ok (.aload_n 0, 1) := by decide +kernel
theorem dX12_init_325 : decode cX12_init 325 = .ok (.iconst 4, 1) := by decide +kernel
theorem dX12_init_326 : decode cX12_init 326 = .ok (.newarray .int, 2) := by decide +kernel
theorem dX12_init_328 : decode cX12_init 328 = .ok (.putfield 124, 3) := by decide +kernel
theorem dX12_init_331 : decode cX12_init 331 = .ok (.aload_n 0, 1) := by decide +kernel
theorem dX12_init_332 : decode cX12_init 332 = .ok (.iconst (-1), 1) := by decide +kernel
theorem dX12_init_333 : decode cX12_init 333 = .ok (.putfield 127, 3) := by decide +kernel
theorem dX12_init_336 : decode cX12_init 336 = .ok (.aload_n 0, 1) := by decide +kernel
theorem dX12_init_337 : decode cX12_init 337 = .ok (.bipush 24, 2) := by decide +kernel
theorem dX12_init_339 : decode cX12_init 339 = .ok (.newarray .int, 2) := by decide +kernel
theorem dX12_init_341 : decode cX12_init 341 = .ok (.putfield 131, 3) := by decide +kernel
theorem dX12_init_344 : decode cX12_init 344 = .ok (.aload_n 0, 1) := by decide +kernel
theorem dX12_init_345 : decode cX12_init 345 = .ok (.bipush 6, 2) := by decide +kernel
theorem dX12_init_347 : decode cX12_init 347 = .ok (.newarray .int, 2) := by decide +kernel
theorem dX12_init_349 : decode cX12_init 349 = .ok (.putfield 134, 3) := by decide +kernel
theorem dX12_init_352 : decode cX12_init 352 = .ok (.aload_n 0, 1) := by decide +kernel
theorem dX12_init_353 : decode cX12_init 353 = .ok (.bipush 6, 2) := by decide +kernel
theorem dX12_init_355 : decode cX12_init 355 = .ok (.newarray .int, 2) := by decide +kernel
theorem dX12_init_357 : decode cX12_init 357 = .ok (.putfield 137, 3) := by decide +kernel
theorem dX12_init_360 : decode cX12_init 360 = .ok (.aload_n 0, 1) := by decide +kernel
theorem dX12_init_361 : decode cX12_init 361 = .ok (.bipush 6, 2) := by decide +kernel
theorem dX12_init_363 : decode cX12_init 363 = .ok (.newarray .int, 2) := by decide +kernel
theorem dX12_init_365 : decode cX12_init 365 = .ok (.putfield 140, 3) := by decide +kernel
theorem dX12_init_368 : decode cX12_init 368 = .ok (.aload_n 0, 1) := by decide +kernel
theorem dX12_init_369 : decode cX12_init 369 = .ok (.bipush 36, 2) := by decide +kernel
theorem dX12_init_371 : decode cX12_init 371 = .ok (.newarray .int, 2) := by decide +kernel
theorem dX12_init_373 : decode cX12_init 373 = .ok (.putfield 143, 3) := by decide +kernel
theorem dX12_init_376 : decode cX12_init 376 = .ok (.aload_n 0, 1) := by decide +kernel
theorem dX12_init_377 : decode cX12_init 377 = .ok (.bipush 36, 2) := by decide +kernel
theorem dX12_init_379 : decode cX12_init 379 = .ok (.newarray .int, 2) := by decide +kernel
theorem dX12_init_381 : decode cX12_init 381 = .ok (.putfield 146, 3) := by decide +kernel
theorem dX12_init_384 : decode cX12_init 384 = .ok (.aload_n 0, 1) := by decide +kernel
theorem dX12_init_385 : decode cX12_init 385 = .ok (.bipush 6, 2) := by decide +kernel
theorem dX12_init_387 : decode cX12_init 387 = .ok (.newarray .int, 2) := by decide +kernel
theorem dX12_init_389 : decode cX12_init 389 = .ok (.putfield 149, 3) := by decide +kernel
theorem dX12_init_392 : decode cX12_init 392 = .ok (.aload_n 0, 1) := by decide +kernel
theorem dX12_init_393 : decode cX12_init 393 = .ok (.bipush 50, 2) := by decide +kernel
theorem dX12_init_395 : decode cX12_init 395 = .ok (.putfield 152, 3) := by decide +kernel
theorem dX12_init_398 : decode cX12_init 398 = .ok (.aload_n 0, 1) := by decide +kernel
theorem dX12_init_399 : decode cX12_init 399 = .ok (.iconst (-1), 1) := by decide +kernel
theorem dX12_init_400 : decode cX12_init 400 = .ok (.putfield 155, 3) := by decide +kernel
theorem dX12_init_403 : decode cX12_init 403 = .ok (.aload_n 0, 1) := by decide +kernel
theorem dX12_init_404 : decode cX12_init 404 = .ok (.bipush 6, 2) := by decide +kernel
theorem dX12_init_406 : decode cX12_init 406 = .ok (.newarray .int, 2) := by decide +kernel
theorem dX12_init_408 : decode cX12_init 408 = .ok (.putfield 158, 3) := by decide +kernel
theorem dX12_init_411 : decode cX12_init 411 = .ok (.aload_n 0, 1) := by decide +kernel
theorem dX12_init_412 : decode cX12_init 412 = .ok (.sipush 200, 3) := by decide +kernel
theorem dX12_init_415 : decode cX12_init 415 = .ok (.newarray .int, 2) := by decide +kernel
theorem dX12_init_417 : decode cX12_init 417 = .ok (.putfield 161, 3) := by decide +kernel
theorem dX12_init_420 : decode cX12_init 420 = .ok (.aload_n 0, 1) := by decide +kernel
theorem dX12_init_421 : decode cX12_init 421 = .ok (.sipush 200, 3) := by decide +kernel
theorem dX12_init_424 : decode cX12_init 424 = .ok (.newarray .int, 2) := by decide +kernel
theorem dX12_init_426 : decode cX12_init 426 = .ok (.putfield 164, 3) := by decide +kernel
theorem dX12_init_429 : decode cX12_init 429 = .ok (.aload_n 0, 1) := by decide +kernel
theorem dX12_init_430 : decode cX12_init 430 = .ok (.sipush 800, 3) := by decide +kernel
theorem dX12_init_433 : decode cX12_init 433 = .ok (.newarray .long, 2) := by decide +kernel
theorem dX12_init_435 : decode cX12_init 435 = .ok (.putfield 167, 3) := by decide +kernel
theorem dX12_init_438 : decode cX12_init 438 = .ok (.aload_n 0, 1) := by decide +kernel
theorem dX12_init_439 : decode cX12_init 439 = .ok (.sipush 200, 3) := by decide +kernel
theorem dX12_init_442 : decode cX12_init 442 = .ok (.newarray .boolean, 2) := by decide +kernel
theorem dX12_init_444 : decode cX12_init 444 = .ok (.putfield 170, 3) := by decide +kernel
theorem dX12_init_447 : decode cX12_init 447 = .ok (.aload_n 0, 1) := by decide +kernel
theorem dX12_init_448 : decode cX12_init 448 = .ok (.sipush 200, 3) := by decide +kernel
theorem dX12_init_451 : decode cX12_init 451 = .ok (.newarray .boolean, 2) := by decide +kernel
theorem dX12_init_453 : decode cX12_init 453 = .ok (.putfield 173, 3) := by decide +kernel
theorem dX12_init_456 : decode cX12_init 456 = .ok (.aload_n 0, 1) := by decide +kernel
theorem dX12_init_457 : decode cX12_init 457 = .ok (.sipush 1200, 3) := by decide +kernel
theorem dX12_init_460 : decode cX12_init 460 = .ok (.newarray .int, 2) := by decide +kernel
theorem dX12_init_462 : decode cX12_init 462 = .ok (.putfield 176, 3) := by decide +kernel
theorem dX12_init_465 : decode cX12_init 465 = .ok (.return_, 1) := by decide +kernel
theorem dX12_copy_0 : decode cX12_copy 0 = .ok (.aload_n 0, 1) := by decide +kernel
theorem dX12_copy_1 : decode cX12_copy 1 = .ok (.getfield 7, 3) := by decide +kernel
theorem dX12_copy_4 : decode cX12_copy 4 = .ok (.iload_n 1, 1) := by decide +kernel
theorem dX12_copy_5 : decode cX12_copy 5 = .ok (.aload_n 0, 1) := by decide +kernel
theorem dX12_copy_6 : decode cX12_copy 6 = .ok (.getfield 7, 3) := by decide +kernel
theorem dX12_copy_9 : decode cX12_copy 9 = .ok (.iload_n 2, 1) := by decide +kernel
theorem dX12_copy_10 : decode cX12_copy 10 = .ok (.iaload, 1) := by decide +kernel
theorem dX12_copy_11 : decode cX12_copy 11 = .ok (.iastore, 1) := by decide +kernel
theorem dX12_copy_12 : decode cX12_copy 12 = .ok (.aload_n 0, 1) := by decide +kernel
theorem dX12_copy_13 : decode cX12_copy 13 = .ok (.getfield 13, 3) := by decide +kernel
theorem dX12_copy_16 : decode cX12_copy 16 = .ok (.iload_n 1, 1) := by decide +kernel
theorem dX12_copy_17 : decode cX12_copy 17 = .ok (.aload_n 0, 1) := by decide +kernel
theorem dX12_copy_18 : decode cX12_copy 18 = .ok (.getfield 13, 3) := by decide +kernel
theorem dX12_copy_21 : decode cX12_copy 21 = .ok (.iload_n 2, 1) := by decide +kernel
theorem dX12_copy_22 : decode cX12_copy 22 = .ok (.iaload, 1) := by decide +kernel
theorem dX12_copy_23 : decode cX12_copy 23 = .ok (.iastore, 1) := by decide +kernel
theorem dX12_copy_24 : decode cX12_copy 24 = .ok (.iconst 0, 1) := by decide +kernel
theorem dX12_copy_25 : decode cX12_copy 25 = .ok (.istore_n 3, 1) := by decide +kernel
theorem dX12_copy_26 : decode cX12_copy 26 = .ok (.iload_n 3, 1) := by decide +kernel
theorem dX12_copy_27 : decode cX12_copy 27 = .ok (.bipush 12, 2) := by decide +kernel
theorem dX12_copy_29 : decode cX12_copy 29 = .ok (.if_icmp .ge 53, 3) := by decide +kernel
theorem dX12_copy_32 : decode cX12_copy 32 = .ok (.aload_n 0, 1) := by decide +kernel
theorem dX12_copy_33 : decode cX12_copy 33 = .ok (.getfield 16, 3) := by decide +kernel
theorem dX12_copy_36 : decode cX12_copy 36 = .ok (.bipush 12, 2) := by decide +kernel
theorem dX12_copy_38 : decode cX12_copy 38 = .ok (.iload_n 1, 1) := by decide +kernel
theorem dX12_copy_39 : decode cX12_copy 39 = .ok (.imul, 1) := by decide +kernel
theorem dX12_copy_40 : decode cX12_copy 40 = .ok (.iload_n 3, 1) := by decide +kernel
theorem dX12_copy_41 : decode cX12_copy 41 = .ok (.iadd, 1) := by decide +kernel
theorem dX12_copy_42 : decode cX12_copy 42 = .ok (.aload_n 0, 1) := by decide +kernel
theorem dX12_copy_43 : decode cX12_copy 43 = .ok (.getfield 16, 3) := by decide +kernel
theorem dX12_copy_46 : decode cX12_copy 46 = .ok (.bipush 12, 2) := by decide +kernel
theorem dX12_copy_48 : decode cX12_copy 48 = .ok (.iload_n 2, 1) := by decide +kernel
theorem dX12_copy_49 : decode cX12_copy 49 = .ok (.imul, 1) := by decide +kernel
theorem dX12_copy_50 : decode cX12_copy 50 = .ok (.iload_n 3, 1) := by decide +kernel
theorem dX12_copy_51 : decode cX12_copy 51 = .ok (.iadd, 1) := by decide +kernel
theorem dX12_copy_52 : decode cX12_copy 52 = .ok (.laload, 1) := by decide +kernel
theorem dX12_copy_53 : decode cX12_copy 53 = .ok (.lastore, 1) := by decide +kernel
theorem dX12_copy_54 : decode cX12_copy 54 = .ok (.aload_n 0, 1) := by decide +kernel
theorem dX12_copy_55 : decode cX12_copy 55 = .ok (.getfield 20, 3) := by decide +kernel
theorem dX12_copy_58 : decode cX12_copy 58 = .ok (.bipush 12, 2) := by decide +kernel
theorem dX12_copy_60 : decode cX12_copy 60 = .ok (.iload_n 1, 1) := by decide +kernel
theorem dX12_copy_61 : decode cX12_copy 61 = .ok (.imul, 1) := by decide +kernel
theorem dX12_copy_62 : decode cX12_copy 62 = .ok (.iload_n 3, 1) := by decide +kernel
theorem dX12_copy_63 : decode cX12_copy 63 = .ok (.iadd, 1) := by decide +kernel
theorem dX12_copy_64 : decode cX12_copy 64 = .ok (.aload_n 0, 1) := by decide +kernel
theorem dX12_copy_65 : decode cX12_copy 65 = .ok (.getfield 20, 3) := by decide +kernel
theorem dX12_copy_68 : decode cX12_copy 68 = .ok (.bipush 12, 2) := by decide +kernel
theorem dX12_copy_70 : decode cX12_copy 70 = .ok (.iload_n 2, 1) := by decide +kernel
theorem dX12_copy_71 : decode cX12_copy 71 = .ok (.imul, 1) := by decide +kernel
theorem dX12_copy_72 : decode cX12_copy 72 = .ok (.iload_n 3, 1) := by decide +kernel
theorem dX12_copy_73 : decode cX12_copy 73 = .ok (.iadd, 1) := by decide +kernel
theorem dX12_copy_74 : decode cX12_copy 74 = .ok (.daload, 1) := by decide +kernel
theorem dX12_copy_75 : decode cX12_copy 75 = .ok (.dastore, 1) := by decide +kernel
theorem dX12_copy_76 : decode cX12_copy 76 = .ok (.iinc 3 1, 3) := by decide +kernel
theorem dX12_copy_79 : decode cX12_copy 79 = .ok (.goto (-53), 3) := by decide +kernel
theorem dX12_copy_82 : decode cX12_copy 82 = .ok (.return_, 1) := by decide +kernel
theorem dX12_made_0 : decode cX12_made 0 = .ok (.aload_n 0, 1) := by decide +kernel
theorem dX12_made_1 : decode cX12_made 1 = .ok (.getfield 179, 3) := by decide +kernel
theorem dX12_made_4 : decode cX12_made 4 = .ok (.istore_n 3, 1) := by decide +kernel
theorem dX12_made_5 : decode cX12_made 5 = .ok (.aload_n 0, 1) := by decide +kernel
theorem dX12_made_6 : decode cX12_made 6 = .ok (.dup, 1) := by decide +kernel
theorem dX12_made_7 : decode cX12_made 7 = .ok (.getfield 179, 3) := by decide +kernel
theorem dX12_made_10 : decode cX12_made 10 = .ok (.iconst 1, 1) := by decide +kernel
theorem dX12_made_11 : decode cX12_made 11 = .ok (.iadd, 1) := by decide +kernel
theorem dX12_made_12 : decode cX12_made 12 = .ok (.putfield 179, 3) := by decide +kernel
theorem dX12_made_15 : decode cX12_made 15 = .ok (.aload_n 0, 1) := by decide +kernel
theorem dX12_made_16 : decode cX12_made 16 = .ok (.iload_n 3, 1) := by decide +kernel
theorem dX12_made_17 : decode cX12_made 17 = .ok (.iload_n 1, 1) := by decide +kernel
theorem dX12_made_18 : decode cX12_made 18 = .ok (.iload_n 2, 1) := by decide +kernel
theorem dX12_made_19 : decode cX12_made 19 = .ok (.invokevirtual 182, 3) := by decide +kernel
theorem dX12_made_22 : decode cX12_made 22 = .ok (.iload_n 3, 1) := by decide +kernel
theorem dX12_made_23 : decode cX12_made 23 = .ok (.ireturn, 1) := by decide +kernel
theorem dX12_shape_0 : decode cX12_shape 0 = .ok (.aload_n 0, 1) := by decide +kernel
theorem dX12_shape_1 : decode cX12_shape 1 = .ok (.getfield 7, 3) := by decide +kernel
theorem dX12_shape_4 : decode cX12_shape 4 = .ok (.iload_n 1, 1) := by decide +kernel
theorem dX12_shape_5 : decode cX12_shape 5 = .ok (.iload_n 2, 1) := by decide +kernel
theorem dX12_shape_6 : decode cX12_shape 6 = .ok (.iastore, 1) := by decide +kernel
theorem dX12_shape_7 : decode cX12_shape 7 = .ok (.aload_n 0, 1) := by decide +kernel
theorem dX12_shape_8 : decode cX12_shape 8 = .ok (.getfield 13, 3) := by decide +kernel
theorem dX12_shape_11 : decode cX12_shape 11 = .ok (.iload_n 1, 1) := by decide +kernel
theorem dX12_shape_12 : decode cX12_shape 12 = .ok (.iload_n 3, 1) := by decide +kernel
theorem dX12_shape_13 : decode cX12_shape 13 = .ok (.iastore, 1) := by decide +kernel
theorem dX12_shape_14 : decode cX12_shape 14 = .ok (.iconst 0, 1) := by decide +kernel
theorem dX12_shape_15 : decode cX12_shape 15 = .ok (.istore 4, 2) := by decide +kernel
theorem dX12_shape_17 : decode cX12_shape 17 = .ok (.iload 4, 2) := by decide +kernel
theorem dX12_shape_19 : decode cX12_shape 19 = .ok (.bipush 12, 2) := by decide +kernel
theorem dX12_shape_21 : decode cX12_shape 21 = .ok (.if_icmp .ge 48, 3) := by decide +kernel
theorem dX12_shape_24 : decode cX12_shape 24 = .ok (.aload_n 0, 1) := by decide +kernel
theorem dX12_shape_25 : decode cX12_shape 25 = .ok (.getfield 16, 3) := by decide +kernel
theorem dX12_shape_28 : decode cX12_shape 28 = .ok (.bipush 12, 2) := by decide +kernel
theorem dX12_shape_30 : decode cX12_shape 30 = .ok (.iload_n 1, 1) := by decide +kernel
theorem dX12_shape_31 : decode cX12_shape 31 = .ok (.imul, 1) := by decide +kernel
theorem dX12_shape_32 : decode cX12_shape 32 = .ok (.iload 4, 2) := by decide +kernel
theorem dX12_shape_34 : decode cX12_shape 34 = .ok (.iadd, 1) := by decide +kernel
theorem dX12_shape_35 : decode cX12_shape 35 = .ok (.iload_n 2, 1) := by decide +kernel
theorem dX12_shape_36 : decode cX12_shape 36 = .ok (.invokestatic 186, 3) := by decide +kernel
theorem dX12_shape_39 : decode cX12_shape 39 = .ok (.ifCond .eq 9, 3) := by decide +kernel
theorem dX12_shape_42 : decode cX12_shape 42 = .ok (.ldc2_w 190, 3) := by decide +kernel
theorem dX12_shape_45 : decode cX12_shape 45 = .ok (.goto 4, 3) := by decide +kernel
theorem dX12_shape_48 : decode cX12_shape 48 = .ok (.lconst 0, 1) := by decide +kernel
theorem dX12_shape_49 : decode cX12_shape 49 = .ok (.lastore, 1) := by decide +kernel
theorem dX12_shape_50 : decode cX12_shape 50 = .ok (.aload_n 0, 1) := by decide +kernel
theorem dX12_shape_51 : decode cX12_shape 51 = .ok (.getfield 20, 3) := by decide +kernel
theorem dX12_shape_54 : decode cX12_shape 54 = .ok (.bipush 12, 2) := by decide +kernel
theorem dX12_shape_56 : decode cX12_shape 56 = .ok (.iload_n 1, 1) := by decide +kernel
theorem dX12_shape_57 : decode cX12_shape 57 = .ok (.imul, 1) := by decide +kernel
theorem dX12_shape_58 : decode cX12_shape 58 = .ok (.iload 4, 2) := by decide +kernel
theorem dX12_shape_60 : decode cX12_shape 60 = .ok (.iadd, 1) := by decide +kernel
theorem dX12_shape_61 : decode cX12_shape 61 = .ok (.dconst 0, 1) := by decide +kernel
theorem dX12_shape_62 : decode cX12_shape 62 = .ok (.dastore, 1) := by decide +kernel
theorem dX12_shape_63 : decode cX12_shape 63 = .ok (.iinc 4 1, 3) := by decide +kernel
theorem dX12_shape_66 : decode cX12_shape 66 = .ok (.goto (-49), 3) := by decide +kernel
theorem dX12_shape_69 : decode cX12_shape 69 = .ok (.return_, 1) := by decide +kernel
theorem dX12_ofWhole_0 : decode cX12_ofWhole 0 = .ok (.aload_n 0, 1) := by decide +kernel
theorem dX12_ofWhole_1 : decode cX12_ofWhole 1 = .ok (.iconst 0, 1) := by decide +kernel
theorem dX12_ofWhole_2 : decode cX12_ofWhole 2 = .ok (.iconst 0, 1) := by decide +kernel
theorem dX12_ofWhole_3 : decode cX12_ofWhole 3 = .ok (.invokevirtual 192, 3) := by decide +kernel
theorem dX12_ofWhole_6 : decode cX12_ofWhole 6 = .ok (.istore_n 3, 1) := by decide +kernel
theorem dX12_ofWhole_7 : decode cX12_ofWhole 7 = .ok (.aload_n 0, 1) := by decide +kernel
theorem dX12_ofWhole_8 : decode cX12_ofWhole 8 = .ok (.getfield 16, 3) := by decide +kernel
theorem dX12_ofWhole_11 : decode cX12_ofWhole 11 = .ok (.bipush 12, 2) := by decide +kernel
theorem dX12_ofWhole_13 : decode cX12_ofWhole 13 = .ok (.iload_n 3, 1) := by decide +kernel
theorem dX12_ofWhole_14 : decode cX12_ofWhole 14 = .ok (.imul, 1) := by decide +kernel
theorem dX12_ofWhole_15 : decode cX12_ofWhole 15 = .ok (.lload_n 1, 1) := by decide +kernel
theorem dX12_ofWhole_16 : decode cX12_ofWhole 16 = .ok (.lastore, 1) := by decide +kernel
theorem dX12_ofWhole_17 : decode cX12_ofWhole 17 = .ok (.iload_n 3, 1) := by decide +kernel
theorem dX12_ofWhole_18 : decode cX12_ofWhole 18 = .ok (.ireturn, 1) := by decide +kernel
theorem dX12_ofReal_0 : decode cX12_ofReal 0 = .ok (.aload_n 0, 1) := by decide +kernel
theorem dX12_ofReal_1 : decode cX12_ofReal 1 = .ok (.iconst 1, 1) := by decide +kernel
theorem dX12_ofReal_2 : decode cX12_ofReal 2 = .ok (.iconst 0, 1) := by decide +kernel
theorem dX12_ofReal_3 : decode cX12_ofReal 3 = .ok (.invokevirtual 192, 3) := by decide +kernel
theorem dX12_ofReal_6 : decode cX12_ofReal 6 = .ok (.istore_n 3, 1) := by decide +kernel
theorem dX12_ofReal_7 : decode cX12_ofReal 7 = .ok (.aload_n 0, 1) := by decide +kernel
theorem dX12_ofReal_8 : decode cX12_ofReal 8 = .ok (.getfield 20, 3) := by decide +kernel
theorem dX12_ofReal_11 : decode cX12_ofReal 11 = .ok (.bipush 12, 2) := by decide +kernel
theorem dX12_ofReal_13 : decode cX12_ofReal 13 = .ok (.iload_n 3, 1) := by decide +kernel
theorem dX12_ofReal_14 : decode cX12_ofReal 14 = .ok (.imul, 1) := by decide +kernel
theorem dX12_ofReal_15 : decode cX12_ofReal 15 = .ok (.dload_n 1, 1) := by decide +kernel
theorem dX12_ofReal_16 : decode cX12_ofReal 16 = .ok (.dastore, 1) := by decide +kernel
theorem dX12_ofReal_17 : decode cX12_ofReal 17 = .ok (.iload_n 3, 1) := by decide +kernel
theorem dX12_ofReal_18 : decode cX12_ofReal 18 = .ok (.ireturn, 1) := by decide +kernel
theorem dX12_isKin_0 : decode cX12_isKin 0 = .ok (.iload_n 0, 1) := by decide +kernel
theorem dX12_isKin_1 : decode cX12_isKin 1 = .ok (.iconst 5, 1) := by decide +kernel
theorem dX12_isKin_2 : decode cX12_isKin 2 = .ok (.if_icmp .lt 13, 3) := by decide +kernel
theorem dX12_isKin_5 : decode cX12_isKin 5 = .ok (.iload_n 0, 1) := by decide +kernel
theorem dX12_isKin_6 : decode cX12_isKin 6 = .ok (.bipush 7, 2) := by decide +kernel
theorem dX12_isKin_8 : decode cX12_isKin 8 = .ok (.if_icmp .gt 7, 3) := by decide +kernel
theorem dX12_isKin_11 : decode cX12_isKin 11 = .ok (.iconst 1, 1) := by decide +kernel
theorem dX12_isKin_12 : decode cX12_isKin 12 = .ok (.goto 4, 3) := by decide +kernel
theorem dX12_isKin_15 : decode cX12_isKin 15 = .ok (.iconst 0, 1) := by decide +kernel
theorem dX12_isKin_16 : decode cX12_isKin 16 = .ok (.ireturn, 1) := by decide +kernel
theorem dX12_isRow_0 : decode cX12_isRow 0 = .ok (.iload_n 0, 1) := by decide +kernel
theorem dX12_isRow_1 : decode cX12_isRow 1 = .ok (.iconst 2, 1) := by decide +kernel
theorem dX12_isRow_2 : decode cX12_isRow 2 = .ok (.if_icmp .lt 13, 3) := by decide +kernel
theorem dX12_isRow_5 : decode cX12_isRow 5 = .ok (.iload_n 0, 1) := by decide +kernel
theorem dX12_isRow_6 : decode cX12_isRow 6 = .ok (.bipush 7, 2) := by decide +kernel
theorem dX12_isRow_8 : decode cX12_isRow 8 = .ok (.if_icmp .gt 7, 3) := by decide +kernel
theorem dX12_isRow_11 : decode cX12_isRow 11 = .ok (.iconst 1, 1) := by decide +kernel
theorem dX12_isRow_12 : decode cX12_isRow 12 = .ok (.goto 4, 3) := by decide +kernel
theorem dX12_isRow_15 : decode cX12_isRow 15 = .ok (.iconst 0, 1) := by decide +kernel
theorem dX12_isRow_16 : decode cX12_isRow 16 = .ok (.ireturn, 1) := by decide +kernel
theorem dX12_isNumber_0 : decode cX12_isNumber 0 = .ok (.iload_n 0, 1) := by decide +kernel
theorem dX12_isNumber_1 : decode cX12_isNumber 1 = .ok (.iconst 2, 1) := by decide +kernel
theorem dX12_isNumber_2 : decode cX12_isNumber 2 = .ok (.if_icmp .ge 7, 3) := by decide +kernel
theorem dX12_isNumber_5 : decode cX12_isNumber 5 = .ok (.iconst 1, 1) := by decide +kernel
theorem dX12_isNumber_6 : decode cX12_isNumber 6 = .ok (.goto 4, 3) := by decide +kernel
theorem dX12_isNumber_9 : decode cX12_isNumber 9 = .ok (.iconst 0, 1) := by decide +kernel
theorem dX12_isNumber_10 : decode cX12_isNumber 10 = .ok (.ireturn, 1) := by decide +kernel
theorem dX12_in_0 : decode cX12_in 0 = .ok (.lload_n 0, 1) := by decide +kernel
theorem dX12_in_1 : decode cX12_in 1 = .ok (.lload_n 2, 1) := by decide +kernel
theorem dX12_in_2 : decode cX12_in 2 = .ok (.lcmp, 1) := by decide +kernel
theorem dX12_in_3 : decode cX12_in 3 = .ok (.ifCond .lt 14, 3) := by decide +kernel
theorem dX12_in_6 : decode cX12_in 6 = .ok (.lload_n 0, 1) := by decide +kernel
theorem dX12_in_7 : decode cX12_in 7 = .ok (.lload 4, 2) := by decide +kernel
theorem dX12_in_9 : decode cX12_in 9 = .ok (.lcmp, 1) := by decide +kernel
theorem dX12_in_10 : decode cX12_in 10 = .ok (.ifCond .gt 7, 3) := by decide +kernel
theorem dX12_in_13 : decode cX12_in 13 = .ok (.iconst 1, 1) := by decide +kernel
theorem dX12_in_14 : decode cX12_in 14 = .ok (.goto 4, 3) := by decide +kernel
theorem dX12_in_17 : decode cX12_in 17 = .ok (.iconst 0, 1) := by decide +kernel
theorem dX12_in_18 : decode cX12_in 18 = .ok (.ireturn, 1) := by decide +kernel
theorem dX12_asReal_0 : decode cX12_asReal 0 = .ok (.aload_n 0, 1) := by decide +kernel
theorem dX12_asReal_1 : decode cX12_asReal 1 = .ok (.getfield 7, 3) := by decide +kernel
theorem dX12_asReal_4 : decode cX12_asReal 4 = .ok (.iload_n 1, 1) := by decide +kernel
theorem dX12_asReal_5 : decode cX12_asReal 5 = .ok (.iaload, 1) := by decide +kernel
theorem dX12_asReal_6 : decode cX12_asReal 6 = .ok (.iconst 1, 1) := by decide +kernel
theorem dX12_asReal_7 : decode cX12_asReal 7 = .ok (.if_icmp .ne 15, 3) := by decide +kernel
theorem dX12_asReal_10 : decode cX12_asReal 10 = .ok (.aload_n 0, 1) := by decide +kernel
theorem dX12_asReal_11 : decode cX12_asReal 11 = .ok (.getfield 20, 3) := by decide +kernel
theorem dX12_asReal_14 : decode cX12_asReal 14 = .ok (.bipush 12, 2) := by decide +kernel
theorem dX12_asReal_16 : decode cX12_asReal 16 = .ok (.iload_n 1, 1) := by decide +kernel
theorem dX12_asReal_17 : decode cX12_asReal 17 = .ok (.imul, 1) := by decide +kernel
theorem dX12_asReal_18 : decode cX12_asReal 18 = .ok (.daload, 1) := by decide +kernel
theorem dX12_asReal_19 : decode cX12_asReal 19 = .ok (.goto 13, 3) := by decide +kernel
theorem dX12_asReal_22 : decode cX12_asReal 22 = .ok (.aload_n 0, 1) := by decide +kernel
theorem dX12_asReal_23 : decode cX12_asReal 23 = .ok (.getfield 16, 3) := by decide +kernel
theorem dX12_asReal_26 : decode cX12_asReal 26 = .ok (.bipush 12, 2) := by decide +kernel
theorem dX12_asReal_28 : decode cX12_asReal 28 = .ok (.iload_n 1, 1) := by decide +kernel
theorem dX12_asReal_29 : decode cX12_asReal 29 = .ok (.imul, 1) := by decide +kernel
theorem dX12_asReal_30 : decode cX12_asReal 30 = .ok (.laload, 1) := by decide +kernel
theorem dX12_asReal_31 : decode cX12_asReal 31 = .ok (.l2d, 1) := by decide +kernel
theorem dX12_asReal_32 : decode cX12_asReal 32 = .ok (.dreturn, 1) := by decide +kernel
theorem dX12_bitsOf_0 : decode cX12_bitsOf 0 = .ok (.dload_n 0, 1) := by decide +kernel
theorem dX12_bitsOf_1 : decode cX12_bitsOf 1 = .ok (.dload_n 0, 1) := by decide +kernel
theorem dX12_bitsOf_2 : decode cX12_bitsOf 2 = .ok (.dcmp .l, 1) := by decide +kernel
theorem dX12_bitsOf_3 : decode cX12_bitsOf 3 = .ok (.ifCond .eq 7, 3) := by decide +kernel
theorem dX12_bitsOf_6 : decode cX12_bitsOf 6 = .ok (.ldc2_w 196, 3) := by decide +kernel
theorem dX12_bitsOf_9 : decode cX12_bitsOf 9 = .ok (.lreturn, 1) := by decide +kernel
theorem dX12_bitsOf_10 : decode cX12_bitsOf 10 = .ok (.dload_n 0, 1) := by decide +kernel
theorem dX12_bitsOf_11 : decode cX12_bitsOf 11 = .ok (.dconst 0, 1) := by decide +kernel
theorem dX12_bitsOf_12 : decode cX12_bitsOf 12 = .ok (.dcmp .g, 1) := by decide +kernel
theorem dX12_bitsOf_13 : decode cX12_bitsOf 13 = .ok (.ifCond .lt 17, 3) := by decide +kernel
theorem dX12_bitsOf_16 : decode cX12_bitsOf 16 = .ok (.dload_n 0, 1) := by decide +kernel
theorem dX12_bitsOf_17 : decode cX12_bitsOf 17 = .ok (.dconst 0, 1) := by decide +kernel
theorem dX12_bitsOf_18 : decode cX12_bitsOf 18 = .ok (.dcmp .l, 1) := by decide +kernel
theorem dX12_bitsOf_19 : decode cX12_bitsOf 19 = .ok (.ifCond .ne 15, 3) := by decide +kernel
theorem dX12_bitsOf_22 : decode cX12_bitsOf 22 = .ok (.dconst 1, 1) := by decide +kernel
theorem dX12_bitsOf_23 : decode cX12_bitsOf 23 = .ok (.dload_n 0, 1) := by decide +kernel
theorem dX12_bitsOf_24 : decode cX12_bitsOf 24 = .ok (.ddiv, 1) := by decide +kernel
theorem dX12_bitsOf_25 : decode cX12_bitsOf 25 = .ok (.dconst 0, 1) := by decide +kernel
theorem dX12_bitsOf_26 : decode cX12_bitsOf 26 = .ok (.dcmp .g, 1) := by decide +kernel
theorem dX12_bitsOf_27 : decode cX12_bitsOf 27 = .ok (.ifCond .ge 7, 3) := by decide +kernel
theorem dX12_bitsOf_30 : decode cX12_bitsOf 30 = .ok (.iconst 1, 1) := by decide +kernel
theorem dX12_bitsOf_31 : decode cX12_bitsOf 31 = .ok (.goto 4, 3) := by decide +kernel
theorem dX12_bitsOf_34 : decode cX12_bitsOf 34 = .ok (.iconst 0, 1) := by decide +kernel
theorem dX12_bitsOf_35 : decode cX12_bitsOf 35 = .ok (.istore_n 2, 1) := by decide +kernel
theorem dX12_bitsOf_36 : decode cX12_bitsOf 36 = .ok (.dload_n 0, 1) := by decide +kernel
theorem dX12_bitsOf_37 : decode cX12_bitsOf 37 = .ok (.dconst 0, 1) := by decide +kernel
theorem dX12_bitsOf_38 : decode cX12_bitsOf 38 = .ok (.dcmp .g, 1) := by decide +kernel
theorem dX12_bitsOf_39 : decode cX12_bitsOf 39 = .ok (.ifCond .ge 8, 3) := by decide +kernel
theorem dX12_bitsOf_42 : decode cX12_bitsOf 42 = .ok (.dload_n 0, 1) := by decide +kernel
theorem dX12_bitsOf_43 : decode cX12_bitsOf 43 = .ok (.dneg, 1) := by decide +kernel
theorem dX12_bitsOf_44 : decode cX12_bitsOf 44 = .ok (.goto 4, 3) := by decide +kernel
theorem dX12_bitsOf_47 : decode cX12_bitsOf 47 = .ok (.dload_n 0, 1) := by decide +kernel
theorem dX12_bitsOf_48 : decode cX12_bitsOf 48 = .ok (.dstore_n 3, 1) := by decide +kernel
theorem dX12_bitsOf_49 : decode cX12_bitsOf 49 = .ok (.iload_n 2, 1) := by decide +kernel
theorem dX12_bitsOf_50 : decode cX12_bitsOf 50 = .ok (.ifCond .eq 9, 3) := by decide +kernel
theorem dX12_bitsOf_53 : decode cX12_bitsOf 53 = .ok (.ldc2_w 198, 3) := by decide +kernel
theorem dX12_bitsOf_56 : decode cX12_bitsOf 56 = .ok (.goto 4, 3) := by decide +kernel
theorem dX12_bitsOf_59 : decode cX12_bitsOf 59 = .ok (.lconst 0, 1) := by decide +kernel
theorem dX12_bitsOf_60 : decode cX12_bitsOf 60 = .ok (.lstore 5, 2) := by decide +kernel
theorem dX12_bitsOf_62 : decode cX12_bitsOf 62 = .ok (.dload_n 3, 1) := by decide +kernel
theorem dX12_bitsOf_63 : decode cX12_bitsOf 63 = .ok (.dconst 0, 1) := by decide +kernel
theorem dX12_bitsOf_64 : decode cX12_bitsOf 64 = .ok (.dcmp .l, 1) := by decide +kernel
theorem dX12_bitsOf_65 : decode cX12_bitsOf 65 = .ok (.ifCond .ne 6, 3) := by decide +kernel
theorem dX12_bitsOf_68 : decode cX12_bitsOf 68 = .ok (.lload 5, 2) := by decide +kernel
theorem dX12_bitsOf_70 : decode cX12_bitsOf 70 = .ok (.lreturn, 1) := by decide +kernel
theorem dX12_bitsOf_71 : decode cX12_bitsOf 71 = .ok (.dload_n 3, 1) := by decide +kernel
theorem dX12_bitsOf_72 : decode cX12_bitsOf 72 = .ok (.ldc2_w 200, 3) := by decide +kernel
theorem dX12_bitsOf_75 : decode cX12_bitsOf 75 = .ok (.dcmp .l, 1) := by decide +kernel
theorem dX12_bitsOf_76 : decode cX12_bitsOf 76 = .ok (.ifCond .ne 10, 3) := by decide +kernel
theorem dX12_bitsOf_79 : decode cX12_bitsOf 79 = .ok (.lload 5, 2) := by decide +kernel
theorem dX12_bitsOf_81 : decode cX12_bitsOf 81 = .ok (.ldc2_w 202, 3) := by decide +kernel
theorem dX12_bitsOf_84 : decode cX12_bitsOf 84 = .ok (.lor, 1) := by decide +kernel
theorem dX12_bitsOf_85 : decode cX12_bitsOf 85 = .ok (.lreturn, 1) := by decide +kernel
theorem dX12_bitsOf_86 : decode cX12_bitsOf 86 = .ok (.lconst 0, 1) := by decide +kernel
theorem dX12_bitsOf_87 : decode cX12_bitsOf 87 = .ok (.lstore 7, 2) := by decide +kernel
theorem dX12_bitsOf_89 : decode cX12_bitsOf 89 = .ok (.dload_n 3, 1) := by decide +kernel
theorem dX12_bitsOf_90 : decode cX12_bitsOf 90 = .ok (.ldc2_w 204, 3) := by decide +kernel
theorem dX12_bitsOf_93 : decode cX12_bitsOf 93 = .ok (.dcmp .l, 1) := by decide +kernel
theorem dX12_bitsOf_94 : decode cX12_bitsOf 94 = .ok (.ifCond .lt 18, 3) := by decide +kernel
theorem dX12_bitsOf_97 : decode cX12_bitsOf 97 = .ok (.dload_n 3, 1) := by decide +kernel
theorem dX12_bitsOf_98 : decode cX12_bitsOf 98 = .ok (.ldc2_w 204, 3) := by decide +kernel
theorem dX12_bitsOf_101 : decode cX12_bitsOf 101 = .ok (.ddiv, 1) := by decide +kernel
theorem dX12_bitsOf_102 : decode cX12_bitsOf 102 = .ok (.dstore_n 3, 1) := by decide +kernel
theorem dX12_bitsOf_103 : decode cX12_bitsOf 103 = .ok (.lload 7, 2) := by decide +kernel
theorem dX12_bitsOf_105 : decode cX12_bitsOf 105 = .ok (.lconst 1, 1) := by decide +kernel
theorem dX12_bitsOf_106 : decode cX12_bitsOf 106 = .ok (.ladd, 1) := by decide +kernel
theorem dX12_bitsOf_107 : decode cX12_bitsOf 107 = .ok (.lstore 7, 2) := by decide +kernel
theorem dX12_bitsOf_109 : decode cX12_bitsOf 109 = .ok (.goto (-20), 3) := by decide +kernel
theorem dX12_bitsOf_112 : decode cX12_bitsOf 112 = .ok (.dload_n 3, 1) := by decide +kernel
theorem dX12_bitsOf_113 : decode cX12_bitsOf 113 = .ok (.dconst 1, 1) := by decide +kernel
theorem dX12_bitsOf_114 : decode cX12_bitsOf 114 = .ok (.dcmp .g, 1) := by decide +kernel
theorem dX12_bitsOf_115 : decode cX12_bitsOf 115 = .ok (.ifCond .ge 27, 3) := by decide +kernel
theorem dX12_bitsOf_118 : decode cX12_bitsOf 118 = .ok (.lload 7, 2) := by decide +kernel
theorem dX12_bitsOf_120 : decode cX12_bitsOf 120 = .ok (.ldc2_w 206, 3) := by decide +kernel
theorem dX12_bitsOf_123 : decode cX12_bitsOf 123 = .ok (.lcmp, 1) := by decide +kernel
theorem dX12_bitsOf_124 : decode cX12_bitsOf 124 = .ok (.ifCond .le 18, 3) := by decide +kernel
theorem dX12_bitsOf_127 : decode cX12_bitsOf 127 = .ok (.dload_n 3, 1) := by decide +kernel
theorem dX12_bitsOf_128 : decode cX12_bitsOf 128 = .ok (.ldc2_w 204, 3) := by decide +kernel
theorem dX12_bitsOf_131 : decode cX12_bitsOf 131 = .ok (.dmul, 1) := by decide +kernel
theorem dX12_bitsOf_132 : decode cX12_bitsOf 132 = .ok (.dstore_n 3, 1) := by decide +kernel
theorem dX12_bitsOf_133 : decode cX12_bitsOf 133 = .ok (.lload 7, 2) := by decide +kernel
theorem dX12_bitsOf_135 : decode cX12_bitsOf 135 = .ok (.lconst 1, 1) := by decide +kernel
theorem dX12_bitsOf_136 : decode cX12_bitsOf 136 = .ok (.lsub, 1) := by decide +kernel
theorem dX12_bitsOf_137 : decode cX12_bitsOf 137 = .ok (.lstore 7, 2) := by decide +kernel
theorem dX12_bitsOf_139 : decode cX12_bitsOf 139 = .ok (.goto (-27), 3) := by decide +kernel
theorem dX12_bitsOf_142 : decode cX12_bitsOf 142 = .ok (.dload_n 3, 1) := by decide +kernel
theorem dX12_bitsOf_143 : decode cX12_bitsOf 143 = .ok (.dconst 1, 1) := by decide +kernel
theorem dX12_bitsOf_144 : decode cX12_bitsOf 144 = .ok (.dcmp .g, 1) := by decide +kernel
theorem dX12_bitsOf_145 : decode cX12_bitsOf 145 = .ok (.ifCond .ge 13, 3) := by decide +kernel
theorem dX12_bitsOf_148 : decode cX12_bitsOf 148 = .ok (.lload 5, 2) := by decide +kernel
theorem dX12_bitsOf_150 : decode cX12_bitsOf 150 = .ok (.dload_n 3, 1) := by decide +kernel
theorem dX12_bitsOf_151 : decode cX12_bitsOf 151 = .ok (.ldc2_w 208, 3) := by decide +kernel
theorem dX12_bitsOf_154 : decode cX12_bitsOf 154 = .ok (.dmul, 1) := by decide +kernel
theorem dX12_bitsOf_155 : decode cX12_bitsOf 155 = .ok (.d2l, 1) := by decide +kernel
theorem dX12_bitsOf_156 : decode cX12_bitsOf 156 = .ok (.lor, 1) := by decide +kernel
theorem dX12_bitsOf_157 : decode cX12_bitsOf 157 = .ok (.lreturn, 1) := by decide +kernel
theorem dX12_bitsOf_158 : decode cX12_bitsOf 158 = .ok (.lload 5, 2) := by decide +kernel
theorem dX12_bitsOf_160 : decode cX12_bitsOf 160 = .ok (.lload 7, 2) := by decide +kernel
theorem dX12_bitsOf_162 : decode cX12_bitsOf 162 = .ok (.ldc2_w 210, 3) := by decide +kernel
theorem dX12_bitsOf_165 : decode cX12_bitsOf 165 = .ok (.ladd, 1) := by decide +kernel
theorem dX12_bitsOf_166 : decode cX12_bitsOf 166 = .ok (.bipush 52, 2) := by decide +kernel
theorem dX12_bitsOf_168 : decode cX12_bitsOf 168 = .ok (.lshl, 1) := by decide +kernel
theorem dX12_bitsOf_169 : decode cX12_bitsOf 169 = .ok (.lor, 1) := by decide +kernel
theorem dX12_bitsOf_170 : decode cX12_bitsOf 170 = .ok (.dload_n 3, 1) := by decide +kernel
theorem dX12_bitsOf_171 : decode cX12_bitsOf 171 = .ok (.dconst 1, 1) := by decide +kernel
theorem dX12_bitsOf_172 : decode cX12_bitsOf 172 = .ok (.dsub, 1) := by decide +kernel
theorem dX12_bitsOf_173 : decode cX12_bitsOf 173 = .ok (.ldc2_w 208, 3) := by decide +kernel
theorem dX12_bitsOf_176 : decode cX12_bitsOf 176 = .ok (.dmul, 1) := by decide +kernel
theorem dX12_bitsOf_177 : decode cX12_bitsOf 177 = .ok (.d2l, 1) := by decide +kernel
theorem dX12_bitsOf_178 : decode cX12_bitsOf 178 = .ok (.lor, 1) := by decide +kernel
theorem dX12_bitsOf_179 : decode cX12_bitsOf 179 = .ok (.lreturn, 1) := by decide +kernel
theorem dX12_ofBits_0 : decode cX12_ofBits 0 = .ok (.lload_n 0, 1) := by decide +kernel
theorem dX12_ofBits_1 : decode cX12_ofBits 1 = .ok (.bipush 52, 2) := by decide +kernel
theorem dX12_ofBits_3 : decode cX12_ofBits 3 = .ok (.lshr, 1) := by decide +kernel
theorem dX12_ofBits_4 : decode cX12_ofBits 4 = .ok (.ldc2_w 212, 3) := by decide +kernel
theorem dX12_ofBits_7 : decode cX12_ofBits 7 = .ok (.land, 1) := by decide +kernel
theorem dX12_ofBits_8 : decode cX12_ofBits 8 = .ok (.lstore_n 2, 1) := by decide +kernel
theorem dX12_ofBits_9 : decode cX12_ofBits 9 = .ok (.lload_n 0, 1) := by decide +kernel
theorem dX12_ofBits_10 : decode cX12_ofBits 10 = .ok (.ldc2_w 214, 3) := by decide +kernel
theorem dX12_ofBits_13 : decode cX12_ofBits 13 = .ok (.land, 1) := by decide +kernel
theorem dX12_ofBits_14 : decode cX12_ofBits 14 = .ok (.lstore 4, 2) := by decide +kernel
theorem dX12_ofBits_16 : decode cX12_ofBits 16 = .ok (.lload_n 2, 1) := by decide +kernel
theorem dX12_ofBits_17 : decode cX12_ofBits 17 = .ok (.ldc2_w 212, 3) := by decide +kernel
theorem dX12_ofBits_20 : decode cX12_ofBits 20 = .ok (.lcmp, 1) := by decide +kernel
theorem dX12_ofBits_21 : decode cX12_ofBits 21 = .ok (.ifCond .ne 36, 3) := by decide +kernel
theorem dX12_ofBits_24 : decode cX12_ofBits 24 = .ok (.lload_n 0, 1) := by decide +kernel
theorem dX12_ofBits_25 : decode cX12_ofBits 25 = .ok (.lconst 0, 1) := by decide +kernel
theorem dX12_ofBits_26 : decode cX12_ofBits 26 = .ok (.lcmp, 1) := by decide +kernel
theorem dX12_ofBits_27 : decode cX12_ofBits 27 = .ok (.ifCond .ge 9, 3) := by decide +kernel
theorem dX12_ofBits_30 : decode cX12_ofBits 30 = .ok (.ldc2_w 216, 3) := by decide +kernel
theorem dX12_ofBits_33 : decode cX12_ofBits 33 = .ok (.goto 6, 3) := by decide +kernel
theorem dX12_ofBits_36 : decode cX12_ofBits 36 = .ok (.ldc2_w 200, 3) := by decide +kernel
theorem dX12_ofBits_39 : decode cX12_ofBits 39 = .ok (.dstore 6, 2) := by decide +kernel
theorem dX12_ofBits_41 : decode cX12_ofBits 41 = .ok (.lload 4, 2) := by decide +kernel
theorem dX12_ofBits_43 : decode cX12_ofBits 43 = .ok (.lconst 0, 1) := by decide +kernel
theorem dX12_ofBits_44 : decode cX12_ofBits 44 = .ok (.lcmp, 1) := by decide +kernel
theorem dX12_ofBits_45 : decode cX12_ofBits 45 = .ok (.ifCond .ne 8, 3) := by decide +kernel
theorem dX12_ofBits_48 : decode cX12_ofBits 48 = .ok (.dload 6, 2) := by decide +kernel
theorem dX12_ofBits_50 : decode cX12_ofBits 50 = .ok (.goto 6, 3) := by decide +kernel
theorem dX12_ofBits_53 : decode cX12_ofBits 53 = .ok (.ldc2_w 220, 3) := by decide +kernel
theorem dX12_ofBits_56 : decode cX12_ofBits 56 = .ok (.dreturn, 1) := by decide +kernel
theorem dX12_ofBits_57 : decode cX12_ofBits 57 = .ok (.lload_n 2, 1) := by decide +kernel
theorem dX12_ofBits_58 : decode cX12_ofBits 58 = .ok (.lconst 0, 1) := by decide +kernel
theorem dX12_ofBits_59 : decode cX12_ofBits 59 = .ok (.lcmp, 1) := by decide +kernel
theorem dX12_ofBits_60 : decode cX12_ofBits 60 = .ok (.ifCond .ne 9, 3) := by decide +kernel
theorem dX12_ofBits_63 : decode cX12_ofBits 63 = .ok (.lload 4, 2) := by decide +kernel
theorem dX12_ofBits_65 : decode cX12_ofBits 65 = .ok (.l2d, 1) := by decide +kernel
theorem dX12_ofBits_66 : decode cX12_ofBits 66 = .ok (.goto 10, 3) := by decide +kernel
theorem dX12_ofBits_69 : decode cX12_ofBits 69 = .ok (.lload 4, 2) := by decide +kernel
theorem dX12_ofBits_71 : decode cX12_ofBits 71 = .ok (.ldc2_w 222, 3) := by decide +kernel
theorem dX12_ofBits_74 : decode cX12_ofBits 74 = .ok (.ladd, 1) := by decide +kernel
theorem dX12_ofBits_75 : decode cX12_ofBits 75 = .ok (.l2d, 1) := by decide +kernel
theorem dX12_ofBits_76 : decode cX12_ofBits 76 = .ok (.dstore 6, 2) := by decide +kernel
theorem dX12_ofBits_78 : decode cX12_ofBits 78 = .ok (.lload_n 2, 1) := by decide +kernel
theorem dX12_ofBits_79 : decode cX12_ofBits 79 = .ok (.lconst 0, 1) := by decide +kernel
theorem dX12_ofBits_80 : decode cX12_ofBits 80 = .ok (.lcmp, 1) := by decide +kernel
theorem dX12_ofBits_81 : decode cX12_ofBits 81 = .ok (.ifCond .ne 7, 3) := by decide +kernel
theorem dX12_ofBits_84 : decode cX12_ofBits 84 = .ok (.lconst 1, 1) := by decide +kernel
theorem dX12_ofBits_85 : decode cX12_ofBits 85 = .ok (.goto 4, 3) := by decide +kernel
theorem dX12_ofBits_88 : decode cX12_ofBits 88 = .ok (.lload_n 2, 1) := by decide +kernel
theorem dX12_ofBits_89 : decode cX12_ofBits 89 = .ok (.ldc2_w 224, 3) := by decide +kernel
theorem dX12_ofBits_92 : decode cX12_ofBits 92 = .ok (.lsub, 1) := by decide +kernel
theorem dX12_ofBits_93 : decode cX12_ofBits 93 = .ok (.lstore 8, 2) := by decide +kernel
theorem dX12_ofBits_95 : decode cX12_ofBits 95 = .ok (.lload 8, 2) := by decide +kernel
theorem dX12_ofBits_97 : decode cX12_ofBits 97 = .ok (.lconst 0, 1) := by decide +kernel
theorem dX12_ofBits_98 : decode cX12_ofBits 98 = .ok (.lcmp, 1) := by decide +kernel
theorem dX12_ofBits_99 : decode cX12_ofBits 99 = .ok (.ifCond .le 20, 3) := by decide +kernel
theorem dX12_ofBits_102 : decode cX12_ofBits 102 = .ok (.dload 6, 2) := by decide +kernel
theorem dX12_ofBits_104 : decode cX12_ofBits 104 = .ok (.ldc2_w 204, 3) := by decide +kernel
theorem dX12_ofBits_107 : decode cX12_ofBits 107 = .ok (.dmul, 1) := by decide +kernel
theorem dX12_ofBits_108 : decode cX12_ofBits 108 = .ok (.dstore 6, 2) := by decide +kernel
theorem dX12_ofBits_110 : decode cX12_ofBits 110 = .ok (.lload 8, 2) := by decide +kernel
theorem dX12_ofBits_112 : decode cX12_ofBits 112 = .ok (.lconst 1, 1) := by decide +kernel
theorem dX12_ofBits_113 : decode cX12_ofBits 113 = .ok (.lsub, 1) := by decide +kernel
theorem dX12_ofBits_114 : decode cX12_ofBits 114 = .ok (.lstore 8, 2) := by decide +kernel
theorem dX12_ofBits_116 : decode cX12_ofBits 116 = .ok (.goto (-21), 3) := by decide +kernel
theorem dX12_ofBits_119 : decode cX12_ofBits 119 = .ok (.lload 8, 2) := by decide +kernel
theorem dX12_ofBits_121 : decode cX12_ofBits 121 = .ok (.lconst 0, 1) := by decide +kernel
theorem dX12_ofBits_122 : decode cX12_ofBits 122 = .ok (.lcmp, 1) := by decide +kernel
theorem dX12_ofBits_123 : decode cX12_ofBits 123 = .ok (.ifCond .ge 20, 3) := by decide +kernel
theorem dX12_ofBits_126 : decode cX12_ofBits 126 = .ok (.dload 6, 2) := by decide +kernel
theorem dX12_ofBits_128 : decode cX12_ofBits 128 = .ok (.ldc2_w 204, 3) := by decide +kernel
theorem dX12_ofBits_131 : decode cX12_ofBits 131 = .ok (.ddiv, 1) := by decide +kernel
theorem dX12_ofBits_132 : decode cX12_ofBits 132 = .ok (.dstore 6, 2) := by decide +kernel
theorem dX12_ofBits_134 : decode cX12_ofBits 134 = .ok (.lload 8, 2) := by decide +kernel
theorem dX12_ofBits_136 : decode cX12_ofBits 136 = .ok (.lconst 1, 1) := by decide +kernel
theorem dX12_ofBits_137 : decode cX12_ofBits 137 = .ok (.ladd, 1) := by decide +kernel
theorem dX12_ofBits_138 : decode cX12_ofBits 138 = .ok (.lstore 8, 2) := by decide +kernel
theorem dX12_ofBits_140 : decode cX12_ofBits 140 = .ok (.goto (-21), 3) := by decide +kernel
theorem dX12_ofBits_143 : decode cX12_ofBits 143 = .ok (.lload_n 0, 1) := by decide +kernel
theorem dX12_ofBits_144 : decode cX12_ofBits 144 = .ok (.lconst 0, 1) := by decide +kernel
theorem dX12_ofBits_145 : decode cX12_ofBits 145 = .ok (.lcmp, 1) := by decide +kernel
theorem dX12_ofBits_146 : decode cX12_ofBits 146 = .ok (.ifCond .ge 9, 3) := by decide +kernel
theorem dX12_ofBits_149 : decode cX12_ofBits 149 = .ok (.dload 6, 2) := by decide +kernel
theorem dX12_ofBits_151 : decode cX12_ofBits 151 = .ok (.dneg, 1) := by decide +kernel
theorem dX12_ofBits_152 : decode cX12_ofBits 152 = .ok (.goto 5, 3) := by decide +kernel
theorem dX12_ofBits_155 : decode cX12_ofBits 155 = .ok (.dload 6, 2) := by decide +kernel
theorem dX12_ofBits_157 : decode cX12_ofBits 157 = .ok (.dreturn, 1) := by decide +kernel
theorem dX12_isBelowZero_0 : decode cX12_isBelowZero 0 = .ok (.dload_n 0, 1) := by decide +kernel
theorem dX12_isBelowZero_1 : decode cX12_isBelowZero 1 = .ok (.dconst 0, 1) := by decide +kernel
theorem dX12_isBelowZero_2 : decode cX12_isBelowZero 2 = .ok (.dcmp .g, 1) := by decide +kernel
theorem dX12_isBelowZero_3 : decode cX12_isBelowZero 3 = .ok (.ifCond .lt 17, 3) := by decide +kernel
theorem dX12_isBelowZero_6 : decode cX12_isBelowZero 6 = .ok (.dload_n 0, 1) := by decide +kernel
theorem dX12_isBelowZero_7 : decode cX12_isBelowZero 7 = .ok (.dconst 0, 1) := by decide +kernel
theorem dX12_isBelowZero_8 : decode cX12_isBelowZero 8 = .ok (.dcmp .l, 1) := by decide +kernel
theorem dX12_isBelowZero_9 : decode cX12_isBelowZero 9 = .ok (.ifCond .ne 15, 3) := by decide +kernel
theorem dX12_isBelowZero_12 : decode cX12_isBelowZero 12 = .ok (.dconst 1, 1) := by decide +kernel
theorem dX12_isBelowZero_13 : decode cX12_isBelowZero 13 = .ok (.dload_n 0, 1) := by decide +kernel
theorem dX12_isBelowZero_14 : decode cX12_isBelowZero 14 = .ok (.ddiv, 1) := by decide +kernel
theorem dX12_isBelowZero_15 : decode cX12_isBelowZero 15 = .ok (.dconst 0, 1) := by decide +kernel
theorem dX12_isBelowZero_16 : decode cX12_isBelowZero 16 = .ok (.dcmp .g, 1) := by decide +kernel
theorem dX12_isBelowZero_17 : decode cX12_isBelowZero 17 = .ok (.ifCond .ge 7, 3) := by decide +kernel
theorem dX12_isBelowZero_20 : decode cX12_isBelowZero 20 = .ok (.iconst 1, 1) := by decide +kernel
theorem dX12_isBelowZero_21 : decode cX12_isBelowZero 21 = .ok (.goto 4, 3) := by decide +kernel
theorem dX12_isBelowZero_24 : decode cX12_isBelowZero 24 = .ok (.iconst 0, 1) := by decide +kernel
theorem dX12_isBelowZero_25 : decode cX12_isBelowZero 25 = .ok (.ireturn, 1) := by decide +kernel
theorem dX12_floor_0 : decode cX12_floor 0 = .ok (.dload_n 0, 1) := by decide +kernel
theorem dX12_floor_1 : decode cX12_floor 1 = .ok (.dload_n 0, 1) := by decide +kernel
theorem dX12_floor_2 : decode cX12_floor 2 = .ok (.dcmp .l, 1) := by decide +kernel
theorem dX12_floor_3 : decode cX12_floor 3 = .ok (.ifCond .ne 25, 3) := by decide +kernel
theorem dX12_floor_6 : decode cX12_floor 6 = .ok (.dload_n 0, 1) := by decide +kernel
theorem dX12_floor_7 : decode cX12_floor 7 = .ok (.ldc2_w 208, 3) := by decide +kernel
theorem dX12_floor_10 : decode cX12_floor 10 = .ok (.dcmp .l, 1) := by decide +kernel
theorem dX12_floor_11 : decode cX12_floor 11 = .ok (.ifCond .ge 17, 3) := by decide +kernel
theorem dX12_floor_14 : decode cX12_floor 14 = .ok (.dload_n 0, 1) := by decide +kernel
theorem dX12_floor_15 : decode cX12_floor 15 = .ok (.ldc2_w 226, 3) := by decide +kernel
theorem dX12_floor_18 : decode cX12_floor 18 = .ok (.dcmp .g, 1) := by decide +kernel
theorem dX12_floor_19 : decode cX12_floor 19 = .ok (.ifCond .le 9, 3) := by decide +kernel
theorem dX12_floor_22 : decode cX12_floor 22 = .ok (.dload_n 0, 1) := by decide +kernel
theorem dX12_floor_23 : decode cX12_floor 23 = .ok (.dconst 0, 1) := by decide +kernel
theorem dX12_floor_24 : decode cX12_floor 24 = .ok (.dcmp .l, 1) := by decide +kernel
theorem dX12_floor_25 : decode cX12_floor 25 = .ok (.ifCond .ne 5, 3) := by decide +kernel
theorem dX12_floor_28 : decode cX12_floor 28 = .ok (.dload_n 0, 1) := by decide +kernel
theorem dX12_floor_29 : decode cX12_floor 29 = .ok (.dreturn, 1) := by decide +kernel
theorem dX12_floor_30 : decode cX12_floor 30 = .ok (.dload_n 0, 1) := by decide +kernel
theorem dX12_floor_31 : decode cX12_floor 31 = .ok (.d2l, 1) := by decide +kernel
theorem dX12_floor_32 : decode cX12_floor 32 = .ok (.l2d, 1) := by decide +kernel
theorem dX12_floor_33 : decode cX12_floor 33 = .ok (.dstore_n 2, 1) := by decide +kernel
theorem dX12_floor_34 : decode cX12_floor 34 = .ok (.dload_n 2, 1) := by decide +kernel
theorem dX12_floor_35 : decode cX12_floor 35 = .ok (.dload_n 0, 1) := by decide +kernel
theorem dX12_floor_36 : decode cX12_floor 36 = .ok (.dcmp .l, 1) := by decide +kernel
theorem dX12_floor_37 : decode cX12_floor 37 = .ok (.ifCond .le 9, 3) := by decide +kernel
theorem dX12_floor_40 : decode cX12_floor 40 = .ok (.dload_n 2, 1) := by decide +kernel
theorem dX12_floor_41 : decode cX12_floor 41 = .ok (.dconst 1, 1) := by decide +kernel
theorem dX12_floor_42 : decode cX12_floor 42 = .ok (.dsub, 1) := by decide +kernel
theorem dX12_floor_43 : decode cX12_floor 43 = .ok (.goto 4, 3) := by decide +kernel
theorem dX12_floor_46 : decode cX12_floor 46 = .ok (.dload_n 2, 1) := by decide +kernel
theorem dX12_floor_47 : decode cX12_floor 47 = .ok (.dstore_n 2, 1) := by decide +kernel
theorem dX12_floor_48 : decode cX12_floor 48 = .ok (.dload_n 2, 1) := by decide +kernel
theorem dX12_floor_49 : decode cX12_floor 49 = .ok (.dconst 0, 1) := by decide +kernel
theorem dX12_floor_50 : decode cX12_floor 50 = .ok (.dcmp .l, 1) := by decide +kernel
theorem dX12_floor_51 : decode cX12_floor 51 = .ok (.ifCond .ne 15, 3) := by decide +kernel
theorem dX12_floor_54 : decode cX12_floor 54 = .ok (.dload_n 0, 1) := by decide +kernel
theorem dX12_floor_55 : decode cX12_floor 55 = .ok (.dconst 0, 1) := by decide +kernel
theorem dX12_floor_56 : decode cX12_floor 56 = .ok (.dcmp .g, 1) := by decide +kernel
theorem dX12_floor_57 : decode cX12_floor 57 = .ok (.ifCond .ge 9, 3) := by decide +kernel
theorem dX12_floor_60 : decode cX12_floor 60 = .ok (.ldc2_w 228, 3) := by decide +kernel
theorem dX12_floor_63 : decode cX12_floor 63 = .ok (.goto 4, 3) := by decide +kernel
theorem dX12_floor_66 : decode cX12_floor 66 = .ok (.dload_n 2, 1) := by decide +kernel
theorem dX12_floor_67 : decode cX12_floor 67 = .ok (.dreturn, 1) := by decide +kernel
theorem dX12_near_0 : decode cX12_near 0 = .ok (.dload_n 0, 1) := by decide +kernel
theorem dX12_near_1 : decode cX12_near 1 = .ok (.dload_n 0, 1) := by decide +kernel
theorem dX12_near_2 : decode cX12_near 2 = .ok (.dcmp .l, 1) := by decide +kernel
theorem dX12_near_3 : decode cX12_near 3 = .ok (.ifCond .ne 25, 3) := by decide +kernel
theorem dX12_near_6 : decode cX12_near 6 = .ok (.dload_n 0, 1) := by decide +kernel
theorem dX12_near_7 : decode cX12_near 7 = .ok (.ldc2_w 208, 3) := by decide +kernel
theorem dX12_near_10 : decode cX12_near 10 = .ok (.dcmp .l, 1) := by decide +kernel

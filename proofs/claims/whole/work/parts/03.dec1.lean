theorem dX0_init_0 : decode cX0_init 0 = .ok (.aload_n 0, 1) := by decide +kernel
theorem dX0_init_1 : decode cX0_init 1 = .ok (.invokespecial 3, 3) := by decide +kernel
theorem dX0_init_4 : decode cX0_init 4 = .ok (.aload_n 0, 1) := by decide +kernel
theorem dX0_init_5 : decode cX0_init 5 = .ok (.iconst (-1), 1) := by decide +kernel
theorem dX0_init_6 : decode cX0_init 6 = .ok (.putfield 9, 3) := by decide +kernel
theorem dX0_init_9 : decode cX0_init 9 = .ok (.aload_n 0, 1) := by decide +kernel
theorem dX0_init_10 : decode cX0_init 10 = .ok (.iconst (-1), 1) := by decide +kernel
theorem dX0_init_11 : decode cX0_init 11 = .ok (.putfield 15, 3) := by decide +kernel
theorem dX0_init_14 : decode cX0_init 14 = .ok (.aload_n 0, 1) := by decide +kernel
theorem dX0_init_15 : decode cX0_init 15 = .ok (.iconst (-1), 1) := by decide +kernel
theorem dX0_init_16 : decode cX0_init 16 = .ok (.putfield 18, 3) := by decide +kernel
theorem dX0_init_19 : decode cX0_init 19 = .ok (.aload_n 0, 1) := by decide +kernel
theorem dX0_init_20 : decode cX0_init 20 = .ok (.iconst (-1), 1) := by decide +kernel
theorem dX0_init_21 : decode cX0_init 21 = .ok (.putfield 21, 3) := by decide +kernel
theorem dX0_init_24 : decode cX0_init 24 = .ok (.return_, 1) := by decide +kernel
theorem dX0_clear_0 : decode cX0_clear 0 = .ok (.aload_n 0, 1) := by decide +kernel
theorem dX0_clear_1 : decode cX0_clear 1 = .ok (.iconst (-1), 1) := by decide +kernel
theorem dX0_clear_2 : decode cX0_clear 2 = .ok (.putfield 9, 3) := by decide +kernel
theorem dX0_clear_5 : decode cX0_clear 5 = .ok (.aload_n 0, 1) := by decide +kernel
theorem dX0_clear_6 : decode cX0_clear 6 = .ok (.iconst (-1), 1) := by decide +kernel
theorem dX0_clear_7 : decode cX0_clear 7 = .ok (.putfield 15, 3) := by decide +kernel
theorem dX0_clear_10 : decode cX0_clear 10 = .ok (.aload_n 0, 1) := by decide +kernel
theorem dX0_clear_11 : decode cX0_clear 11 = .ok (.iconst (-1), 1) := by decide +kernel
theorem dX0_clear_12 : decode cX0_clear 12 = .ok (.putfield 18, 3) := by decide +kernel
theorem dX0_clear_15 : decode cX0_clear 15 = .ok (.return_, 1) := by decide +kernel
theorem dX0_isQueued_0 : decode cX0_isQueued 0 = .ok (.aload_n 0, 1) := by decide +kernel
theorem dX0_isQueued_1 : decode cX0_isQueued 1 = .ok (.getfield 9, 3) := by decide +kernel
theorem dX0_isQueued_4 : decode cX0_isQueued 4 = .ok (.ifCond .eq 11, 3) := by decide +kernel
theorem dX0_isQueued_7 : decode cX0_isQueued 7 = .ok (.aload_n 0, 1) := by decide +kernel
theorem dX0_isQueued_8 : decode cX0_isQueued 8 = .ok (.getfield 9, 3) := by decide +kernel
theorem dX0_isQueued_11 : decode cX0_isQueued 11 = .ok (.iconst 1, 1) := by decide +kernel
theorem dX0_isQueued_12 : decode cX0_isQueued 12 = .ok (.if_icmp .ne 7, 3) := by decide +kernel
theorem dX0_isQueued_15 : decode cX0_isQueued 15 = .ok (.iconst 1, 1) := by decide +kernel
theorem dX0_isQueued_16 : decode cX0_isQueued 16 = .ok (.goto 4, 3) := by decide +kernel
theorem dX0_isQueued_19 : decode cX0_isQueued 19 = .ok (.iconst 0, 1) := by decide +kernel
theorem dX0_isQueued_20 : decode cX0_isQueued 20 = .ok (.ireturn, 1) := by decide +kernel
theorem dX0_plan_0 : decode cX0_plan 0 = .ok (.aload_n 0, 1) := by decide +kernel
theorem dX0_plan_1 : decode cX0_plan 1 = .ok (.getfield 24, 3) := by decide +kernel
theorem dX0_plan_4 : decode cX0_plan 4 = .ok (.tableswitch 94 0 2 #[28, 42, 64], 28) := by decide +kernel
theorem dX0_plan_32 : decode cX0_plan 32 = .ok (.aload_n 0, 1) := by decide +kernel
theorem dX0_plan_33 : decode cX0_plan 33 = .ok (.lload_n 1, 1) := by decide +kernel
theorem dX0_plan_34 : decode cX0_plan 34 = .ok (.lload_n 3, 1) := by decide +kernel
theorem dX0_plan_35 : decode cX0_plan 35 = .ok (.ladd, 1) := by decide +kernel
theorem dX0_plan_36 : decode cX0_plan 36 = .ok (.lconst 0, 1) := by decide +kernel
theorem dX0_plan_37 : decode cX0_plan 37 = .ok (.lload_n 1, 1) := by decide +kernel
theorem dX0_plan_38 : decode cX0_plan 38 = .ok (.lload_n 3, 1) := by decide +kernel
theorem dX0_plan_39 : decode cX0_plan 39 = .ok (.lmul, 1) := by decide +kernel
theorem dX0_plan_40 : decode cX0_plan 40 = .ok (.invokevirtual 27, 3) := by decide +kernel
theorem dX0_plan_43 : decode cX0_plan 43 = .ok (.goto 89, 3) := by decide +kernel
theorem dX0_plan_46 : decode cX0_plan 46 = .ok (.aload_n 0, 1) := by decide +kernel
theorem dX0_plan_47 : decode cX0_plan 47 = .ok (.lload_n 1, 1) := by decide +kernel
theorem dX0_plan_48 : decode cX0_plan 48 = .ok (.lload_n 1, 1) := by decide +kernel
theorem dX0_plan_49 : decode cX0_plan 49 = .ok (.lload_n 3, 1) := by decide +kernel
theorem dX0_plan_50 : decode cX0_plan 50 = .ok (.ladd, 1) := by decide +kernel
theorem dX0_plan_51 : decode cX0_plan 51 = .ok (.lconst 1, 1) := by decide +kernel
theorem dX0_plan_52 : decode cX0_plan 52 = .ok (.ladd, 1) := by decide +kernel
theorem dX0_plan_53 : decode cX0_plan 53 = .ok (.ldc2_w 31, 3) := by decide +kernel
theorem dX0_plan_56 : decode cX0_plan 56 = .ok (.lload_n 1, 1) := by decide +kernel
theorem dX0_plan_57 : decode cX0_plan 57 = .ok (.lmul, 1) := by decide +kernel
theorem dX0_plan_58 : decode cX0_plan 58 = .ok (.lload_n 3, 1) := by decide +kernel
theorem dX0_plan_59 : decode cX0_plan 59 = .ok (.lconst 1, 1) := by decide +kernel
theorem dX0_plan_60 : decode cX0_plan 60 = .ok (.ladd, 1) := by decide +kernel
theorem dX0_plan_61 : decode cX0_plan 61 = .ok (.lmul, 1) := by decide +kernel
theorem dX0_plan_62 : decode cX0_plan 62 = .ok (.invokevirtual 27, 3) := by decide +kernel
theorem dX0_plan_65 : decode cX0_plan 65 = .ok (.goto 67, 3) := by decide +kernel
theorem dX0_plan_68 : decode cX0_plan 68 = .ok (.aload_n 0, 1) := by decide +kernel
theorem dX0_plan_69 : decode cX0_plan 69 = .ok (.lload_n 1, 1) := by decide +kernel
theorem dX0_plan_70 : decode cX0_plan 70 = .ok (.lload_n 3, 1) := by decide +kernel
theorem dX0_plan_71 : decode cX0_plan 71 = .ok (.invokestatic 33, 3) := by decide +kernel
theorem dX0_plan_74 : decode cX0_plan 74 = .ok (.ldc2_w 39, 3) := by decide +kernel
theorem dX0_plan_77 : decode cX0_plan 77 = .ok (.lload_n 1, 1) := by decide +kernel
theorem dX0_plan_78 : decode cX0_plan 78 = .ok (.lload_n 3, 1) := by decide +kernel
theorem dX0_plan_79 : decode cX0_plan 79 = .ok (.ladd, 1) := by decide +kernel
theorem dX0_plan_80 : decode cX0_plan 80 = .ok (.lmul, 1) := by decide +kernel
theorem dX0_plan_81 : decode cX0_plan 81 = .ok (.ldc2_w 31, 3) := by decide +kernel
theorem dX0_plan_84 : decode cX0_plan 84 = .ok (.lload_n 1, 1) := by decide +kernel
theorem dX0_plan_85 : decode cX0_plan 85 = .ok (.lload_n 3, 1) := by decide +kernel
theorem dX0_plan_86 : decode cX0_plan 86 = .ok (.ladd, 1) := by decide +kernel
theorem dX0_plan_87 : decode cX0_plan 87 = .ok (.lmul, 1) := by decide +kernel
theorem dX0_plan_88 : decode cX0_plan 88 = .ok (.lload_n 1, 1) := by decide +kernel
theorem dX0_plan_89 : decode cX0_plan 89 = .ok (.lload_n 3, 1) := by decide +kernel
theorem dX0_plan_90 : decode cX0_plan 90 = .ok (.ladd, 1) := by decide +kernel
theorem dX0_plan_91 : decode cX0_plan 91 = .ok (.lmul, 1) := by decide +kernel
theorem dX0_plan_92 : decode cX0_plan 92 = .ok (.invokevirtual 27, 3) := by decide +kernel
theorem dX0_plan_95 : decode cX0_plan 95 = .ok (.goto 37, 3) := by decide +kernel
theorem dX0_plan_98 : decode cX0_plan 98 = .ok (.aload_n 0, 1) := by decide +kernel
theorem dX0_plan_99 : decode cX0_plan 99 = .ok (.lload 5, 2) := by decide +kernel
theorem dX0_plan_101 : decode cX0_plan 101 = .ok (.ldc2_w 41, 3) := by decide +kernel
theorem dX0_plan_104 : decode cX0_plan 104 = .ok (.lload 5, 2) := by decide +kernel
theorem dX0_plan_106 : decode cX0_plan 106 = .ok (.lmul, 1) := by decide +kernel
theorem dX0_plan_107 : decode cX0_plan 107 = .ok (.lconst 1, 1) := by decide +kernel
theorem dX0_plan_108 : decode cX0_plan 108 = .ok (.ladd, 1) := by decide +kernel
theorem dX0_plan_109 : decode cX0_plan 109 = .ok (.ldc2_w 31, 3) := by decide +kernel
theorem dX0_plan_112 : decode cX0_plan 112 = .ok (.lload_n 1, 1) := by decide +kernel
theorem dX0_plan_113 : decode cX0_plan 113 = .ok (.lmul, 1) := by decide +kernel
theorem dX0_plan_114 : decode cX0_plan 114 = .ok (.lload 5, 2) := by decide +kernel
theorem dX0_plan_116 : decode cX0_plan 116 = .ok (.lmul, 1) := by decide +kernel
theorem dX0_plan_117 : decode cX0_plan 117 = .ok (.ldc2_w 43, 3) := by decide +kernel
theorem dX0_plan_120 : decode cX0_plan 120 = .ok (.lload_n 3, 1) := by decide +kernel
theorem dX0_plan_121 : decode cX0_plan 121 = .ok (.lmul, 1) := by decide +kernel
theorem dX0_plan_122 : decode cX0_plan 122 = .ok (.lload 5, 2) := by decide +kernel
theorem dX0_plan_124 : decode cX0_plan 124 = .ok (.lmul, 1) := by decide +kernel
theorem dX0_plan_125 : decode cX0_plan 125 = .ok (.lload 5, 2) := by decide +kernel
theorem dX0_plan_127 : decode cX0_plan 127 = .ok (.lmul, 1) := by decide +kernel
theorem dX0_plan_128 : decode cX0_plan 128 = .ok (.ladd, 1) := by decide +kernel
theorem dX0_plan_129 : decode cX0_plan 129 = .ok (.invokevirtual 27, 3) := by decide +kernel
theorem dX0_plan_132 : decode cX0_plan 132 = .ok (.return_, 1) := by decide +kernel
theorem dX0_need_0 : decode cX0_need 0 = .ok (.aload_n 0, 1) := by decide +kernel
theorem dX0_need_1 : decode cX0_need 1 = .ok (.lload_n 1, 1) := by decide +kernel
theorem dX0_need_2 : decode cX0_need 2 = .ok (.l2i, 1) := by decide +kernel
theorem dX0_need_3 : decode cX0_need 3 = .ok (.putfield 45, 3) := by decide +kernel
theorem dX0_need_6 : decode cX0_need 6 = .ok (.aload_n 0, 1) := by decide +kernel
theorem dX0_need_7 : decode cX0_need 7 = .ok (.lload_n 1, 1) := by decide +kernel
theorem dX0_need_8 : decode cX0_need 8 = .ok (.invokestatic 48, 3) := by decide +kernel
theorem dX0_need_11 : decode cX0_need 11 = .ok (.putfield 54, 3) := by decide +kernel
theorem dX0_need_14 : decode cX0_need 14 = .ok (.aload_n 0, 1) := by decide +kernel
theorem dX0_need_15 : decode cX0_need 15 = .ok (.lload_n 3, 1) := by decide +kernel
theorem dX0_need_16 : decode cX0_need 16 = .ok (.lconst 0, 1) := by decide +kernel
theorem dX0_need_17 : decode cX0_need 17 = .ok (.lcmp, 1) := by decide +kernel
theorem dX0_need_18 : decode cX0_need 18 = .ok (.ifCond .ne 7, 3) := by decide +kernel
theorem dX0_need_21 : decode cX0_need 21 = .ok (.iconst (-1), 1) := by decide +kernel
theorem dX0_need_22 : decode cX0_need 22 = .ok (.goto 7, 3) := by decide +kernel
theorem dX0_need_25 : decode cX0_need 25 = .ok (.lload_n 3, 1) := by decide +kernel
theorem dX0_need_26 : decode cX0_need 26 = .ok (.invokestatic 48, 3) := by decide +kernel
theorem dX0_need_29 : decode cX0_need 29 = .ok (.putfield 21, 3) := by decide +kernel
theorem dX0_need_32 : decode cX0_need 32 = .ok (.aload_n 0, 1) := by decide +kernel
theorem dX0_need_33 : decode cX0_need 33 = .ok (.lload 5, 2) := by decide +kernel
theorem dX0_need_35 : decode cX0_need 35 = .ok (.putfield 57, 3) := by decide +kernel
theorem dX0_need_38 : decode cX0_need 38 = .ok (.return_, 1) := by decide +kernel
theorem dX1_init_0 : decode cX1_init 0 = .ok (.aload_n 0, 1) := by decide +kernel
theorem dX1_init_1 : decode cX1_init 1 = .ok (.invokespecial 3, 3) := by decide +kernel
theorem dX1_init_4 : decode cX1_init 4 = .ok (.aload_n 0, 1) := by decide +kernel
theorem dX1_init_5 : decode cX1_init 5 = .ok (.iload_n 1, 1) := by decide +kernel
theorem dX1_init_6 : decode cX1_init 6 = .ok (.putfield 9, 3) := by decide +kernel
theorem dX1_init_9 : decode cX1_init 9 = .ok (.aload_n 0, 1) := by decide +kernel
theorem dX1_init_10 : decode cX1_init 10 = .ok (.iconst 1, 1) := by decide +kernel
theorem dX1_init_11 : decode cX1_init 11 = .ok (.iload_n 1, 1) := by decide +kernel
theorem dX1_init_12 : decode cX1_init 12 = .ok (.ishl, 1) := by decide +kernel
theorem dX1_init_13 : decode cX1_init 13 = .ok (.newarray .int, 2) := by decide +kernel
theorem dX1_init_15 : decode cX1_init 15 = .ok (.putfield 15, 3) := by decide +kernel
theorem dX1_init_18 : decode cX1_init 18 = .ok (.aload_n 0, 1) := by decide +kernel
theorem dX1_init_19 : decode cX1_init 19 = .ok (.iload_n 1, 1) := by decide +kernel
theorem dX1_init_20 : decode cX1_init 20 = .ok (.iconst 1, 1) := by decide +kernel
theorem dX1_init_21 : decode cX1_init 21 = .ok (.iadd, 1) := by decide +kernel
theorem dX1_init_22 : decode cX1_init 22 = .ok (.newarray .int, 2) := by decide +kernel
theorem dX1_init_24 : decode cX1_init 24 = .ok (.putfield 19, 3) := by decide +kernel
theorem dX1_init_27 : decode cX1_init 27 = .ok (.aload_n 0, 1) := by decide +kernel
theorem dX1_init_28 : decode cX1_init 28 = .ok (.iconst 1, 1) := by decide +kernel
theorem dX1_init_29 : decode cX1_init 29 = .ok (.iload_n 1, 1) := by decide +kernel
theorem dX1_init_30 : decode cX1_init 30 = .ok (.ishl, 1) := by decide +kernel
theorem dX1_init_31 : decode cX1_init 31 = .ok (.newarray .int, 2) := by decide +kernel
theorem dX1_init_33 : decode cX1_init 33 = .ok (.putfield 22, 3) := by decide +kernel
theorem dX1_init_36 : decode cX1_init 36 = .ok (.aload_n 0, 1) := by decide +kernel
theorem dX1_init_37 : decode cX1_init 37 = .ok (.invokevirtual 25, 3) := by decide +kernel
theorem dX1_init_40 : decode cX1_init 40 = .ok (.return_, 1) := by decide +kernel
theorem dX1_clear_0 : decode cX1_clear 0 = .ok (.aload_n 0, 1) := by decide +kernel
theorem dX1_clear_1 : decode cX1_clear 1 = .ok (.getfield 22, 3) := by decide +kernel
theorem dX1_clear_4 : decode cX1_clear 4 = .ok (.iconst (-1), 1) := by decide +kernel
theorem dX1_clear_5 : decode cX1_clear 5 = .ok (.invokestatic 28, 3) := by decide +kernel
theorem dX1_clear_8 : decode cX1_clear 8 = .ok (.aload_n 0, 1) := by decide +kernel
theorem dX1_clear_9 : decode cX1_clear 9 = .ok (.getfield 19, 3) := by decide +kernel
theorem dX1_clear_12 : decode cX1_clear 12 = .ok (.iconst 0, 1) := by decide +kernel
theorem dX1_clear_13 : decode cX1_clear 13 = .ok (.invokestatic 28, 3) := by decide +kernel
theorem dX1_clear_16 : decode cX1_clear 16 = .ok (.aload_n 0, 1) := by decide +kernel
theorem dX1_clear_17 : decode cX1_clear 17 = .ok (.iconst 0, 1) := by decide +kernel
theorem dX1_clear_18 : decode cX1_clear 18 = .ok (.aload_n 0, 1) := by decide +kernel
theorem dX1_clear_19 : decode cX1_clear 19 = .ok (.getfield 9, 3) := by decide +kernel
theorem dX1_clear_22 : decode cX1_clear 22 = .ok (.invokevirtual 34, 3) := by decide +kernel
theorem dX1_clear_25 : decode cX1_clear 25 = .ok (.return_, 1) := by decide +kernel
theorem dX1_orderFor_0 : decode cX1_orderFor 0 = .ok (.iconst 0, 1) := by decide +kernel
theorem dX1_orderFor_1 : decode cX1_orderFor 1 = .ok (.istore_n 2, 1) := by decide +kernel
theorem dX1_orderFor_2 : decode cX1_orderFor 2 = .ok (.iload_n 2, 1) := by decide +kernel
theorem dX1_orderFor_3 : decode cX1_orderFor 3 = .ok (.bipush 30, 2) := by decide +kernel
theorem dX1_orderFor_5 : decode cX1_orderFor 5 = .ok (.if_icmp .ge 17, 3) := by decide +kernel
theorem dX1_orderFor_8 : decode cX1_orderFor 8 = .ok (.lconst 1, 1) := by decide +kernel
theorem dX1_orderFor_9 : decode cX1_orderFor 9 = .ok (.iload_n 2, 1) := by decide +kernel
theorem dX1_orderFor_10 : decode cX1_orderFor 10 = .ok (.lshl, 1) := by decide +kernel
theorem dX1_orderFor_11 : decode cX1_orderFor 11 = .ok (.lload_n 0, 1) := by decide +kernel
theorem dX1_orderFor_12 : decode cX1_orderFor 12 = .ok (.lcmp, 1) := by decide +kernel
theorem dX1_orderFor_13 : decode cX1_orderFor 13 = .ok (.ifCond .ge 9, 3) := by decide +kernel
theorem dX1_orderFor_16 : decode cX1_orderFor 16 = .ok (.iinc 2 1, 3) := by decide +kernel
theorem dX1_orderFor_19 : decode cX1_orderFor 19 = .ok (.goto (-17), 3) := by decide +kernel
theorem dX1_orderFor_22 : decode cX1_orderFor 22 = .ok (.iload_n 2, 1) := by decide +kernel
theorem dX1_orderFor_23 : decode cX1_orderFor 23 = .ok (.ireturn, 1) := by decide +kernel
theorem dX1_canGive_0 : decode cX1_canGive 0 = .ok (.aload_n 0, 1) := by decide +kernel
theorem dX1_canGive_1 : decode cX1_canGive 1 = .ok (.iload_n 1, 1) := by decide +kernel
theorem dX1_canGive_2 : decode cX1_canGive 2 = .ok (.invokevirtual 38, 3) := by decide +kernel
theorem dX1_canGive_5 : decode cX1_canGive 5 = .ok (.istore_n 3, 1) := by decide +kernel
theorem dX1_canGive_6 : decode cX1_canGive 6 = .ok (.iload_n 3, 1) := by decide +kernel
theorem dX1_canGive_7 : decode cX1_canGive 7 = .ok (.iconst (-1), 1) := by decide +kernel
theorem dX1_canGive_8 : decode cX1_canGive 8 = .ok (.if_icmp .eq 8, 3) := by decide +kernel
theorem dX1_canGive_11 : decode cX1_canGive 11 = .ok (.iload_n 2, 1) := by decide +kernel
theorem dX1_canGive_12 : decode cX1_canGive 12 = .ok (.iconst (-1), 1) := by decide +kernel
theorem dX1_canGive_13 : decode cX1_canGive 13 = .ok (.if_icmp .ne 14, 3) := by decide +kernel
theorem dX1_canGive_16 : decode cX1_canGive 16 = .ok (.iload_n 3, 1) := by decide +kernel
theorem dX1_canGive_17 : decode cX1_canGive 17 = .ok (.iconst (-1), 1) := by decide +kernel
theorem dX1_canGive_18 : decode cX1_canGive 18 = .ok (.if_icmp .eq 7, 3) := by decide +kernel
theorem dX1_canGive_21 : decode cX1_canGive 21 = .ok (.iconst 1, 1) := by decide +kernel
theorem dX1_canGive_22 : decode cX1_canGive 22 = .ok (.goto 4, 3) := by decide +kernel
theorem dX1_canGive_25 : decode cX1_canGive 25 = .ok (.iconst 0, 1) := by decide +kernel
theorem dX1_canGive_26 : decode cX1_canGive 26 = .ok (.ireturn, 1) := by decide +kernel
theorem dX1_canGive_27 : decode cX1_canGive 27 = .ok (.iload_n 2, 1) := by decide +kernel
theorem dX1_canGive_28 : decode cX1_canGive 28 = .ok (.istore 4, 2) := by decide +kernel
theorem dX1_canGive_30 : decode cX1_canGive 30 = .ok (.iload 4, 2) := by decide +kernel
theorem dX1_canGive_32 : decode cX1_canGive 32 = .ok (.aload_n 0, 1) := by decide +kernel
theorem dX1_canGive_33 : decode cX1_canGive 33 = .ok (.getfield 9, 3) := by decide +kernel
theorem dX1_canGive_36 : decode cX1_canGive 36 = .ok (.if_icmp .gt 52, 3) := by decide +kernel
theorem dX1_canGive_39 : decode cX1_canGive 39 = .ok (.aload_n 0, 1) := by decide +kernel
theorem dX1_canGive_40 : decode cX1_canGive 40 = .ok (.getfield 19, 3) := by decide +kernel
theorem dX1_canGive_43 : decode cX1_canGive 43 = .ok (.iload 4, 2) := by decide +kernel
theorem dX1_canGive_45 : decode cX1_canGive 45 = .ok (.iaload, 1) := by decide +kernel
theorem dX1_canGive_46 : decode cX1_canGive 46 = .ok (.istore 5, 2) := by decide +kernel
theorem dX1_canGive_48 : decode cX1_canGive 48 = .ok (.iload 4, 2) := by decide +kernel
theorem dX1_canGive_50 : decode cX1_canGive 50 = .ok (.iload_n 3, 1) := by decide +kernel
theorem dX1_canGive_51 : decode cX1_canGive 51 = .ok (.if_icmp .ne 9, 3) := by decide +kernel
theorem dX1_canGive_54 : decode cX1_canGive 54 = .ok (.iinc 5 (-1), 3) := by decide +kernel
theorem dX1_canGive_57 : decode cX1_canGive 57 = .ok (.goto 18, 3) := by decide +kernel
theorem dX1_canGive_60 : decode cX1_canGive 60 = .ok (.iload 4, 2) := by decide +kernel
theorem dX1_canGive_62 : decode cX1_canGive 62 = .ok (.iload_n 1, 1) := by decide +kernel
theorem dX1_canGive_63 : decode cX1_canGive 63 = .ok (.if_icmp .lt 12, 3) := by decide +kernel
theorem dX1_canGive_66 : decode cX1_canGive 66 = .ok (.iload 4, 2) := by decide +kernel
theorem dX1_canGive_68 : decode cX1_canGive 68 = .ok (.iload_n 3, 1) := by decide +kernel
theorem dX1_canGive_69 : decode cX1_canGive 69 = .ok (.if_icmp .ge 6, 3) := by decide +kernel
theorem dX1_canGive_72 : decode cX1_canGive 72 = .ok (.iinc 5 1, 3) := by decide +kernel
theorem dX1_canGive_75 : decode cX1_canGive 75 = .ok (.iload 5, 2) := by decide +kernel
theorem dX1_canGive_77 : decode cX1_canGive 77 = .ok (.ifCond .le 5, 3) := by decide +kernel
theorem dX1_canGive_80 : decode cX1_canGive 80 = .ok (.iconst 1, 1) := by decide +kernel
theorem dX1_canGive_81 : decode cX1_canGive 81 = .ok (.ireturn, 1) := by decide +kernel
theorem dX1_canGive_82 : decode cX1_canGive 82 = .ok (.iinc 4 1, 3) := by decide +kernel
theorem dX1_canGive_85 : decode cX1_canGive 85 = .ok (.goto (-55), 3) := by decide +kernel
theorem dX1_canGive_88 : decode cX1_canGive 88 = .ok (.iconst 0, 1) := by decide +kernel
theorem dX1_canGive_89 : decode cX1_canGive 89 = .ok (.ireturn, 1) := by decide +kernel
theorem dX1_give_0 : decode cX1_give 0 = .ok (.aload_n 0, 1) := by decide +kernel
theorem dX1_give_1 : decode cX1_give 1 = .ok (.iload_n 1, 1) := by decide +kernel
theorem dX1_give_2 : decode cX1_give 2 = .ok (.invokevirtual 38, 3) := by decide +kernel
theorem dX1_give_5 : decode cX1_give 5 = .ok (.istore_n 2, 1) := by decide +kernel
theorem dX1_give_6 : decode cX1_give 6 = .ok (.iload_n 2, 1) := by decide +kernel
theorem dX1_give_7 : decode cX1_give 7 = .ok (.iconst (-1), 1) := by decide +kernel
theorem dX1_give_8 : decode cX1_give 8 = .ok (.if_icmp .ne 7, 3) := by decide +kernel
theorem dX1_give_11 : decode cX1_give 11 = .ok (.iconst (-1), 1) := by decide +kernel
theorem dX1_give_12 : decode cX1_give 12 = .ok (.goto 9, 3) := by decide +kernel
theorem dX1_give_15 : decode cX1_give 15 = .ok (.aload_n 0, 1) := by decide +kernel
theorem dX1_give_16 : decode cX1_give 16 = .ok (.iload_n 2, 1) := by decide +kernel
theorem dX1_give_17 : decode cX1_give 17 = .ok (.iconst 0, 1) := by decide +kernel
theorem dX1_give_18 : decode cX1_give 18 = .ok (.invokevirtual 42, 3) := by decide +kernel
theorem dX1_give_21 : decode cX1_give 21 = .ok (.istore_n 3, 1) := by decide +kernel
theorem dX1_give_22 : decode cX1_give 22 = .ok (.iload_n 3, 1) := by decide +kernel
theorem dX1_give_23 : decode cX1_give 23 = .ok (.iconst (-1), 1) := by decide +kernel
theorem dX1_give_24 : decode cX1_give 24 = .ok (.if_icmp .ne 5, 3) := by decide +kernel
theorem dX1_give_27 : decode cX1_give 27 = .ok (.iconst (-1), 1) := by decide +kernel
theorem dX1_give_28 : decode cX1_give 28 = .ok (.ireturn, 1) := by decide +kernel
theorem dX1_give_29 : decode cX1_give 29 = .ok (.aload_n 0, 1) := by decide +kernel
theorem dX1_give_30 : decode cX1_give 30 = .ok (.iload_n 3, 1) := by decide +kernel
theorem dX1_give_31 : decode cX1_give 31 = .ok (.iload_n 2, 1) := by decide +kernel
theorem dX1_give_32 : decode cX1_give 32 = .ok (.invokevirtual 46, 3) := by decide +kernel
theorem dX1_give_35 : decode cX1_give 35 = .ok (.iload_n 2, 1) := by decide +kernel
theorem dX1_give_36 : decode cX1_give 36 = .ok (.iconst 1, 1) := by decide +kernel
theorem dX1_give_37 : decode cX1_give 37 = .ok (.isub, 1) := by decide +kernel
theorem dX1_give_38 : decode cX1_give 38 = .ok (.istore 4, 2) := by decide +kernel
theorem dX1_give_40 : decode cX1_give 40 = .ok (.iload 4, 2) := by decide +kernel
theorem dX1_give_42 : decode cX1_give 42 = .ok (.iload_n 1, 1) := by decide +kernel
theorem dX1_give_43 : decode cX1_give 43 = .ok (.if_icmp .lt 21, 3) := by decide +kernel
theorem dX1_give_46 : decode cX1_give 46 = .ok (.aload_n 0, 1) := by decide +kernel
theorem dX1_give_47 : decode cX1_give 47 = .ok (.iload_n 3, 1) := by decide +kernel
theorem dX1_give_48 : decode cX1_give 48 = .ok (.iconst 1, 1) := by decide +kernel
theorem dX1_give_49 : decode cX1_give 49 = .ok (.iload 4, 2) := by decide +kernel
theorem dX1_give_51 : decode cX1_give 51 = .ok (.ishl, 1) := by decide +kernel
theorem dX1_give_52 : decode cX1_give 52 = .ok (.iadd, 1) := by decide +kernel
theorem dX1_give_53 : decode cX1_give 53 = .ok (.iload 4, 2) := by decide +kernel
theorem dX1_give_55 : decode cX1_give 55 = .ok (.invokevirtual 34, 3) := by decide +kernel
theorem dX1_give_58 : decode cX1_give 58 = .ok (.iinc 4 (-1), 3) := by decide +kernel
theorem dX1_give_61 : decode cX1_give 61 = .ok (.goto (-21), 3) := by decide +kernel
theorem dX1_give_64 : decode cX1_give 64 = .ok (.iload_n 3, 1) := by decide +kernel
theorem dX1_give_65 : decode cX1_give 65 = .ok (.ireturn, 1) := by decide +kernel
theorem dX1_takeBack_0 : decode cX1_takeBack 0 = .ok (.iload_n 1, 1) := by decide +kernel
theorem dX1_takeBack_1 : decode cX1_takeBack 1 = .ok (.istore_n 3, 1) := by decide +kernel
theorem dX1_takeBack_2 : decode cX1_takeBack 2 = .ok (.iload_n 2, 1) := by decide +kernel
theorem dX1_takeBack_3 : decode cX1_takeBack 3 = .ok (.istore 4, 2) := by decide +kernel
theorem dX1_takeBack_5 : decode cX1_takeBack 5 = .ok (.iload 4, 2) := by decide +kernel
theorem dX1_takeBack_7 : decode cX1_takeBack 7 = .ok (.aload_n 0, 1) := by decide +kernel
theorem dX1_takeBack_8 : decode cX1_takeBack 8 = .ok (.getfield 9, 3) := by decide +kernel
theorem dX1_takeBack_11 : decode cX1_takeBack 11 = .ok (.if_icmp .ge 46, 3) := by decide +kernel
theorem dX1_takeBack_14 : decode cX1_takeBack 14 = .ok (.aload_n 0, 1) := by decide +kernel
theorem dX1_takeBack_15 : decode cX1_takeBack 15 = .ok (.getfield 22, 3) := by decide +kernel
theorem dX1_takeBack_18 : decode cX1_takeBack 18 = .ok (.iload_n 3, 1) := by decide +kernel
theorem dX1_takeBack_19 : decode cX1_takeBack 19 = .ok (.iconst 1, 1) := by decide +kernel
theorem dX1_takeBack_20 : decode cX1_takeBack 20 = .ok (.iload 4, 2) := by decide +kernel
theorem dX1_takeBack_22 : decode cX1_takeBack 22 = .ok (.ishl, 1) := by decide +kernel
theorem dX1_takeBack_23 : decode cX1_takeBack 23 = .ok (.ixor, 1) := by decide +kernel
theorem dX1_takeBack_24 : decode cX1_takeBack 24 = .ok (.iaload, 1) := by decide +kernel
theorem dX1_takeBack_25 : decode cX1_takeBack 25 = .ok (.iload 4, 2) := by decide +kernel
theorem dX1_takeBack_27 : decode cX1_takeBack 27 = .ok (.if_icmp .ne 30, 3) := by decide +kernel
theorem dX1_takeBack_30 : decode cX1_takeBack 30 = .ok (.aload_n 0, 1) := by decide +kernel
theorem dX1_takeBack_31 : decode cX1_takeBack 31 = .ok (.iload_n 3, 1) := by decide +kernel
theorem dX1_takeBack_32 : decode cX1_takeBack 32 = .ok (.iconst 1, 1) := by decide +kernel
theorem dX1_takeBack_33 : decode cX1_takeBack 33 = .ok (.iload 4, 2) := by decide +kernel
theorem dX1_takeBack_35 : decode cX1_takeBack 35 = .ok (.ishl, 1) := by decide +kernel
theorem dX1_takeBack_36 : decode cX1_takeBack 36 = .ok (.ixor, 1) := by decide +kernel
theorem dX1_takeBack_37 : decode cX1_takeBack 37 = .ok (.iload 4, 2) := by decide +kernel
theorem dX1_takeBack_39 : decode cX1_takeBack 39 = .ok (.invokevirtual 46, 3) := by decide +kernel
theorem dX1_takeBack_42 : decode cX1_takeBack 42 = .ok (.iload_n 3, 1) := by decide +kernel
theorem dX1_takeBack_43 : decode cX1_takeBack 43 = .ok (.iconst 1, 1) := by decide +kernel
theorem dX1_takeBack_44 : decode cX1_takeBack 44 = .ok (.iload 4, 2) := by decide +kernel
theorem dX1_takeBack_46 : decode cX1_takeBack 46 = .ok (.ishl, 1) := by decide +kernel
theorem dX1_takeBack_47 : decode cX1_takeBack 47 = .ok (.iconst (-1), 1) := by decide +kernel
theorem dX1_takeBack_48 : decode cX1_takeBack 48 = .ok (.ixor, 1) := by decide +kernel
theorem dX1_takeBack_49 : decode cX1_takeBack 49 = .ok (.iand, 1) := by decide +kernel
theorem dX1_takeBack_50 : decode cX1_takeBack 50 = .ok (.istore_n 3, 1) := by decide +kernel
theorem dX1_takeBack_51 : decode cX1_takeBack 51 = .ok (.iinc 4 1, 3) := by decide +kernel
theorem dX1_takeBack_54 : decode cX1_takeBack 54 = .ok (.goto (-49), 3) := by decide +kernel
theorem dX1_takeBack_57 : decode cX1_takeBack 57 = .ok (.aload_n 0, 1) := by decide +kernel
theorem dX1_takeBack_58 : decode cX1_takeBack 58 = .ok (.iload_n 3, 1) := by decide +kernel
theorem dX1_takeBack_59 : decode cX1_takeBack 59 = .ok (.iload 4, 2) := by decide +kernel
theorem dX1_takeBack_61 : decode cX1_takeBack 61 = .ok (.invokevirtual 34, 3) := by decide +kernel
theorem dX1_takeBack_64 : decode cX1_takeBack 64 = .ok (.return_, 1) := by decide +kernel
theorem dX1_freeLimbs_0 : decode cX1_freeLimbs 0 = .ok (.iconst 0, 1) := by decide +kernel
theorem dX1_freeLimbs_1 : decode cX1_freeLimbs 1 = .ok (.istore_n 1, 1) := by decide +kernel
theorem dX1_freeLimbs_2 : decode cX1_freeLimbs 2 = .ok (.iconst 0, 1) := by decide +kernel
theorem dX1_freeLimbs_3 : decode cX1_freeLimbs 3 = .ok (.istore_n 2, 1) := by decide +kernel
theorem dX1_freeLimbs_4 : decode cX1_freeLimbs 4 = .ok (.iload_n 2, 1) := by decide +kernel
theorem dX1_freeLimbs_5 : decode cX1_freeLimbs 5 = .ok (.aload_n 0, 1) := by decide +kernel
theorem dX1_freeLimbs_6 : decode cX1_freeLimbs 6 = .ok (.getfield 9, 3) := by decide +kernel
theorem dX1_freeLimbs_9 : decode cX1_freeLimbs 9 = .ok (.if_icmp .gt 20, 3) := by decide +kernel
theorem dX1_freeLimbs_12 : decode cX1_freeLimbs 12 = .ok (.iload_n 1, 1) := by decide +kernel
theorem dX1_freeLimbs_13 : decode cX1_freeLimbs 13 = .ok (.aload_n 0, 1) := by decide +kernel
theorem dX1_freeLimbs_14 : decode cX1_freeLimbs 14 = .ok (.getfield 19, 3) := by decide +kernel
theorem dX1_freeLimbs_17 : decode cX1_freeLimbs 17 = .ok (.iload_n 2, 1) := by decide +kernel
theorem dX1_freeLimbs_18 : decode cX1_freeLimbs 18 = .ok (.iaload, 1) := by decide +kernel
theorem dX1_freeLimbs_19 : decode cX1_freeLimbs 19 = .ok (.iload_n 2, 1) := by decide +kernel
theorem dX1_freeLimbs_20 : decode cX1_freeLimbs 20 = .ok (.ishl, 1) := by decide +kernel
theorem dX1_freeLimbs_21 : decode cX1_freeLimbs 21 = .ok (.iadd, 1) := by decide +kernel
theorem dX1_freeLimbs_22 : decode cX1_freeLimbs 22 = .ok (.istore_n 1, 1) := by decide +kernel
theorem dX1_freeLimbs_23 : decode cX1_freeLimbs 23 = .ok (.iinc 2 1, 3) := by decide +kernel
theorem dX1_freeLimbs_26 : decode cX1_freeLimbs 26 = .ok (.goto (-22), 3) := by decide +kernel
theorem dX1_freeLimbs_29 : decode cX1_freeLimbs 29 = .ok (.iload_n 1, 1) := by decide +kernel
theorem dX1_freeLimbs_30 : decode cX1_freeLimbs 30 = .ok (.ireturn, 1) := by decide +kernel
theorem dX1_addressOfFree_0 : decode cX1_addressOfFree 0 = .ok (.iload_n 2, 1) := by decide +kernel
theorem dX1_addressOfFree_1 : decode cX1_addressOfFree 1 = .ok (.ifCond .lt 13, 3) := by decide +kernel
theorem dX1_addressOfFree_4 : decode cX1_addressOfFree 4 = .ok (.iload_n 2, 1) := by decide +kernel
theorem dX1_addressOfFree_5 : decode cX1_addressOfFree 5 = .ok (.aload_n 0, 1) := by decide +kernel
theorem dX1_addressOfFree_6 : decode cX1_addressOfFree 6 = .ok (.getfield 19, 3) := by decide +kernel
theorem dX1_addressOfFree_9 : decode cX1_addressOfFree 9 = .ok (.iload_n 1, 1) := by decide +kernel
theorem dX1_addressOfFree_10 : decode cX1_addressOfFree 10 = .ok (.iaload, 1) := by decide +kernel
theorem dX1_addressOfFree_11 : decode cX1_addressOfFree 11 = .ok (.if_icmp .lt 5, 3) := by decide +kernel
theorem dX1_addressOfFree_14 : decode cX1_addressOfFree 14 = .ok (.iconst (-1), 1) := by decide +kernel
theorem dX1_addressOfFree_15 : decode cX1_addressOfFree 15 = .ok (.ireturn, 1) := by decide +kernel
theorem dX1_addressOfFree_16 : decode cX1_addressOfFree 16 = .ok (.iconst 0, 1) := by decide +kernel
theorem dX1_addressOfFree_17 : decode cX1_addressOfFree 17 = .ok (.istore_n 3, 1) := by decide +kernel
theorem dX1_addressOfFree_18 : decode cX1_addressOfFree 18 = .ok (.iconst 0, 1) := by decide +kernel
theorem dX1_addressOfFree_19 : decode cX1_addressOfFree 19 = .ok (.istore 4, 2) := by decide +kernel
theorem dX1_addressOfFree_21 : decode cX1_addressOfFree 21 = .ok (.iload 4, 2) := by decide +kernel
theorem dX1_addressOfFree_23 : decode cX1_addressOfFree 23 = .ok (.aload_n 0, 1) := by decide +kernel
theorem dX1_addressOfFree_24 : decode cX1_addressOfFree 24 = .ok (.getfield 22, 3) := by decide +kernel
theorem dX1_addressOfFree_27 : decode cX1_addressOfFree 27 = .ok (.arraylength, 1) := by decide +kernel
theorem dX1_addressOfFree_28 : decode cX1_addressOfFree 28 = .ok (.if_icmp .ge 36, 3) := by decide +kernel
theorem dX1_addressOfFree_31 : decode cX1_addressOfFree 31 = .ok (.aload_n 0, 1) := by decide +kernel
theorem dX1_addressOfFree_32 : decode cX1_addressOfFree 32 = .ok (.getfield 22, 3) := by decide +kernel
theorem dX1_addressOfFree_35 : decode cX1_addressOfFree 35 = .ok (.iload 4, 2) := by decide +kernel
theorem dX1_addressOfFree_37 : decode cX1_addressOfFree 37 = .ok (.iaload, 1) := by decide +kernel
theorem dX1_addressOfFree_38 : decode cX1_addressOfFree 38 = .ok (.iload_n 1, 1) := by decide +kernel
theorem dX1_addressOfFree_39 : decode cX1_addressOfFree 39 = .ok (.if_icmp .ne 14, 3) := by decide +kernel
theorem dX1_addressOfFree_42 : decode cX1_addressOfFree 42 = .ok (.iload_n 3, 1) := by decide +kernel
theorem dX1_addressOfFree_43 : decode cX1_addressOfFree 43 = .ok (.iload_n 2, 1) := by decide +kernel
theorem dX1_addressOfFree_44 : decode cX1_addressOfFree 44 = .ok (.if_icmp .ne 6, 3) := by decide +kernel
theorem dX1_addressOfFree_47 : decode cX1_addressOfFree 47 = .ok (.iload 4, 2) := by decide +kernel
theorem dX1_addressOfFree_49 : decode cX1_addressOfFree 49 = .ok (.ireturn, 1) := by decide +kernel
theorem dX1_addressOfFree_50 : decode cX1_addressOfFree 50 = .ok (.iinc 3 1, 3) := by decide +kernel
theorem dX1_addressOfFree_53 : decode cX1_addressOfFree 53 = .ok (.iload 4, 2) := by decide +kernel
theorem dX1_addressOfFree_55 : decode cX1_addressOfFree 55 = .ok (.iconst 1, 1) := by decide +kernel
theorem dX1_addressOfFree_56 : decode cX1_addressOfFree 56 = .ok (.iload_n 1, 1) := by decide +kernel
theorem dX1_addressOfFree_57 : decode cX1_addressOfFree 57 = .ok (.ishl, 1) := by decide +kernel
theorem dX1_addressOfFree_58 : decode cX1_addressOfFree 58 = .ok (.iadd, 1) := by decide +kernel
theorem dX1_addressOfFree_59 : decode cX1_addressOfFree 59 = .ok (.istore 4, 2) := by decide +kernel
theorem dX1_addressOfFree_61 : decode cX1_addressOfFree 61 = .ok (.goto (-40), 3) := by decide +kernel
theorem dX1_addressOfFree_64 : decode cX1_addressOfFree 64 = .ok (.iconst (-1), 1) := by decide +kernel
theorem dX1_addressOfFree_65 : decode cX1_addressOfFree 65 = .ok (.ireturn, 1) := by decide +kernel
theorem dX1_leastFreeOrder_0 : decode cX1_leastFreeOrder 0 = .ok (.iload_n 1, 1) := by decide +kernel
theorem dX1_leastFreeOrder_1 : decode cX1_leastFreeOrder 1 = .ok (.istore_n 2, 1) := by decide +kernel
theorem dX1_leastFreeOrder_2 : decode cX1_leastFreeOrder 2 = .ok (.iload_n 2, 1) := by decide +kernel
theorem dX1_leastFreeOrder_3 : decode cX1_leastFreeOrder 3 = .ok (.aload_n 0, 1) := by decide +kernel
theorem dX1_leastFreeOrder_4 : decode cX1_leastFreeOrder 4 = .ok (.getfield 9, 3) := by decide +kernel
theorem dX1_leastFreeOrder_7 : decode cX1_leastFreeOrder 7 = .ok (.if_icmp .gt 20, 3) := by decide +kernel
theorem dX1_leastFreeOrder_10 : decode cX1_leastFreeOrder 10 = .ok (.aload_n 0, 1) := by decide +kernel
theorem dX1_leastFreeOrder_11 : decode cX1_leastFreeOrder 11 = .ok (.getfield 19, 3) := by decide +kernel
theorem dX1_leastFreeOrder_14 : decode cX1_leastFreeOrder 14 = .ok (.iload_n 2, 1) := by decide +kernel
theorem dX1_leastFreeOrder_15 : decode cX1_leastFreeOrder 15 = .ok (.iaload, 1) := by decide +kernel
theorem dX1_leastFreeOrder_16 : decode cX1_leastFreeOrder 16 = .ok (.ifCond .le 5, 3) := by decide +kernel
theorem dX1_leastFreeOrder_19 : decode cX1_leastFreeOrder 19 = .ok (.iload_n 2, 1) := by decide +kernel
theorem dX1_leastFreeOrder_20 : decode cX1_leastFreeOrder 20 = .ok (.ireturn, 1) := by decide +kernel
theorem dX1_leastFreeOrder_21 : decode cX1_leastFreeOrder 21 = .ok (.iinc 2 1, 3) := by decide +kernel
theorem dX1_leastFreeOrder_24 : decode cX1_leastFreeOrder 24 = .ok (.goto (-22), 3) := by decide +kernel
theorem dX1_leastFreeOrder_27 : decode cX1_leastFreeOrder 27 = .ok (.iconst (-1), 1) := by decide +kernel
theorem dX1_leastFreeOrder_28 : decode cX1_leastFreeOrder 28 = .ok (.ireturn, 1) := by decide +kernel
theorem dX1_addFree_0 : decode cX1_addFree 0 = .ok (.aload_n 0, 1) := by decide +kernel
theorem dX1_addFree_1 : decode cX1_addFree 1 = .ok (.getfield 22, 3) := by decide +kernel
theorem dX1_addFree_4 : decode cX1_addFree 4 = .ok (.iload_n 1, 1) := by decide +kernel
theorem dX1_addFree_5 : decode cX1_addFree 5 = .ok (.iload_n 2, 1) := by decide +kernel
theorem dX1_addFree_6 : decode cX1_addFree 6 = .ok (.iastore, 1) := by decide +kernel
theorem dX1_addFree_7 : decode cX1_addFree 7 = .ok (.aload_n 0, 1) := by decide +kernel
theorem dX1_addFree_8 : decode cX1_addFree 8 = .ok (.getfield 19, 3) := by decide +kernel
theorem dX1_addFree_11 : decode cX1_addFree 11 = .ok (.iload_n 2, 1) := by decide +kernel
theorem dX1_addFree_12 : decode cX1_addFree 12 = .ok (.dup2, 1) := by decide +kernel
theorem dX1_addFree_13 : decode cX1_addFree 13 = .ok (.iaload, 1) := by decide +kernel
theorem dX1_addFree_14 : decode cX1_addFree 14 = .ok (.iconst 1, 1) := by decide +kernel
theorem dX1_addFree_15 : decode cX1_addFree 15 = .ok (.iadd, 1) := by decide +kernel
theorem dX1_addFree_16 : decode cX1_addFree 16 = .ok (.iastore, 1) := by decide +kernel
theorem dX1_addFree_17 : decode cX1_addFree 17 = .ok (.return_, 1) := by decide +kernel
theorem dX1_removeFree_0 : decode cX1_removeFree 0 = .ok (.aload_n 0, 1) := by decide +kernel
theorem dX1_removeFree_1 : decode cX1_removeFree 1 = .ok (.getfield 22, 3) := by decide +kernel
theorem dX1_removeFree_4 : decode cX1_removeFree 4 = .ok (.iload_n 1, 1) := by decide +kernel
theorem dX1_removeFree_5 : decode cX1_removeFree 5 = .ok (.iconst (-1), 1) := by decide +kernel
theorem dX1_removeFree_6 : decode cX1_removeFree 6 = .ok (.iastore, 1) := by decide +kernel
theorem dX1_removeFree_7 : decode cX1_removeFree 7 = .ok (.aload_n 0, 1) := by decide +kernel
theorem dX1_removeFree_8 : decode cX1_removeFree 8 = .ok (.getfield 19, 3) := by decide +kernel
theorem dX1_removeFree_11 : decode cX1_removeFree 11 = .ok (.iload_n 2, 1) := by decide +kernel
theorem dX1_removeFree_12 : decode cX1_removeFree 12 = .ok (.dup2, 1) := by decide +kernel
theorem dX1_removeFree_13 : decode cX1_removeFree 13 = .ok (.iaload, 1) := by decide +kernel
theorem dX1_removeFree_14 : decode cX1_removeFree 14 = .ok (.iconst 1, 1) := by decide +kernel
theorem dX1_removeFree_15 : decode cX1_removeFree 15 = .ok (.isub, 1) := by decide +kernel
theorem dX1_removeFree_16 : decode cX1_removeFree 16 = .ok (.iastore, 1) := by decide +kernel
theorem dX1_removeFree_17 : decode cX1_removeFree 17 = .ok (.return_, 1) := by decide +kernel
theorem dX2_init_0 : decode cX2_init 0 = .ok (.aload_n 0, 1) := by decide +kernel
theorem dX2_init_1 : decode cX2_init 1 = .ok (.invokespecial 1, 3) := by decide +kernel
theorem dX2_init_4 : decode cX2_init 4 = .ok (.return_, 1) := by decide +kernel
theorem dX2_hasLimb_0 : decode cX2_hasLimb 0 = .ok (.iload_n 1, 1) := by decide +kernel
theorem dX2_hasLimb_1 : decode cX2_hasLimb 1 = .ok (.ifCond .lt 15, 3) := by decide +kernel
theorem dX2_hasLimb_4 : decode cX2_hasLimb 4 = .ok (.iload_n 1, 1) := by decide +kernel
theorem dX2_hasLimb_5 : decode cX2_hasLimb 5 = .ok (.aload_n 0, 1) := by decide +kernel
theorem dX2_hasLimb_6 : decode cX2_hasLimb 6 = .ok (.getfield 7, 3) := by decide +kernel
theorem dX2_hasLimb_9 : decode cX2_hasLimb 9 = .ok (.if_icmp .ge 7, 3) := by decide +kernel
theorem dX2_hasLimb_12 : decode cX2_hasLimb 12 = .ok (.iconst 1, 1) := by decide +kernel
theorem dX2_hasLimb_13 : decode cX2_hasLimb 13 = .ok (.goto 4, 3) := by decide +kernel
theorem dX2_hasLimb_16 : decode cX2_hasLimb 16 = .ok (.iconst 0, 1) := by decide +kernel
theorem dX2_hasLimb_17 : decode cX2_hasLimb 17 = .ok (.ireturn, 1) := by decide +kernel
theorem dX3_init_0 : decode cX3_init 0 = .ok (.aload_n 0, 1) := by decide +kernel
theorem dX3_init_1 : decode cX3_init 1 = .ok (.invokespecial 3, 3) := by decide +kernel
theorem dX3_init_4 : decode cX3_init 4 = .ok (.aload_n 0, 1) := by decide +kernel
theorem dX3_init_5 : decode cX3_init 5 = .ok (.iload_n 1, 1) := by decide +kernel
theorem dX3_init_6 : decode cX3_init 6 = .ok (.newarray .int, 2) := by decide +kernel
theorem dX3_init_8 : decode cX3_init 8 = .ok (.putfield 9, 3) := by decide +kernel
theorem dX3_init_11 : decode cX3_init 11 = .ok (.return_, 1) := by decide +kernel
theorem dX3_clear_0 : decode cX3_clear 0 = .ok (.aload_n 0, 1) := by decide +kernel
theorem dX3_clear_1 : decode cX3_clear 1 = .ok (.iconst 0, 1) := by decide +kernel
theorem dX3_clear_2 : decode cX3_clear 2 = .ok (.putfield 15, 3) := by decide +kernel
theorem dX3_clear_5 : decode cX3_clear 5 = .ok (.return_, 1) := by decide +kernel
theorem dX3_at_0 : decode cX3_at 0 = .ok (.iload_n 1, 1) := by decide +kernel
theorem dX3_at_1 : decode cX3_at 1 = .ok (.ifCond .lt 24, 3) := by decide +kernel
theorem dX3_at_4 : decode cX3_at 4 = .ok (.iload_n 1, 1) := by decide +kernel
theorem dX3_at_5 : decode cX3_at 5 = .ok (.aload_n 0, 1) := by decide +kernel
theorem dX3_at_6 : decode cX3_at 6 = .ok (.getfield 15, 3) := by decide +kernel
theorem dX3_at_9 : decode cX3_at 9 = .ok (.if_icmp .ge 16, 3) := by decide +kernel
theorem dX3_at_12 : decode cX3_at 12 = .ok (.aload_n 0, 1) := by decide +kernel
theorem dX3_at_13 : decode cX3_at 13 = .ok (.getfield 9, 3) := by decide +kernel
theorem dX3_at_16 : decode cX3_at 16 = .ok (.aload_n 0, 1) := by decide +kernel
theorem dX3_at_17 : decode cX3_at 17 = .ok (.iload_n 1, 1) := by decide +kernel
theorem dX3_at_18 : decode cX3_at 18 = .ok (.invokevirtual 19, 3) := by decide +kernel
theorem dX3_at_21 : decode cX3_at 21 = .ok (.iaload, 1) := by decide +kernel
theorem dX3_at_22 : decode cX3_at 22 = .ok (.goto 4, 3) := by decide +kernel
theorem dX3_at_25 : decode cX3_at 25 = .ok (.iconst (-1), 1) := by decide +kernel
theorem dX3_at_26 : decode cX3_at 26 = .ok (.ireturn, 1) := by decide +kernel
theorem dX3_append_0 : decode cX3_append 0 = .ok (.aload_n 0, 1) := by decide +kernel
theorem dX3_append_1 : decode cX3_append 1 = .ok (.getfield 15, 3) := by decide +kernel
theorem dX3_append_4 : decode cX3_append 4 = .ok (.aload_n 0, 1) := by decide +kernel
theorem dX3_append_5 : decode cX3_append 5 = .ok (.getfield 9, 3) := by decide +kernel
theorem dX3_append_8 : decode cX3_append 8 = .ok (.arraylength, 1) := by decide +kernel
theorem dX3_append_9 : decode cX3_append 9 = .ok (.if_icmp .ge 27, 3) := by decide +kernel
theorem dX3_append_12 : decode cX3_append 12 = .ok (.aload_n 0, 1) := by decide +kernel
theorem dX3_append_13 : decode cX3_append 13 = .ok (.getfield 9, 3) := by decide +kernel
theorem dX3_append_16 : decode cX3_append 16 = .ok (.aload_n 0, 1) := by decide +kernel
theorem dX3_append_17 : decode cX3_append 17 = .ok (.aload_n 0, 1) := by decide +kernel
theorem dX3_append_18 : decode cX3_append 18 = .ok (.getfield 15, 3) := by decide +kernel
theorem dX3_append_21 : decode cX3_append 21 = .ok (.invokevirtual 19, 3) := by decide +kernel
theorem dX3_append_24 : decode cX3_append 24 = .ok (.iload_n 1, 1) := by decide +kernel
theorem dX3_append_25 : decode cX3_append 25 = .ok (.iastore, 1) := by decide +kernel
theorem dX3_append_26 : decode cX3_append 26 = .ok (.aload_n 0, 1) := by decide +kernel
theorem dX3_append_27 : decode cX3_append 27 = .ok (.dup, 1) := by decide +kernel
theorem dX3_append_28 : decode cX3_append 28 = .ok (.getfield 15, 3) := by decide +kernel
theorem dX3_append_31 : decode cX3_append 31 = .ok (.iconst 1, 1) := by decide +kernel
theorem dX3_append_32 : decode cX3_append 32 = .ok (.iadd, 1) := by decide +kernel
theorem dX3_append_33 : decode cX3_append 33 = .ok (.putfield 15, 3) := by decide +kernel
theorem dX3_append_36 : decode cX3_append 36 = .ok (.return_, 1) := by decide +kernel
theorem dX3_takeFirst_0 : decode cX3_takeFirst 0 = .ok (.aload_n 0, 1) := by decide +kernel
theorem dX3_takeFirst_1 : decode cX3_takeFirst 1 = .ok (.getfield 15, 3) := by decide +kernel
theorem dX3_takeFirst_4 : decode cX3_takeFirst 4 = .ok (.ifCond .ne 5, 3) := by decide +kernel
theorem dX3_takeFirst_7 : decode cX3_takeFirst 7 = .ok (.iconst (-1), 1) := by decide +kernel
theorem dX3_takeFirst_8 : decode cX3_takeFirst 8 = .ok (.ireturn, 1) := by decide +kernel
theorem dX3_takeFirst_9 : decode cX3_takeFirst 9 = .ok (.aload_n 0, 1) := by decide +kernel
theorem dX3_takeFirst_10 : decode cX3_takeFirst 10 = .ok (.getfield 9, 3) := by decide +kernel
theorem dX3_takeFirst_13 : decode cX3_takeFirst 13 = .ok (.aload_n 0, 1) := by decide +kernel
theorem dX3_takeFirst_14 : decode cX3_takeFirst 14 = .ok (.getfield 23, 3) := by decide +kernel
theorem dX3_takeFirst_17 : decode cX3_takeFirst 17 = .ok (.iaload, 1) := by decide +kernel
theorem dX3_takeFirst_18 : decode cX3_takeFirst 18 = .ok (.istore_n 1, 1) := by decide +kernel
theorem dX3_takeFirst_19 : decode cX3_takeFirst 19 = .ok (.aload_n 0, 1) := by decide +kernel
theorem dX3_takeFirst_20 : decode cX3_takeFirst 20 = .ok (.aload_n 0, 1) := by decide +kernel
theorem dX3_takeFirst_21 : decode cX3_takeFirst 21 = .ok (.iconst 1, 1) := by decide +kernel
theorem dX3_takeFirst_22 : decode cX3_takeFirst 22 = .ok (.invokevirtual 19, 3) := by decide +kernel
theorem dX3_takeFirst_25 : decode cX3_takeFirst 25 = .ok (.putfield 23, 3) := by decide +kernel
theorem dX3_takeFirst_28 : decode cX3_takeFirst 28 = .ok (.aload_n 0, 1) := by decide +kernel
theorem dX3_takeFirst_29 : decode cX3_takeFirst 29 = .ok (.dup, 1) := by decide +kernel
theorem dX3_takeFirst_30 : decode cX3_takeFirst 30 = .ok (.getfield 15, 3) := by decide +kernel
theorem dX3_takeFirst_33 : decode cX3_takeFirst 33 = .ok (.iconst 1, 1) := by decide +kernel
theorem dX3_takeFirst_34 : decode cX3_takeFirst 34 = .ok (.isub, 1) := by decide +kernel
theorem dX3_takeFirst_35 : decode cX3_takeFirst 35 = .ok (.putfield 15, 3) := by decide +kernel
theorem dX3_takeFirst_38 : decode cX3_takeFirst 38 = .ok (.iload_n 1, 1) := by decide +kernel
theorem dX3_takeFirst_39 : decode cX3_takeFirst 39 = .ok (.ireturn, 1) := by decide +kernel
theorem dX3_drop_0 : decode cX3_drop 0 = .ok (.aload_n 0, 1) := by decide +kernel
theorem dX3_drop_1 : decode cX3_drop 1 = .ok (.getfield 15, 3) := by decide +kernel
theorem dX3_drop_4 : decode cX3_drop 4 = .ok (.istore_n 2, 1) := by decide +kernel
theorem dX3_drop_5 : decode cX3_drop 5 = .ok (.iconst 0, 1) := by decide +kernel
theorem dX3_drop_6 : decode cX3_drop 6 = .ok (.istore_n 3, 1) := by decide +kernel
theorem dX3_drop_7 : decode cX3_drop 7 = .ok (.iload_n 3, 1) := by decide +kernel
theorem dX3_drop_8 : decode cX3_drop 8 = .ok (.iload_n 2, 1) := by decide +kernel
theorem dX3_drop_9 : decode cX3_drop 9 = .ok (.if_icmp .ge 27, 3) := by decide +kernel
theorem dX3_drop_12 : decode cX3_drop 12 = .ok (.aload_n 0, 1) := by decide +kernel
theorem dX3_drop_13 : decode cX3_drop 13 = .ok (.invokevirtual 26, 3) := by decide +kernel
theorem dX3_drop_16 : decode cX3_drop 16 = .ok (.istore 4, 2) := by decide +kernel
theorem dX3_drop_18 : decode cX3_drop 18 = .ok (.iload 4, 2) := by decide +kernel
theorem dX3_drop_20 : decode cX3_drop 20 = .ok (.iload_n 1, 1) := by decide +kernel
theorem dX3_drop_21 : decode cX3_drop 21 = .ok (.if_icmp .eq 9, 3) := by decide +kernel
theorem dX3_drop_24 : decode cX3_drop 24 = .ok (.aload_n 0, 1) := by decide +kernel
theorem dX3_drop_25 : decode cX3_drop 25 = .ok (.iload 4, 2) := by decide +kernel
theorem dX3_drop_27 : decode cX3_drop 27 = .ok (.invokevirtual 30, 3) := by decide +kernel
theorem dX3_drop_30 : decode cX3_drop 30 = .ok (.iinc 3 1, 3) := by decide +kernel
theorem dX3_drop_33 : decode cX3_drop 33 = .ok (.goto (-26), 3) := by decide +kernel
theorem dX3_drop_36 : decode cX3_drop 36 = .ok (.return_, 1) := by decide +kernel
theorem dX3_slot_0 : decode cX3_slot 0 = .ok (.aload_n 0, 1) := by decide +kernel
theorem dX3_slot_1 : decode cX3_slot 1 = .ok (.getfield 23, 3) := by decide +kernel
theorem dX3_slot_4 : decode cX3_slot 4 = .ok (.iload_n 1, 1) := by decide +kernel
theorem dX3_slot_5 : decode cX3_slot 5 = .ok (.iadd, 1) := by decide +kernel
theorem dX3_slot_6 : decode cX3_slot 6 = .ok (.istore_n 2, 1) := by decide +kernel
theorem dX3_slot_7 : decode cX3_slot 7 = .ok (.iload_n 2, 1) := by decide +kernel
theorem dX3_slot_8 : decode cX3_slot 8 = .ok (.aload_n 0, 1) := by decide +kernel
theorem dX3_slot_9 : decode cX3_slot 9 = .ok (.getfield 9, 3) := by decide +kernel
theorem dX3_slot_12 : decode cX3_slot 12 = .ok (.arraylength, 1) := by decide +kernel
theorem dX3_slot_13 : decode cX3_slot 13 = .ok (.if_icmp .ge 7, 3) := by decide +kernel
theorem dX3_slot_16 : decode cX3_slot 16 = .ok (.iload_n 2, 1) := by decide +kernel
theorem dX3_slot_17 : decode cX3_slot 17 = .ok (.goto 10, 3) := by decide +kernel
theorem dX3_slot_20 : decode cX3_slot 20 = .ok (.iload_n 2, 1) := by decide +kernel
theorem dX3_slot_21 : decode cX3_slot 21 = .ok (.aload_n 0, 1) := by decide +kernel
theorem dX3_slot_22 : decode cX3_slot 22 = .ok (.getfield 9, 3) := by decide +kernel
theorem dX3_slot_25 : decode cX3_slot 25 = .ok (.arraylength, 1) := by decide +kernel
theorem dX3_slot_26 : decode cX3_slot 26 = .ok (.isub, 1) := by decide +kernel
theorem dX3_slot_27 : decode cX3_slot 27 = .ok (.ireturn, 1) := by decide +kernel
theorem dX4_init_0 : decode cX4_init 0 = .ok (.aload_n 0, 1) := by decide +kernel
theorem dX4_init_1 : decode cX4_init 1 = .ok (.invokespecial 3, 3) := by decide +kernel
theorem dX4_init_4 : decode cX4_init 4 = .ok (.aload_n 0, 1) := by decide +kernel
theorem dX4_init_5 : decode cX4_init 5 = .ok (.aload_n 1, 1) := by decide +kernel
theorem dX4_init_6 : decode cX4_init 6 = .ok (.putfield 9, 3) := by decide +kernel
theorem dX4_init_9 : decode cX4_init 9 = .ok (.return_, 1) := by decide +kernel
theorem dX4_significant_0 : decode cX4_significant 0 = .ok (.iload_n 2, 1) := by decide +kernel
theorem dX4_significant_1 : decode cX4_significant 1 = .ok (.istore_n 3, 1) := by decide +kernel
theorem dX4_significant_2 : decode cX4_significant 2 = .ok (.iload_n 3, 1) := by decide +kernel
theorem dX4_significant_3 : decode cX4_significant 3 = .ok (.ifCond .le 24, 3) := by decide +kernel
theorem dX4_significant_6 : decode cX4_significant 6 = .ok (.aload_n 0, 1) := by decide +kernel
theorem dX4_significant_7 : decode cX4_significant 7 = .ok (.getfield 9, 3) := by decide +kernel
theorem dX4_significant_10 : decode cX4_significant 10 = .ok (.iload_n 1, 1) := by decide +kernel
theorem dX4_significant_11 : decode cX4_significant 11 = .ok (.iload_n 3, 1) := by decide +kernel
theorem dX4_significant_12 : decode cX4_significant 12 = .ok (.iadd, 1) := by decide +kernel
theorem dX4_significant_13 : decode cX4_significant 13 = .ok (.iconst 1, 1) := by decide +kernel
theorem dX4_significant_14 : decode cX4_significant 14 = .ok (.isub, 1) := by decide +kernel
theorem dX4_significant_15 : decode cX4_significant 15 = .ok (.iaload, 1) := by decide +kernel
theorem dX4_significant_16 : decode cX4_significant 16 = .ok (.ifCond .eq 5, 3) := by decide +kernel
theorem dX4_significant_19 : decode cX4_significant 19 = .ok (.iload_n 3, 1) := by decide +kernel
theorem dX4_significant_20 : decode cX4_significant 20 = .ok (.ireturn, 1) := by decide +kernel
theorem dX4_significant_21 : decode cX4_significant 21 = .ok (.iinc 3 (-1), 3) := by decide +kernel
theorem dX4_significant_24 : decode cX4_significant 24 = .ok (.goto (-22), 3) := by decide +kernel
theorem dX4_significant_27 : decode cX4_significant 27 = .ok (.iconst 0, 1) := by decide +kernel
theorem dX4_significant_28 : decode cX4_significant 28 = .ok (.ireturn, 1) := by decide +kernel
theorem dX4_addProduct_0 : decode cX4_addProduct 0 = .ok (.iconst 0, 1) := by decide +kernel
theorem dX4_addProduct_1 : decode cX4_addProduct 1 = .ok (.istore 6, 2) := by decide +kernel
theorem dX4_addProduct_3 : decode cX4_addProduct 3 = .ok (.iload 6, 2) := by decide +kernel
theorem dX4_addProduct_5 : decode cX4_addProduct 5 = .ok (.iload_n 3, 1) := by decide +kernel
theorem dX4_addProduct_6 : decode cX4_addProduct 6 = .ok (.if_icmp .ge 114, 3) := by decide +kernel
theorem dX4_addProduct_9 : decode cX4_addProduct 9 = .ok (.aload_n 0, 1) := by decide +kernel
theorem dX4_addProduct_10 : decode cX4_addProduct 10 = .ok (.getfield 9, 3) := by decide +kernel
theorem dX4_addProduct_13 : decode cX4_addProduct 13 = .ok (.iload_n 2, 1) := by decide +kernel
theorem dX4_addProduct_14 : decode cX4_addProduct 14 = .ok (.iload 6, 2) := by decide +kernel
theorem dX4_addProduct_16 : decode cX4_addProduct 16 = .ok (.iadd, 1) := by decide +kernel
theorem dX4_addProduct_17 : decode cX4_addProduct 17 = .ok (.iaload, 1) := by decide +kernel
theorem dX4_addProduct_18 : decode cX4_addProduct 18 = .ok (.i2l, 1) := by decide +kernel
theorem dX4_addProduct_19 : decode cX4_addProduct 19 = .ok (.lstore 7, 2) := by decide +kernel
theorem dX4_addProduct_21 : decode cX4_addProduct 21 = .ok (.iload_n 1, 1) := by decide +kernel
theorem dX4_addProduct_22 : decode cX4_addProduct 22 = .ok (.iload 6, 2) := by decide +kernel
theorem dX4_addProduct_24 : decode cX4_addProduct 24 = .ok (.iadd, 1) := by decide +kernel
theorem dX4_addProduct_25 : decode cX4_addProduct 25 = .ok (.istore 9, 2) := by decide +kernel
theorem dX4_addProduct_27 : decode cX4_addProduct 27 = .ok (.lconst 0, 1) := by decide +kernel
theorem dX4_addProduct_28 : decode cX4_addProduct 28 = .ok (.lstore 10, 2) := by decide +kernel
theorem dX4_addProduct_30 : decode cX4_addProduct 30 = .ok (.iconst 0, 1) := by decide +kernel
theorem dX4_addProduct_31 : decode cX4_addProduct 31 = .ok (.istore 12, 2) := by decide +kernel
theorem dX4_addProduct_33 : decode cX4_addProduct 33 = .ok (.iload 12, 2) := by decide +kernel
theorem dX4_addProduct_35 : decode cX4_addProduct 35 = .ok (.iload 5, 2) := by decide +kernel
theorem dX4_addProduct_37 : decode cX4_addProduct 37 = .ok (.if_icmp .ge 64, 3) := by decide +kernel
theorem dX4_addProduct_40 : decode cX4_addProduct 40 = .ok (.aload_n 0, 1) := by decide +kernel
theorem dX4_addProduct_41 : decode cX4_addProduct 41 = .ok (.getfield 9, 3) := by decide +kernel
theorem dX4_addProduct_44 : decode cX4_addProduct 44 = .ok (.iload 9, 2) := by decide +kernel
theorem dX4_addProduct_46 : decode cX4_addProduct 46 = .ok (.iload 12, 2) := by decide +kernel
theorem dX4_addProduct_48 : decode cX4_addProduct 48 = .ok (.iadd, 1) := by decide +kernel
theorem dX4_addProduct_49 : decode cX4_addProduct 49 = .ok (.iaload, 1) := by decide +kernel
theorem dX4_addProduct_50 : decode cX4_addProduct 50 = .ok (.i2l, 1) := by decide +kernel
theorem dX4_addProduct_51 : decode cX4_addProduct 51 = .ok (.lload 7, 2) := by decide +kernel
theorem dX4_addProduct_53 : decode cX4_addProduct 53 = .ok (.aload_n 0, 1) := by decide +kernel
theorem dX4_addProduct_54 : decode cX4_addProduct 54 = .ok (.getfield 9, 3) := by decide +kernel
theorem dX4_addProduct_57 : decode cX4_addProduct 57 = .ok (.iload 4, 2) := by decide +kernel
theorem dX4_addProduct_59 : decode cX4_addProduct 59 = .ok (.iload 12, 2) := by decide +kernel
theorem dX4_addProduct_61 : decode cX4_addProduct 61 = .ok (.iadd, 1) := by decide +kernel
theorem dX4_addProduct_62 : decode cX4_addProduct 62 = .ok (.iaload, 1) := by decide +kernel
theorem dX4_addProduct_63 : decode cX4_addProduct 63 = .ok (.i2l, 1) := by decide +kernel
theorem dX4_addProduct_64 : decode cX4_addProduct 64 = .ok (.lmul, 1) := by decide +kernel
theorem dX4_addProduct_65 : decode cX4_addProduct 65 = .ok (.ladd, 1) := by decide +kernel
theorem dX4_addProduct_66 : decode cX4_addProduct 66 = .ok (.lload 10, 2) := by decide +kernel
theorem dX4_addProduct_68 : decode cX4_addProduct 68 = .ok (.ladd, 1) := by decide +kernel
theorem dX4_addProduct_69 : decode cX4_addProduct 69 = .ok (.lstore 13, 2) := by decide +kernel
theorem dX4_addProduct_71 : decode cX4_addProduct 71 = .ok (.aload_n 0, 1) := by decide +kernel
theorem dX4_addProduct_72 : decode cX4_addProduct 72 = .ok (.getfield 9, 3) := by decide +kernel
theorem dX4_addProduct_75 : decode cX4_addProduct 75 = .ok (.iload 9, 2) := by decide +kernel
theorem dX4_addProduct_77 : decode cX4_addProduct 77 = .ok (.iload 12, 2) := by decide +kernel
theorem dX4_addProduct_79 : decode cX4_addProduct 79 = .ok (.iadd, 1) := by decide +kernel
theorem dX4_addProduct_80 : decode cX4_addProduct 80 = .ok (.lload 13, 2) := by decide +kernel
theorem dX4_addProduct_82 : decode cX4_addProduct 82 = .ok (.ldc2_w 15, 3) := by decide +kernel
theorem dX4_addProduct_85 : decode cX4_addProduct 85 = .ok (.land, 1) := by decide +kernel
theorem dX4_addProduct_86 : decode cX4_addProduct 86 = .ok (.l2i, 1) := by decide +kernel
theorem dX4_addProduct_87 : decode cX4_addProduct 87 = .ok (.iastore, 1) := by decide +kernel
theorem dX4_addProduct_88 : decode cX4_addProduct 88 = .ok (.lload 13, 2) := by decide +kernel
theorem dX4_addProduct_90 : decode cX4_addProduct 90 = .ok (.bipush 31, 2) := by decide +kernel
theorem dX4_addProduct_92 : decode cX4_addProduct 92 = .ok (.lshr, 1) := by decide +kernel
theorem dX4_addProduct_93 : decode cX4_addProduct 93 = .ok (.lstore 10, 2) := by decide +kernel
theorem dX4_addProduct_95 : decode cX4_addProduct 95 = .ok (.iinc 12 1, 3) := by decide +kernel
theorem dX4_addProduct_98 : decode cX4_addProduct 98 = .ok (.goto (-65), 3) := by decide +kernel
theorem dX4_addProduct_101 : decode cX4_addProduct 101 = .ok (.aload_n 0, 1) := by decide +kernel
theorem dX4_addProduct_102 : decode cX4_addProduct 102 = .ok (.getfield 9, 3) := by decide +kernel
theorem dX4_addProduct_105 : decode cX4_addProduct 105 = .ok (.iload 9, 2) := by decide +kernel
theorem dX4_addProduct_107 : decode cX4_addProduct 107 = .ok (.iload 5, 2) := by decide +kernel
theorem dX4_addProduct_109 : decode cX4_addProduct 109 = .ok (.iadd, 1) := by decide +kernel
theorem dX4_addProduct_110 : decode cX4_addProduct 110 = .ok (.lload 10, 2) := by decide +kernel
theorem dX4_addProduct_112 : decode cX4_addProduct 112 = .ok (.l2i, 1) := by decide +kernel
theorem dX4_addProduct_113 : decode cX4_addProduct 113 = .ok (.iastore, 1) := by decide +kernel
theorem dX4_addProduct_114 : decode cX4_addProduct 114 = .ok (.iinc 6 1, 3) := by decide +kernel
theorem dX4_addProduct_117 : decode cX4_addProduct 117 = .ok (.goto (-114), 3) := by decide +kernel
theorem dX4_addProduct_120 : decode cX4_addProduct 120 = .ok (.return_, 1) := by decide +kernel
theorem dX4_quotient_0 : decode cX4_quotient 0 = .ok (.aload_n 0, 1) := by decide +kernel
theorem dX4_quotient_1 : decode cX4_quotient 1 = .ok (.aload_n 2, 1) := by decide +kernel
theorem dX4_quotient_2 : decode cX4_quotient 2 = .ok (.getfield 17, 3) := by decide +kernel
theorem dX4_quotient_5 : decode cX4_quotient 5 = .ok (.aload_n 2, 1) := by decide +kernel
theorem dX4_quotient_6 : decode cX4_quotient 6 = .ok (.getfield 23, 3) := by decide +kernel
theorem dX4_quotient_9 : decode cX4_quotient 9 = .ok (.invokevirtual 26, 3) := by decide +kernel
theorem dX4_quotient_12 : decode cX4_quotient 12 = .ok (.ifCond .eq 24, 3) := by decide +kernel
theorem dX4_quotient_15 : decode cX4_quotient 15 = .ok (.aload_n 0, 1) := by decide +kernel
theorem dX4_quotient_16 : decode cX4_quotient 16 = .ok (.aload_n 1, 1) := by decide +kernel
theorem dX4_quotient_17 : decode cX4_quotient 17 = .ok (.iload 4, 2) := by decide +kernel
theorem dX4_quotient_19 : decode cX4_quotient 19 = .ok (.invokevirtual 30, 3) := by decide +kernel
theorem dX4_quotient_22 : decode cX4_quotient 22 = .ok (.aload_n 0, 1) := by decide +kernel
theorem dX4_quotient_23 : decode cX4_quotient 23 = .ok (.iload 4, 2) := by decide +kernel
theorem dX4_quotient_25 : decode cX4_quotient 25 = .ok (.aload_n 1, 1) := by decide +kernel
theorem dX4_quotient_26 : decode cX4_quotient 26 = .ok (.getfield 23, 3) := by decide +kernel
theorem dX4_quotient_29 : decode cX4_quotient 29 = .ok (.aload_n 3, 1) := by decide +kernel
theorem dX4_quotient_30 : decode cX4_quotient 30 = .ok (.getfield 17, 3) := by decide +kernel
theorem dX4_quotient_33 : decode cX4_quotient 33 = .ok (.invokevirtual 34, 3) := by decide +kernel
theorem dX4_quotient_36 : decode cX4_quotient 36 = .ok (.return_, 1) := by decide +kernel
theorem dX4_greatestDivisor_0 : decode cX4_greatestDivisor 0 = .ok (.iload 4, 2) := by decide +kernel
theorem dX4_greatestDivisor_2 : decode cX4_greatestDivisor 2 = .ok (.istore 5, 2) := by decide +kernel
theorem dX4_greatestDivisor_4 : decode cX4_greatestDivisor 4 = .ok (.aload_n 1, 1) := by decide +kernel
theorem dX4_greatestDivisor_5 : decode cX4_greatestDivisor 5 = .ok (.getfield 23, 3) := by decide +kernel
theorem dX4_greatestDivisor_8 : decode cX4_greatestDivisor 8 = .ok (.istore 6, 2) := by decide +kernel
theorem dX4_greatestDivisor_10 : decode cX4_greatestDivisor 10 = .ok (.iload 4, 2) := by decide +kernel
theorem dX4_greatestDivisor_12 : decode cX4_greatestDivisor 12 = .ok (.aload_n 1, 1) := by decide +kernel
theorem dX4_greatestDivisor_13 : decode cX4_greatestDivisor 13 = .ok (.getfield 23, 3) := by decide +kernel
theorem dX4_greatestDivisor_16 : decode cX4_greatestDivisor 16 = .ok (.iadd, 1) := by decide +kernel
theorem dX4_greatestDivisor_17 : decode cX4_greatestDivisor 17 = .ok (.iconst 1, 1) := by decide +kernel
theorem dX4_greatestDivisor_18 : decode cX4_greatestDivisor 18 = .ok (.iadd, 1) := by decide +kernel
theorem dX4_greatestDivisor_19 : decode cX4_greatestDivisor 19 = .ok (.istore 7, 2) := by decide +kernel
theorem dX4_greatestDivisor_21 : decode cX4_greatestDivisor 21 = .ok (.aload_n 2, 1) := by decide +kernel
theorem dX4_greatestDivisor_22 : decode cX4_greatestDivisor 22 = .ok (.getfield 23, 3) := by decide +kernel
theorem dX4_greatestDivisor_25 : decode cX4_greatestDivisor 25 = .ok (.istore 8, 2) := by decide +kernel
theorem dX4_greatestDivisor_27 : decode cX4_greatestDivisor 27 = .ok (.aload_n 0, 1) := by decide +kernel
theorem dX4_greatestDivisor_28 : decode cX4_greatestDivisor 28 = .ok (.aload_n 1, 1) := by decide +kernel
theorem dX4_greatestDivisor_29 : decode cX4_greatestDivisor 29 = .ok (.iload 5, 2) := by decide +kernel
theorem dX4_greatestDivisor_31 : decode cX4_greatestDivisor 31 = .ok (.invokevirtual 30, 3) := by decide +kernel
theorem dX4_greatestDivisor_34 : decode cX4_greatestDivisor 34 = .ok (.aload_n 0, 1) := by decide +kernel
theorem dX4_greatestDivisor_35 : decode cX4_greatestDivisor 35 = .ok (.aload_n 2, 1) := by decide +kernel
theorem dX4_greatestDivisor_36 : decode cX4_greatestDivisor 36 = .ok (.iload 7, 2) := by decide +kernel
theorem dX4_greatestDivisor_38 : decode cX4_greatestDivisor 38 = .ok (.invokevirtual 30, 3) := by decide +kernel
theorem dX4_greatestDivisor_41 : decode cX4_greatestDivisor 41 = .ok (.bipush 62, 2) := by decide +kernel
theorem dX4_greatestDivisor_43 : decode cX4_greatestDivisor 43 = .ok (.aload_n 1, 1) := by decide +kernel
theorem dX4_greatestDivisor_44 : decode cX4_greatestDivisor 44 = .ok (.getfield 23, 3) := by decide +kernel
theorem dX4_greatestDivisor_47 : decode cX4_greatestDivisor 47 = .ok (.aload_n 2, 1) := by decide +kernel
theorem dX4_greatestDivisor_48 : decode cX4_greatestDivisor 48 = .ok (.getfield 23, 3) := by decide +kernel
theorem dX4_greatestDivisor_51 : decode cX4_greatestDivisor 51 = .ok (.iadd, 1) := by decide +kernel
theorem dX4_greatestDivisor_52 : decode cX4_greatestDivisor 52 = .ok (.imul, 1) := by decide +kernel
theorem dX4_greatestDivisor_53 : decode cX4_greatestDivisor 53 = .ok (.iconst 2, 1) := by decide +kernel
theorem dX4_greatestDivisor_54 : decode cX4_greatestDivisor 54 = .ok (.iadd, 1) := by decide +kernel
theorem dX4_greatestDivisor_55 : decode cX4_greatestDivisor 55 = .ok (.istore 9, 2) := by decide +kernel
theorem dX4_greatestDivisor_57 : decode cX4_greatestDivisor 57 = .ok (.iconst 0, 1) := by decide +kernel
theorem dX4_greatestDivisor_58 : decode cX4_greatestDivisor 58 = .ok (.istore 10, 2) := by decide +kernel
theorem dX4_greatestDivisor_60 : decode cX4_greatestDivisor 60 = .ok (.iload 10, 2) := by decide +kernel
theorem dX4_greatestDivisor_62 : decode cX4_greatestDivisor 62 = .ok (.iload 9, 2) := by decide +kernel
theorem dX4_greatestDivisor_64 : decode cX4_greatestDivisor 64 = .ok (.if_icmp .ge 62, 3) := by decide +kernel
theorem dX4_greatestDivisor_67 : decode cX4_greatestDivisor 67 = .ok (.aload_n 0, 1) := by decide +kernel
theorem dX4_greatestDivisor_68 : decode cX4_greatestDivisor 68 = .ok (.iload 7, 2) := by decide +kernel
theorem dX4_greatestDivisor_70 : decode cX4_greatestDivisor 70 = .ok (.iload 8, 2) := by decide +kernel
theorem dX4_greatestDivisor_72 : decode cX4_greatestDivisor 72 = .ok (.invokevirtual 26, 3) := by decide +kernel
theorem dX4_greatestDivisor_75 : decode cX4_greatestDivisor 75 = .ok (.ifCond .eq 51, 3) := by decide +kernel
theorem dX4_greatestDivisor_78 : decode cX4_greatestDivisor 78 = .ok (.aload_n 0, 1) := by decide +kernel
theorem dX4_greatestDivisor_79 : decode cX4_greatestDivisor 79 = .ok (.iload 5, 2) := by decide +kernel
theorem dX4_greatestDivisor_81 : decode cX4_greatestDivisor 81 = .ok (.iload 6, 2) := by decide +kernel
theorem dX4_greatestDivisor_83 : decode cX4_greatestDivisor 83 = .ok (.iconst (-1), 1) := by decide +kernel
theorem dX4_greatestDivisor_84 : decode cX4_greatestDivisor 84 = .ok (.invokevirtual 34, 3) := by decide +kernel
theorem dX4_greatestDivisor_87 : decode cX4_greatestDivisor 87 = .ok (.iload 5, 2) := by decide +kernel
theorem dX4_greatestDivisor_89 : decode cX4_greatestDivisor 89 = .ok (.istore 11, 2) := by decide +kernel
theorem dX4_greatestDivisor_91 : decode cX4_greatestDivisor 91 = .ok (.iload 6, 2) := by decide +kernel
theorem dX4_greatestDivisor_93 : decode cX4_greatestDivisor 93 = .ok (.aload_n 0, 1) := by decide +kernel
theorem dX4_greatestDivisor_94 : decode cX4_greatestDivisor 94 = .ok (.getfield 38, 3) := by decide +kernel
theorem dX4_greatestDivisor_97 : decode cX4_greatestDivisor 97 = .ok (.invokestatic 41, 3) := by decide +kernel
theorem dX4_greatestDivisor_100 : decode cX4_greatestDivisor 100 = .ok (.istore 12, 2) := by decide +kernel
theorem dX4_greatestDivisor_102 : decode cX4_greatestDivisor 102 = .ok (.iload 7, 2) := by decide +kernel
theorem dX4_greatestDivisor_104 : decode cX4_greatestDivisor 104 = .ok (.istore 5, 2) := by decide +kernel
theorem dX4_greatestDivisor_106 : decode cX4_greatestDivisor 106 = .ok (.aload_n 0, 1) := by decide +kernel
theorem dX4_greatestDivisor_107 : decode cX4_greatestDivisor 107 = .ok (.getfield 38, 3) := by decide +kernel
theorem dX4_greatestDivisor_110 : decode cX4_greatestDivisor 110 = .ok (.istore 6, 2) := by decide +kernel
theorem dX4_greatestDivisor_112 : decode cX4_greatestDivisor 112 = .ok (.iload 11, 2) := by decide +kernel
theorem dX4_greatestDivisor_114 : decode cX4_greatestDivisor 114 = .ok (.istore 7, 2) := by decide +kernel
theorem dX4_greatestDivisor_116 : decode cX4_greatestDivisor 116 = .ok (.iload 12, 2) := by decide +kernel
theorem dX4_greatestDivisor_118 : decode cX4_greatestDivisor 118 = .ok (.istore 8, 2) := by decide +kernel
theorem dX4_greatestDivisor_120 : decode cX4_greatestDivisor 120 = .ok (.iinc 10 1, 3) := by decide +kernel
theorem dX4_greatestDivisor_123 : decode cX4_greatestDivisor 123 = .ok (.goto (-63), 3) := by decide +kernel
theorem dX4_greatestDivisor_126 : decode cX4_greatestDivisor 126 = .ok (.aload_n 0, 1) := by decide +kernel
theorem dX4_greatestDivisor_127 : decode cX4_greatestDivisor 127 = .ok (.getfield 9, 3) := by decide +kernel
theorem dX4_greatestDivisor_130 : decode cX4_greatestDivisor 130 = .ok (.iload 5, 2) := by decide +kernel
theorem dX4_greatestDivisor_132 : decode cX4_greatestDivisor 132 = .ok (.aload_n 0, 1) := by decide +kernel
theorem dX4_greatestDivisor_133 : decode cX4_greatestDivisor 133 = .ok (.getfield 9, 3) := by decide +kernel
theorem dX4_greatestDivisor_136 : decode cX4_greatestDivisor 136 = .ok (.aload_n 3, 1) := by decide +kernel
theorem dX4_greatestDivisor_137 : decode cX4_greatestDivisor 137 = .ok (.getfield 17, 3) := by decide +kernel
theorem dX4_greatestDivisor_140 : decode cX4_greatestDivisor 140 = .ok (.iload 6, 2) := by decide +kernel
theorem dX4_greatestDivisor_142 : decode cX4_greatestDivisor 142 = .ok (.invokestatic 47, 3) := by decide +kernel
theorem dX4_greatestDivisor_145 : decode cX4_greatestDivisor 145 = .ok (.return_, 1) := by decide +kernel
theorem dX4_powerModulo_0 : decode cX4_powerModulo 0 = .ok (.aload_n 0, 1) := by decide +kernel
theorem dX4_powerModulo_1 : decode cX4_powerModulo 1 = .ok (.aload_n 3, 1) := by decide +kernel
theorem dX4_powerModulo_2 : decode cX4_powerModulo 2 = .ok (.getfield 17, 3) := by decide +kernel
theorem dX4_powerModulo_5 : decode cX4_powerModulo 5 = .ok (.aload_n 3, 1) := by decide +kernel
theorem dX4_powerModulo_6 : decode cX4_powerModulo 6 = .ok (.getfield 23, 3) := by decide +kernel
theorem dX4_powerModulo_9 : decode cX4_powerModulo 9 = .ok (.invokevirtual 26, 3) := by decide +kernel
theorem dX4_powerModulo_12 : decode cX4_powerModulo 12 = .ok (.ifCond .eq 18, 3) := by decide +kernel
theorem dX4_powerModulo_15 : decode cX4_powerModulo 15 = .ok (.aload_n 0, 1) := by decide +kernel
theorem dX4_powerModulo_16 : decode cX4_powerModulo 16 = .ok (.aload_n 0, 1) := by decide +kernel
theorem dX4_powerModulo_17 : decode cX4_powerModulo 17 = .ok (.getfield 53, 3) := by decide +kernel
theorem dX4_powerModulo_20 : decode cX4_powerModulo 20 = .ok (.aload_n 0, 1) := by decide +kernel
theorem dX4_powerModulo_21 : decode cX4_powerModulo 21 = .ok (.getfield 38, 3) := by decide +kernel
theorem dX4_powerModulo_24 : decode cX4_powerModulo 24 = .ok (.invokevirtual 56, 3) := by decide +kernel
theorem dX4_powerModulo_27 : decode cX4_powerModulo 27 = .ok (.ifCond .eq 4, 3) := by decide +kernel
theorem dX4_powerModulo_30 : decode cX4_powerModulo 30 = .ok (.return_, 1) := by decide +kernel
theorem dX4_powerModulo_31 : decode cX4_powerModulo 31 = .ok (.iload 5, 2) := by decide +kernel
theorem dX4_powerModulo_33 : decode cX4_powerModulo 33 = .ok (.istore 6, 2) := by decide +kernel
theorem dX4_powerModulo_35 : decode cX4_powerModulo 35 = .ok (.iload 5, 2) := by decide +kernel
theorem dX4_powerModulo_37 : decode cX4_powerModulo 37 = .ok (.aload_n 0, 1) := by decide +kernel
theorem dX4_powerModulo_38 : decode cX4_powerModulo 38 = .ok (.getfield 38, 3) := by decide +kernel
theorem dX4_powerModulo_41 : decode cX4_powerModulo 41 = .ok (.iadd, 1) := by decide +kernel
theorem dX4_powerModulo_42 : decode cX4_powerModulo 42 = .ok (.istore 7, 2) := by decide +kernel
theorem dX4_powerModulo_44 : decode cX4_powerModulo 44 = .ok (.aload_n 0, 1) := by decide +kernel
theorem dX4_powerModulo_45 : decode cX4_powerModulo 45 = .ok (.aload_n 1, 1) := by decide +kernel
theorem dX4_powerModulo_46 : decode cX4_powerModulo 46 = .ok (.iload 6, 2) := by decide +kernel
theorem dX4_powerModulo_48 : decode cX4_powerModulo 48 = .ok (.iload 7, 2) := by decide +kernel
theorem dX4_powerModulo_50 : decode cX4_powerModulo 50 = .ok (.invokevirtual 59, 3) := by decide +kernel
theorem dX4_powerModulo_53 : decode cX4_powerModulo 53 = .ok (.aload 4, 2) := by decide +kernel
theorem dX4_powerModulo_55 : decode cX4_powerModulo 55 = .ok (.getfield 17, 3) := by decide +kernel
theorem dX4_powerModulo_58 : decode cX4_powerModulo 58 = .ok (.istore 8, 2) := by decide +kernel
theorem dX4_powerModulo_60 : decode cX4_powerModulo 60 = .ok (.aload_n 0, 1) := by decide +kernel
theorem dX4_powerModulo_61 : decode cX4_powerModulo 61 = .ok (.getfield 9, 3) := by decide +kernel
theorem dX4_powerModulo_64 : decode cX4_powerModulo 64 = .ok (.iload 8, 2) := by decide +kernel
theorem dX4_powerModulo_66 : decode cX4_powerModulo 66 = .ok (.iconst 1, 1) := by decide +kernel
theorem dX4_powerModulo_67 : decode cX4_powerModulo 67 = .ok (.iastore, 1) := by decide +kernel
theorem dX4_powerModulo_68 : decode cX4_powerModulo 68 = .ok (.iconst 0, 1) := by decide +kernel
theorem dX4_powerModulo_69 : decode cX4_powerModulo 69 = .ok (.istore 9, 2) := by decide +kernel
theorem dX4_powerModulo_71 : decode cX4_powerModulo 71 = .ok (.bipush 31, 2) := by decide +kernel
theorem dX4_powerModulo_73 : decode cX4_powerModulo 73 = .ok (.aload_n 2, 1) := by decide +kernel
theorem dX4_powerModulo_74 : decode cX4_powerModulo 74 = .ok (.getfield 23, 3) := by decide +kernel
theorem dX4_powerModulo_77 : decode cX4_powerModulo 77 = .ok (.imul, 1) := by decide +kernel
theorem dX4_powerModulo_78 : decode cX4_powerModulo 78 = .ok (.iconst 1, 1) := by decide +kernel
theorem dX4_powerModulo_79 : decode cX4_powerModulo 79 = .ok (.isub, 1) := by decide +kernel
theorem dX4_powerModulo_80 : decode cX4_powerModulo 80 = .ok (.istore 10, 2) := by decide +kernel
theorem dX4_powerModulo_82 : decode cX4_powerModulo 82 = .ok (.iload 10, 2) := by decide +kernel
theorem dX4_powerModulo_84 : decode cX4_powerModulo 84 = .ok (.ifCond .lt 50, 3) := by decide +kernel
theorem dX4_powerModulo_87 : decode cX4_powerModulo 87 = .ok (.iload 9, 2) := by decide +kernel
theorem dX4_powerModulo_89 : decode cX4_powerModulo 89 = .ok (.ifCond .eq 13, 3) := by decide +kernel
theorem dX4_powerModulo_92 : decode cX4_powerModulo 92 = .ok (.aload_n 0, 1) := by decide +kernel
theorem dX4_powerModulo_93 : decode cX4_powerModulo 93 = .ok (.iload 8, 2) := by decide +kernel
theorem dX4_powerModulo_95 : decode cX4_powerModulo 95 = .ok (.iload 8, 2) := by decide +kernel
theorem dX4_powerModulo_97 : decode cX4_powerModulo 97 = .ok (.iload 7, 2) := by decide +kernel
theorem dX4_powerModulo_99 : decode cX4_powerModulo 99 = .ok (.invokevirtual 63, 3) := by decide +kernel
theorem dX4_powerModulo_102 : decode cX4_powerModulo 102 = .ok (.aload_n 0, 1) := by decide +kernel
theorem dX4_powerModulo_103 : decode cX4_powerModulo 103 = .ok (.aload_n 2, 1) := by decide +kernel
theorem dX4_powerModulo_104 : decode cX4_powerModulo 104 = .ok (.getfield 17, 3) := by decide +kernel
theorem dX4_powerModulo_107 : decode cX4_powerModulo 107 = .ok (.iload 10, 2) := by decide +kernel
theorem dX4_powerModulo_109 : decode cX4_powerModulo 109 = .ok (.invokevirtual 66, 3) := by decide +kernel
theorem dX4_powerModulo_112 : decode cX4_powerModulo 112 = .ok (.ifCond .eq 16, 3) := by decide +kernel
theorem dX4_powerModulo_115 : decode cX4_powerModulo 115 = .ok (.aload_n 0, 1) := by decide +kernel
theorem dX4_powerModulo_116 : decode cX4_powerModulo 116 = .ok (.iload 8, 2) := by decide +kernel
theorem dX4_powerModulo_118 : decode cX4_powerModulo 118 = .ok (.iload 6, 2) := by decide +kernel
theorem dX4_powerModulo_120 : decode cX4_powerModulo 120 = .ok (.iload 7, 2) := by decide +kernel
theorem dX4_powerModulo_122 : decode cX4_powerModulo 122 = .ok (.invokevirtual 63, 3) := by decide +kernel
theorem dX4_powerModulo_125 : decode cX4_powerModulo 125 = .ok (.iconst 1, 1) := by decide +kernel
theorem dX4_powerModulo_126 : decode cX4_powerModulo 126 = .ok (.istore 9, 2) := by decide +kernel
theorem dX4_powerModulo_128 : decode cX4_powerModulo 128 = .ok (.iinc 10 (-1), 3) := by decide +kernel
theorem dX4_powerModulo_131 : decode cX4_powerModulo 131 = .ok (.goto (-49), 3) := by decide +kernel
theorem dX4_powerModulo_134 : decode cX4_powerModulo 134 = .ok (.return_, 1) := by decide +kernel
theorem dX4_isOne_0 : decode cX4_isOne 0 = .ok (.iload_n 2, 1) := by decide +kernel
theorem dX4_isOne_1 : decode cX4_isOne 1 = .ok (.iconst 1, 1) := by decide +kernel
theorem dX4_isOne_2 : decode cX4_isOne 2 = .ok (.if_icmp .ne 17, 3) := by decide +kernel
theorem dX4_isOne_5 : decode cX4_isOne 5 = .ok (.aload_n 0, 1) := by decide +kernel
theorem dX4_isOne_6 : decode cX4_isOne 6 = .ok (.getfield 9, 3) := by decide +kernel
theorem dX4_isOne_9 : decode cX4_isOne 9 = .ok (.iload_n 1, 1) := by decide +kernel
theorem dX4_isOne_10 : decode cX4_isOne 10 = .ok (.iaload, 1) := by decide +kernel
theorem dX4_isOne_11 : decode cX4_isOne 11 = .ok (.iconst 1, 1) := by decide +kernel
theorem dX4_isOne_12 : decode cX4_isOne 12 = .ok (.if_icmp .ne 7, 3) := by decide +kernel
theorem dX4_isOne_15 : decode cX4_isOne 15 = .ok (.iconst 1, 1) := by decide +kernel
theorem dX4_isOne_16 : decode cX4_isOne 16 = .ok (.goto 4, 3) := by decide +kernel
theorem dX4_isOne_19 : decode cX4_isOne 19 = .ok (.iconst 0, 1) := by decide +kernel
theorem dX4_isOne_20 : decode cX4_isOne 20 = .ok (.ireturn, 1) := by decide +kernel
theorem dX4_hasBit_0 : decode cX4_hasBit 0 = .ok (.aload_n 0, 1) := by decide +kernel
theorem dX4_hasBit_1 : decode cX4_hasBit 1 = .ok (.getfield 9, 3) := by decide +kernel
theorem dX4_hasBit_4 : decode cX4_hasBit 4 = .ok (.iload_n 1, 1) := by decide +kernel
theorem dX4_hasBit_5 : decode cX4_hasBit 5 = .ok (.iload_n 2, 1) := by decide +kernel
theorem dX4_hasBit_6 : decode cX4_hasBit 6 = .ok (.bipush 31, 2) := by decide +kernel
theorem dX4_hasBit_8 : decode cX4_hasBit 8 = .ok (.idiv, 1) := by decide +kernel
theorem dX4_hasBit_9 : decode cX4_hasBit 9 = .ok (.iadd, 1) := by decide +kernel
theorem dX4_hasBit_10 : decode cX4_hasBit 10 = .ok (.iaload, 1) := by decide +kernel
theorem dX4_hasBit_11 : decode cX4_hasBit 11 = .ok (.iload_n 2, 1) := by decide +kernel
theorem dX4_hasBit_12 : decode cX4_hasBit 12 = .ok (.bipush 31, 2) := by decide +kernel
theorem dX4_hasBit_14 : decode cX4_hasBit 14 = .ok (.irem, 1) := by decide +kernel
theorem dX4_hasBit_15 : decode cX4_hasBit 15 = .ok (.ishr, 1) := by decide +kernel
theorem dX4_hasBit_16 : decode cX4_hasBit 16 = .ok (.iconst 1, 1) := by decide +kernel
theorem dX4_hasBit_17 : decode cX4_hasBit 17 = .ok (.iand, 1) := by decide +kernel
theorem dX4_hasBit_18 : decode cX4_hasBit 18 = .ok (.ifCond .eq 7, 3) := by decide +kernel
theorem dX4_hasBit_21 : decode cX4_hasBit 21 = .ok (.iconst 1, 1) := by decide +kernel
theorem dX4_hasBit_22 : decode cX4_hasBit 22 = .ok (.goto 4, 3) := by decide +kernel
theorem dX4_hasBit_25 : decode cX4_hasBit 25 = .ok (.iconst 0, 1) := by decide +kernel
theorem dX4_hasBit_26 : decode cX4_hasBit 26 = .ok (.ireturn, 1) := by decide +kernel
theorem dX4_load_0 : decode cX4_load 0 = .ok (.aload_n 0, 1) := by decide +kernel
theorem dX4_load_1 : decode cX4_load 1 = .ok (.getfield 9, 3) := by decide +kernel
theorem dX4_load_4 : decode cX4_load 4 = .ok (.aload_n 1, 1) := by decide +kernel
theorem dX4_load_5 : decode cX4_load 5 = .ok (.getfield 17, 3) := by decide +kernel
theorem dX4_load_8 : decode cX4_load 8 = .ok (.aload_n 0, 1) := by decide +kernel
theorem dX4_load_9 : decode cX4_load 9 = .ok (.getfield 9, 3) := by decide +kernel
theorem dX4_load_12 : decode cX4_load 12 = .ok (.iload_n 2, 1) := by decide +kernel
theorem dX4_load_13 : decode cX4_load 13 = .ok (.aload_n 1, 1) := by decide +kernel
theorem dX4_load_14 : decode cX4_load 14 = .ok (.getfield 23, 3) := by decide +kernel
theorem dX4_load_17 : decode cX4_load 17 = .ok (.invokestatic 47, 3) := by decide +kernel
theorem dX4_load_20 : decode cX4_load 20 = .ok (.aload_n 0, 1) := by decide +kernel
theorem dX4_load_21 : decode cX4_load 21 = .ok (.getfield 9, 3) := by decide +kernel
theorem dX4_load_24 : decode cX4_load 24 = .ok (.iload_n 2, 1) := by decide +kernel
theorem dX4_load_25 : decode cX4_load 25 = .ok (.aload_n 1, 1) := by decide +kernel
theorem dX4_load_26 : decode cX4_load 26 = .ok (.getfield 23, 3) := by decide +kernel
theorem dX4_load_29 : decode cX4_load 29 = .ok (.iadd, 1) := by decide +kernel
theorem dX4_load_30 : decode cX4_load 30 = .ok (.iconst 0, 1) := by decide +kernel
theorem dX4_load_31 : decode cX4_load 31 = .ok (.iastore, 1) := by decide +kernel
theorem dX4_load_32 : decode cX4_load 32 = .ok (.return_, 1) := by decide +kernel
theorem dX4_reduceToBase_0 : decode cX4_reduceToBase 0 = .ok (.aload_n 0, 1) := by decide +kernel
theorem dX4_reduceToBase_1 : decode cX4_reduceToBase 1 = .ok (.getfield 9, 3) := by decide +kernel
theorem dX4_reduceToBase_4 : decode cX4_reduceToBase 4 = .ok (.iload_n 3, 1) := by decide +kernel
theorem dX4_reduceToBase_5 : decode cX4_reduceToBase 5 = .ok (.iload_n 3, 1) := by decide +kernel
theorem dX4_reduceToBase_6 : decode cX4_reduceToBase 6 = .ok (.aload_n 0, 1) := by decide +kernel
theorem dX4_reduceToBase_7 : decode cX4_reduceToBase 7 = .ok (.getfield 38, 3) := by decide +kernel
theorem dX4_reduceToBase_10 : decode cX4_reduceToBase 10 = .ok (.iadd, 1) := by decide +kernel
theorem dX4_reduceToBase_11 : decode cX4_reduceToBase 11 = .ok (.iconst 1, 1) := by decide +kernel
theorem dX4_reduceToBase_12 : decode cX4_reduceToBase 12 = .ok (.iadd, 1) := by decide +kernel
theorem dX4_reduceToBase_13 : decode cX4_reduceToBase 13 = .ok (.iconst 0, 1) := by decide +kernel
theorem dX4_reduceToBase_14 : decode cX4_reduceToBase 14 = .ok (.invokestatic 69, 3) := by decide +kernel
theorem dX4_reduceToBase_17 : decode cX4_reduceToBase 17 = .ok (.aload_n 1, 1) := by decide +kernel
theorem dX4_reduceToBase_18 : decode cX4_reduceToBase 18 = .ok (.getfield 23, 3) := by decide +kernel
theorem dX4_reduceToBase_21 : decode cX4_reduceToBase 21 = .ok (.iconst 1, 1) := by decide +kernel
theorem dX4_reduceToBase_22 : decode cX4_reduceToBase 22 = .ok (.isub, 1) := by decide +kernel
theorem dX4_reduceToBase_23 : decode cX4_reduceToBase 23 = .ok (.istore 4, 2) := by decide +kernel
theorem dX4_reduceToBase_25 : decode cX4_reduceToBase 25 = .ok (.iload 4, 2) := by decide +kernel
theorem dX4_reduceToBase_27 : decode cX4_reduceToBase 27 = .ok (.ifCond .lt 57, 3) := by decide +kernel
theorem dX4_reduceToBase_30 : decode cX4_reduceToBase 30 = .ok (.aload_n 0, 1) := by decide +kernel
theorem dX4_reduceToBase_31 : decode cX4_reduceToBase 31 = .ok (.getfield 9, 3) := by decide +kernel
theorem dX4_reduceToBase_34 : decode cX4_reduceToBase 34 = .ok (.iload_n 3, 1) := by decide +kernel
theorem dX4_reduceToBase_35 : decode cX4_reduceToBase 35 = .ok (.aload_n 0, 1) := by decide +kernel
theorem dX4_reduceToBase_36 : decode cX4_reduceToBase 36 = .ok (.getfield 9, 3) := by decide +kernel
theorem dX4_reduceToBase_39 : decode cX4_reduceToBase 39 = .ok (.iload_n 3, 1) := by decide +kernel
theorem dX4_reduceToBase_40 : decode cX4_reduceToBase 40 = .ok (.iconst 1, 1) := by decide +kernel
theorem dX4_reduceToBase_41 : decode cX4_reduceToBase 41 = .ok (.iadd, 1) := by decide +kernel
theorem dX4_reduceToBase_42 : decode cX4_reduceToBase 42 = .ok (.aload_n 0, 1) := by decide +kernel
theorem dX4_reduceToBase_43 : decode cX4_reduceToBase 43 = .ok (.getfield 38, 3) := by decide +kernel
theorem dX4_reduceToBase_46 : decode cX4_reduceToBase 46 = .ok (.invokestatic 47, 3) := by decide +kernel
theorem dX4_reduceToBase_49 : decode cX4_reduceToBase 49 = .ok (.aload_n 0, 1) := by decide +kernel
theorem dX4_reduceToBase_50 : decode cX4_reduceToBase 50 = .ok (.getfield 9, 3) := by decide +kernel
theorem dX4_reduceToBase_53 : decode cX4_reduceToBase 53 = .ok (.iload_n 3, 1) := by decide +kernel
theorem dX4_reduceToBase_54 : decode cX4_reduceToBase 54 = .ok (.aload_n 0, 1) := by decide +kernel
theorem dX4_reduceToBase_55 : decode cX4_reduceToBase 55 = .ok (.getfield 9, 3) := by decide +kernel
theorem dX4_reduceToBase_58 : decode cX4_reduceToBase 58 = .ok (.aload_n 1, 1) := by decide +kernel
theorem dX4_reduceToBase_59 : decode cX4_reduceToBase 59 = .ok (.getfield 17, 3) := by decide +kernel
theorem dX4_reduceToBase_62 : decode cX4_reduceToBase 62 = .ok (.iload 4, 2) := by decide +kernel
theorem dX4_reduceToBase_64 : decode cX4_reduceToBase 64 = .ok (.iadd, 1) := by decide +kernel
theorem dX4_reduceToBase_65 : decode cX4_reduceToBase 65 = .ok (.iaload, 1) := by decide +kernel
theorem dX4_reduceToBase_66 : decode cX4_reduceToBase 66 = .ok (.iastore, 1) := by decide +kernel
theorem dX4_reduceToBase_67 : decode cX4_reduceToBase 67 = .ok (.aload_n 0, 1) := by decide +kernel
theorem dX4_reduceToBase_68 : decode cX4_reduceToBase 68 = .ok (.iload_n 3, 1) := by decide +kernel
theorem dX4_reduceToBase_69 : decode cX4_reduceToBase 69 = .ok (.aload_n 0, 1) := by decide +kernel
theorem dX4_reduceToBase_70 : decode cX4_reduceToBase 70 = .ok (.iload_n 3, 1) := by decide +kernel
theorem dX4_reduceToBase_71 : decode cX4_reduceToBase 71 = .ok (.invokevirtual 75, 3) := by decide +kernel
theorem dX4_reduceToBase_74 : decode cX4_reduceToBase 74 = .ok (.invokevirtual 79, 3) := by decide +kernel
theorem dX4_reduceToBase_77 : decode cX4_reduceToBase 77 = .ok (.pop, 1) := by decide +kernel
theorem dX4_reduceToBase_78 : decode cX4_reduceToBase 78 = .ok (.iinc 4 (-1), 3) := by decide +kernel
theorem dX4_reduceToBase_81 : decode cX4_reduceToBase 81 = .ok (.goto (-56), 3) := by decide +kernel
theorem dX4_reduceToBase_84 : decode cX4_reduceToBase 84 = .ok (.aload_n 0, 1) := by decide +kernel
theorem dX4_reduceToBase_85 : decode cX4_reduceToBase 85 = .ok (.getfield 9, 3) := by decide +kernel
theorem dX4_reduceToBase_88 : decode cX4_reduceToBase 88 = .ok (.iload_n 3, 1) := by decide +kernel
theorem dX4_reduceToBase_89 : decode cX4_reduceToBase 89 = .ok (.aload_n 0, 1) := by decide +kernel
theorem dX4_reduceToBase_90 : decode cX4_reduceToBase 90 = .ok (.getfield 9, 3) := by decide +kernel
theorem dX4_reduceToBase_93 : decode cX4_reduceToBase 93 = .ok (.iload_n 2, 1) := by decide +kernel
theorem dX4_reduceToBase_94 : decode cX4_reduceToBase 94 = .ok (.aload_n 0, 1) := by decide +kernel
theorem dX4_reduceToBase_95 : decode cX4_reduceToBase 95 = .ok (.getfield 38, 3) := by decide +kernel
theorem dX4_reduceToBase_98 : decode cX4_reduceToBase 98 = .ok (.invokestatic 47, 3) := by decide +kernel
theorem dX4_reduceToBase_101 : decode cX4_reduceToBase 101 = .ok (.return_, 1) := by decide +kernel
theorem dX4_multiplyModulo_0 : decode cX4_multiplyModulo 0 = .ok (.aload_n 0, 1) := by decide +kernel
theorem dX4_multiplyModulo_1 : decode cX4_multiplyModulo 1 = .ok (.getfield 38, 3) := by decide +kernel
theorem dX4_multiplyModulo_4 : decode cX4_multiplyModulo 4 = .ok (.istore 4, 2) := by decide +kernel
theorem dX4_multiplyModulo_6 : decode cX4_multiplyModulo 6 = .ok (.aload_n 0, 1) := by decide +kernel
theorem dX4_multiplyModulo_7 : decode cX4_multiplyModulo 7 = .ok (.getfield 9, 3) := by decide +kernel
theorem dX4_multiplyModulo_10 : decode cX4_multiplyModulo 10 = .ok (.iload_n 3, 1) := by decide +kernel
theorem dX4_multiplyModulo_11 : decode cX4_multiplyModulo 11 = .ok (.iload_n 3, 1) := by decide +kernel
theorem dX4_multiplyModulo_12 : decode cX4_multiplyModulo 12 = .ok (.iconst 2, 1) := by decide +kernel
theorem dX4_multiplyModulo_13 : decode cX4_multiplyModulo 13 = .ok (.iload 4, 2) := by decide +kernel
theorem dX4_multiplyModulo_15 : decode cX4_multiplyModulo 15 = .ok (.imul, 1) := by decide +kernel
theorem dX4_multiplyModulo_16 : decode cX4_multiplyModulo 16 = .ok (.iadd, 1) := by decide +kernel
theorem dX4_multiplyModulo_17 : decode cX4_multiplyModulo 17 = .ok (.iconst 1, 1) := by decide +kernel
theorem dX4_multiplyModulo_18 : decode cX4_multiplyModulo 18 = .ok (.iadd, 1) := by decide +kernel
theorem dX4_multiplyModulo_19 : decode cX4_multiplyModulo 19 = .ok (.iconst 0, 1) := by decide +kernel
theorem dX4_multiplyModulo_20 : decode cX4_multiplyModulo 20 = .ok (.invokestatic 69, 3) := by decide +kernel
theorem dX4_multiplyModulo_23 : decode cX4_multiplyModulo 23 = .ok (.aload_n 0, 1) := by decide +kernel
theorem dX4_multiplyModulo_24 : decode cX4_multiplyModulo 24 = .ok (.iload_n 3, 1) := by decide +kernel
theorem dX4_multiplyModulo_25 : decode cX4_multiplyModulo 25 = .ok (.iload_n 1, 1) := by decide +kernel
theorem dX4_multiplyModulo_26 : decode cX4_multiplyModulo 26 = .ok (.iload 4, 2) := by decide +kernel
theorem dX4_multiplyModulo_28 : decode cX4_multiplyModulo 28 = .ok (.iload_n 2, 1) := by decide +kernel
theorem dX4_multiplyModulo_29 : decode cX4_multiplyModulo 29 = .ok (.iload 4, 2) := by decide +kernel
theorem dX4_multiplyModulo_31 : decode cX4_multiplyModulo 31 = .ok (.invokevirtual 83, 3) := by decide +kernel
theorem dX4_multiplyModulo_34 : decode cX4_multiplyModulo 34 = .ok (.aload_n 0, 1) := by decide +kernel
theorem dX4_multiplyModulo_35 : decode cX4_multiplyModulo 35 = .ok (.iload_n 3, 1) := by decide +kernel
theorem dX4_multiplyModulo_36 : decode cX4_multiplyModulo 36 = .ok (.iconst 2, 1) := by decide +kernel
theorem dX4_multiplyModulo_37 : decode cX4_multiplyModulo 37 = .ok (.iload 4, 2) := by decide +kernel
theorem dX4_multiplyModulo_39 : decode cX4_multiplyModulo 39 = .ok (.imul, 1) := by decide +kernel
theorem dX4_multiplyModulo_40 : decode cX4_multiplyModulo 40 = .ok (.iconst (-1), 1) := by decide +kernel
theorem dX4_multiplyModulo_41 : decode cX4_multiplyModulo 41 = .ok (.invokevirtual 34, 3) := by decide +kernel
theorem dX4_multiplyModulo_44 : decode cX4_multiplyModulo 44 = .ok (.aload_n 0, 1) := by decide +kernel
theorem dX4_multiplyModulo_45 : decode cX4_multiplyModulo 45 = .ok (.getfield 9, 3) := by decide +kernel
theorem dX4_multiplyModulo_48 : decode cX4_multiplyModulo 48 = .ok (.iload_n 3, 1) := by decide +kernel
theorem dX4_multiplyModulo_49 : decode cX4_multiplyModulo 49 = .ok (.aload_n 0, 1) := by decide +kernel
theorem dX4_multiplyModulo_50 : decode cX4_multiplyModulo 50 = .ok (.getfield 9, 3) := by decide +kernel
theorem dX4_multiplyModulo_53 : decode cX4_multiplyModulo 53 = .ok (.iload_n 1, 1) := by decide +kernel
theorem dX4_multiplyModulo_54 : decode cX4_multiplyModulo 54 = .ok (.iload 4, 2) := by decide +kernel
theorem dX4_multiplyModulo_56 : decode cX4_multiplyModulo 56 = .ok (.invokestatic 47, 3) := by decide +kernel
theorem dX4_multiplyModulo_59 : decode cX4_multiplyModulo 59 = .ok (.return_, 1) := by decide +kernel
theorem dX4_chooseDivisor_0 : decode cX4_chooseDivisor 0 = .ok (.aload_n 0, 1) := by decide +kernel
theorem dX4_chooseDivisor_1 : decode cX4_chooseDivisor 1 = .ok (.iload_n 1, 1) := by decide +kernel
theorem dX4_chooseDivisor_2 : decode cX4_chooseDivisor 2 = .ok (.putfield 53, 3) := by decide +kernel
theorem dX4_chooseDivisor_5 : decode cX4_chooseDivisor 5 = .ok (.aload_n 0, 1) := by decide +kernel
theorem dX4_chooseDivisor_6 : decode cX4_chooseDivisor 6 = .ok (.aload_n 0, 1) := by decide +kernel
theorem dX4_chooseDivisor_7 : decode cX4_chooseDivisor 7 = .ok (.iload_n 1, 1) := by decide +kernel
theorem dX4_chooseDivisor_8 : decode cX4_chooseDivisor 8 = .ok (.iload_n 2, 1) := by decide +kernel
theorem dX4_chooseDivisor_9 : decode cX4_chooseDivisor 9 = .ok (.invokevirtual 87, 3) := by decide +kernel
theorem dX4_chooseDivisor_12 : decode cX4_chooseDivisor 12 = .ok (.putfield 38, 3) := by decide +kernel
theorem dX4_chooseDivisor_15 : decode cX4_chooseDivisor 15 = .ok (.aload_n 0, 1) := by decide +kernel
theorem dX4_chooseDivisor_16 : decode cX4_chooseDivisor 16 = .ok (.getfield 38, 3) := by decide +kernel
theorem dX4_chooseDivisor_19 : decode cX4_chooseDivisor 19 = .ok (.ifCond .ne 5, 3) := by decide +kernel
theorem dX4_chooseDivisor_22 : decode cX4_chooseDivisor 22 = .ok (.iconst 0, 1) := by decide +kernel
theorem dX4_chooseDivisor_23 : decode cX4_chooseDivisor 23 = .ok (.ireturn, 1) := by decide +kernel
theorem dX4_chooseDivisor_24 : decode cX4_chooseDivisor 24 = .ok (.aload_n 0, 1) := by decide +kernel
theorem dX4_chooseDivisor_25 : decode cX4_chooseDivisor 25 = .ok (.getfield 9, 3) := by decide +kernel
theorem dX4_chooseDivisor_28 : decode cX4_chooseDivisor 28 = .ok (.iload_n 1, 1) := by decide +kernel
theorem dX4_chooseDivisor_29 : decode cX4_chooseDivisor 29 = .ok (.aload_n 0, 1) := by decide +kernel
theorem dX4_chooseDivisor_30 : decode cX4_chooseDivisor 30 = .ok (.getfield 38, 3) := by decide +kernel
theorem dX4_chooseDivisor_33 : decode cX4_chooseDivisor 33 = .ok (.iadd, 1) := by decide +kernel
theorem dX4_chooseDivisor_34 : decode cX4_chooseDivisor 34 = .ok (.iconst 1, 1) := by decide +kernel
theorem dX4_chooseDivisor_35 : decode cX4_chooseDivisor 35 = .ok (.isub, 1) := by decide +kernel
theorem dX4_chooseDivisor_36 : decode cX4_chooseDivisor 36 = .ok (.iaload, 1) := by decide +kernel
theorem dX4_chooseDivisor_37 : decode cX4_chooseDivisor 37 = .ok (.istore_n 3, 1) := by decide +kernel
theorem dX4_chooseDivisor_38 : decode cX4_chooseDivisor 38 = .ok (.aload_n 0, 1) := by decide +kernel
theorem dX4_chooseDivisor_39 : decode cX4_chooseDivisor 39 = .ok (.getfield 38, 3) := by decide +kernel
theorem dX4_chooseDivisor_42 : decode cX4_chooseDivisor 42 = .ok (.iconst 1, 1) := by decide +kernel
theorem dX4_chooseDivisor_43 : decode cX4_chooseDivisor 43 = .ok (.if_icmp .le 19, 3) := by decide +kernel
theorem dX4_chooseDivisor_46 : decode cX4_chooseDivisor 46 = .ok (.aload_n 0, 1) := by decide +kernel
theorem dX4_chooseDivisor_47 : decode cX4_chooseDivisor 47 = .ok (.getfield 9, 3) := by decide +kernel
theorem dX4_chooseDivisor_50 : decode cX4_chooseDivisor 50 = .ok (.iload_n 1, 1) := by decide +kernel
theorem dX4_chooseDivisor_51 : decode cX4_chooseDivisor 51 = .ok (.aload_n 0, 1) := by decide +kernel
theorem dX4_chooseDivisor_52 : decode cX4_chooseDivisor 52 = .ok (.getfield 38, 3) := by decide +kernel
theorem dX4_chooseDivisor_55 : decode cX4_chooseDivisor 55 = .ok (.iadd, 1) := by decide +kernel
theorem dX4_chooseDivisor_56 : decode cX4_chooseDivisor 56 = .ok (.iconst 2, 1) := by decide +kernel
theorem dX4_chooseDivisor_57 : decode cX4_chooseDivisor 57 = .ok (.isub, 1) := by decide +kernel
theorem dX4_chooseDivisor_58 : decode cX4_chooseDivisor 58 = .ok (.iaload, 1) := by decide +kernel
theorem dX4_chooseDivisor_59 : decode cX4_chooseDivisor 59 = .ok (.goto 4, 3) := by decide +kernel
theorem dX4_chooseDivisor_62 : decode cX4_chooseDivisor 62 = .ok (.iconst 0, 1) := by decide +kernel
theorem dX4_chooseDivisor_63 : decode cX4_chooseDivisor 63 = .ok (.istore 4, 2) := by decide +kernel
theorem dX4_chooseDivisor_65 : decode cX4_chooseDivisor 65 = .ok (.aload_n 0, 1) := by decide +kernel
theorem dX4_chooseDivisor_66 : decode cX4_chooseDivisor 66 = .ok (.getfield 38, 3) := by decide +kernel
theorem dX4_chooseDivisor_69 : decode cX4_chooseDivisor 69 = .ok (.iconst 2, 1) := by decide +kernel
theorem dX4_chooseDivisor_70 : decode cX4_chooseDivisor 70 = .ok (.if_icmp .le 19, 3) := by decide +kernel
theorem dX4_chooseDivisor_73 : decode cX4_chooseDivisor 73 = .ok (.aload_n 0, 1) := by decide +kernel
theorem dX4_chooseDivisor_74 : decode cX4_chooseDivisor 74 = .ok (.getfield 9, 3) := by decide +kernel
theorem dX4_chooseDivisor_77 : decode cX4_chooseDivisor 77 = .ok (.iload_n 1, 1) := by decide +kernel
theorem dX4_chooseDivisor_78 : decode cX4_chooseDivisor 78 = .ok (.aload_n 0, 1) := by decide +kernel
theorem dX4_chooseDivisor_79 : decode cX4_chooseDivisor 79 = .ok (.getfield 38, 3) := by decide +kernel
theorem dX4_chooseDivisor_82 : decode cX4_chooseDivisor 82 = .ok (.iadd, 1) := by decide +kernel
theorem dX4_chooseDivisor_83 : decode cX4_chooseDivisor 83 = .ok (.iconst 3, 1) := by decide +kernel
theorem dX4_chooseDivisor_84 : decode cX4_chooseDivisor 84 = .ok (.isub, 1) := by decide +kernel
theorem dX4_chooseDivisor_85 : decode cX4_chooseDivisor 85 = .ok (.iaload, 1) := by decide +kernel
theorem dX4_chooseDivisor_86 : decode cX4_chooseDivisor 86 = .ok (.goto 4, 3) := by decide +kernel
theorem dX4_chooseDivisor_89 : decode cX4_chooseDivisor 89 = .ok (.iconst 0, 1) := by decide +kernel
theorem dX4_chooseDivisor_90 : decode cX4_chooseDivisor 90 = .ok (.istore 5, 2) := by decide +kernel
theorem dX4_chooseDivisor_92 : decode cX4_chooseDivisor 92 = .ok (.aload_n 0, 1) := by decide +kernel
theorem dX4_chooseDivisor_93 : decode cX4_chooseDivisor 93 = .ok (.iconst 0, 1) := by decide +kernel
theorem dX4_chooseDivisor_94 : decode cX4_chooseDivisor 94 = .ok (.putfield 90, 3) := by decide +kernel
theorem dX4_chooseDivisor_97 : decode cX4_chooseDivisor 97 = .ok (.aload_n 0, 1) := by decide +kernel
theorem dX4_chooseDivisor_98 : decode cX4_chooseDivisor 98 = .ok (.getfield 90, 3) := by decide +kernel
theorem dX4_chooseDivisor_101 : decode cX4_chooseDivisor 101 = .ok (.bipush 30, 2) := by decide +kernel
theorem dX4_chooseDivisor_103 : decode cX4_chooseDivisor 103 = .ok (.if_icmp .ge 28, 3) := by decide +kernel
theorem dX4_chooseDivisor_106 : decode cX4_chooseDivisor 106 = .ok (.iload_n 3, 1) := by decide +kernel
theorem dX4_chooseDivisor_107 : decode cX4_chooseDivisor 107 = .ok (.bipush 30, 2) := by decide +kernel
theorem dX4_chooseDivisor_109 : decode cX4_chooseDivisor 109 = .ok (.aload_n 0, 1) := by decide +kernel
theorem dX4_chooseDivisor_110 : decode cX4_chooseDivisor 110 = .ok (.getfield 90, 3) := by decide +kernel
theorem dX4_chooseDivisor_113 : decode cX4_chooseDivisor 113 = .ok (.isub, 1) := by decide +kernel
theorem dX4_chooseDivisor_114 : decode cX4_chooseDivisor 114 = .ok (.ishr, 1) := by decide +kernel
theorem dX4_chooseDivisor_115 : decode cX4_chooseDivisor 115 = .ok (.ifCond .ne 16, 3) := by decide +kernel
theorem dX4_chooseDivisor_118 : decode cX4_chooseDivisor 118 = .ok (.aload_n 0, 1) := by decide +kernel
theorem dX4_chooseDivisor_119 : decode cX4_chooseDivisor 119 = .ok (.dup, 1) := by decide +kernel
theorem dX4_chooseDivisor_120 : decode cX4_chooseDivisor 120 = .ok (.getfield 90, 3) := by decide +kernel
theorem dX4_chooseDivisor_123 : decode cX4_chooseDivisor 123 = .ok (.iconst 1, 1) := by decide +kernel
theorem dX4_chooseDivisor_124 : decode cX4_chooseDivisor 124 = .ok (.iadd, 1) := by decide +kernel
theorem dX4_chooseDivisor_125 : decode cX4_chooseDivisor 125 = .ok (.putfield 90, 3) := by decide +kernel
theorem dX4_chooseDivisor_128 : decode cX4_chooseDivisor 128 = .ok (.goto (-31), 3) := by decide +kernel
theorem dX4_chooseDivisor_131 : decode cX4_chooseDivisor 131 = .ok (.iload_n 3, 1) := by decide +kernel
theorem dX4_chooseDivisor_132 : decode cX4_chooseDivisor 132 = .ok (.i2l, 1) := by decide +kernel
theorem dX4_chooseDivisor_133 : decode cX4_chooseDivisor 133 = .ok (.bipush 31, 2) := by decide +kernel
theorem dX4_chooseDivisor_135 : decode cX4_chooseDivisor 135 = .ok (.lshl, 1) := by decide +kernel
theorem dX4_chooseDivisor_136 : decode cX4_chooseDivisor 136 = .ok (.iload 4, 2) := by decide +kernel
theorem dX4_chooseDivisor_138 : decode cX4_chooseDivisor 138 = .ok (.i2l, 1) := by decide +kernel
theorem dX4_chooseDivisor_139 : decode cX4_chooseDivisor 139 = .ok (.lor, 1) := by decide +kernel
theorem dX4_chooseDivisor_140 : decode cX4_chooseDivisor 140 = .ok (.aload_n 0, 1) := by decide +kernel
theorem dX4_chooseDivisor_141 : decode cX4_chooseDivisor 141 = .ok (.getfield 90, 3) := by decide +kernel
theorem dX4_chooseDivisor_144 : decode cX4_chooseDivisor 144 = .ok (.lshl, 1) := by decide +kernel
theorem dX4_chooseDivisor_145 : decode cX4_chooseDivisor 145 = .ok (.iload 5, 2) := by decide +kernel
theorem dX4_chooseDivisor_147 : decode cX4_chooseDivisor 147 = .ok (.bipush 31, 2) := by decide +kernel
theorem dX4_chooseDivisor_149 : decode cX4_chooseDivisor 149 = .ok (.aload_n 0, 1) := by decide +kernel
theorem dX4_chooseDivisor_150 : decode cX4_chooseDivisor 150 = .ok (.getfield 90, 3) := by decide +kernel
theorem dX4_chooseDivisor_153 : decode cX4_chooseDivisor 153 = .ok (.isub, 1) := by decide +kernel
theorem dX4_chooseDivisor_154 : decode cX4_chooseDivisor 154 = .ok (.ishr, 1) := by decide +kernel
theorem dX4_chooseDivisor_155 : decode cX4_chooseDivisor 155 = .ok (.i2l, 1) := by decide +kernel
theorem dX4_chooseDivisor_156 : decode cX4_chooseDivisor 156 = .ok (.lor, 1) := by decide +kernel
theorem dX4_chooseDivisor_157 : decode cX4_chooseDivisor 157 = .ok (.lstore 6, 2) := by decide +kernel
theorem dX4_chooseDivisor_159 : decode cX4_chooseDivisor 159 = .ok (.aload_n 0, 1) := by decide +kernel
theorem dX4_chooseDivisor_160 : decode cX4_chooseDivisor 160 = .ok (.lload 6, 2) := by decide +kernel
theorem dX4_chooseDivisor_162 : decode cX4_chooseDivisor 162 = .ok (.bipush 31, 2) := by decide +kernel
theorem dX4_chooseDivisor_164 : decode cX4_chooseDivisor 164 = .ok (.lshr, 1) := by decide +kernel
theorem dX4_chooseDivisor_165 : decode cX4_chooseDivisor 165 = .ok (.putfield 93, 3) := by decide +kernel
theorem dX4_chooseDivisor_168 : decode cX4_chooseDivisor 168 = .ok (.aload_n 0, 1) := by decide +kernel
theorem dX4_chooseDivisor_169 : decode cX4_chooseDivisor 169 = .ok (.lload 6, 2) := by decide +kernel
theorem dX4_chooseDivisor_171 : decode cX4_chooseDivisor 171 = .ok (.ldc2_w 15, 3) := by decide +kernel
theorem dX4_chooseDivisor_174 : decode cX4_chooseDivisor 174 = .ok (.land, 1) := by decide +kernel
theorem dX4_chooseDivisor_175 : decode cX4_chooseDivisor 175 = .ok (.putfield 97, 3) := by decide +kernel
theorem dX4_chooseDivisor_178 : decode cX4_chooseDivisor 178 = .ok (.iconst 1, 1) := by decide +kernel
theorem dX4_chooseDivisor_179 : decode cX4_chooseDivisor 179 = .ok (.ireturn, 1) := by decide +kernel
theorem dX4_reduce_0 : decode cX4_reduce 0 = .ok (.iload_n 2, 1) := by decide +kernel
theorem dX4_reduce_1 : decode cX4_reduce 1 = .ok (.aload_n 0, 1) := by decide +kernel
theorem dX4_reduce_2 : decode cX4_reduce 2 = .ok (.getfield 38, 3) := by decide +kernel
theorem dX4_reduce_5 : decode cX4_reduce 5 = .ok (.isub, 1) := by decide +kernel
theorem dX4_reduce_6 : decode cX4_reduce 6 = .ok (.istore 4, 2) := by decide +kernel
theorem dX4_reduce_8 : decode cX4_reduce 8 = .ok (.iload 4, 2) := by decide +kernel
theorem dX4_reduce_10 : decode cX4_reduce 10 = .ok (.ifCond .lt 43, 3) := by decide +kernel
theorem dX4_reduce_13 : decode cX4_reduce 13 = .ok (.aload_n 0, 1) := by decide +kernel
theorem dX4_reduce_14 : decode cX4_reduce 14 = .ok (.iload_n 1, 1) := by decide +kernel
theorem dX4_reduce_15 : decode cX4_reduce 15 = .ok (.iload 4, 2) := by decide +kernel
theorem dX4_reduce_17 : decode cX4_reduce 17 = .ok (.iadd, 1) := by decide +kernel
theorem dX4_reduce_18 : decode cX4_reduce 18 = .ok (.aload_n 0, 1) := by decide +kernel
theorem dX4_reduce_19 : decode cX4_reduce 19 = .ok (.iload_n 1, 1) := by decide +kernel
theorem dX4_reduce_20 : decode cX4_reduce 20 = .ok (.iload 4, 2) := by decide +kernel
theorem dX4_reduce_22 : decode cX4_reduce 22 = .ok (.iadd, 1) := by decide +kernel
theorem dX4_reduce_23 : decode cX4_reduce 23 = .ok (.invokevirtual 75, 3) := by decide +kernel
theorem dX4_reduce_26 : decode cX4_reduce 26 = .ok (.invokevirtual 79, 3) := by decide +kernel
theorem dX4_reduce_29 : decode cX4_reduce 29 = .ok (.istore 5, 2) := by decide +kernel
theorem dX4_reduce_31 : decode cX4_reduce 31 = .ok (.iload_n 3, 1) := by decide +kernel
theorem dX4_reduce_32 : decode cX4_reduce 32 = .ok (.iconst (-1), 1) := by decide +kernel
theorem dX4_reduce_33 : decode cX4_reduce 33 = .ok (.if_icmp .eq 14, 3) := by decide +kernel
theorem dX4_reduce_36 : decode cX4_reduce 36 = .ok (.aload_n 0, 1) := by decide +kernel
theorem dX4_reduce_37 : decode cX4_reduce 37 = .ok (.getfield 9, 3) := by decide +kernel
theorem dX4_reduce_40 : decode cX4_reduce 40 = .ok (.iload_n 3, 1) := by decide +kernel
theorem dX4_reduce_41 : decode cX4_reduce 41 = .ok (.iload 4, 2) := by decide +kernel
theorem dX4_reduce_43 : decode cX4_reduce 43 = .ok (.iadd, 1) := by decide +kernel
theorem dX4_reduce_44 : decode cX4_reduce 44 = .ok (.iload 5, 2) := by decide +kernel
theorem dX4_reduce_46 : decode cX4_reduce 46 = .ok (.iastore, 1) := by decide +kernel
theorem dX4_reduce_47 : decode cX4_reduce 47 = .ok (.iinc 4 (-1), 3) := by decide +kernel
theorem dX4_reduce_50 : decode cX4_reduce 50 = .ok (.goto (-42), 3) := by decide +kernel
theorem dX4_reduce_53 : decode cX4_reduce 53 = .ok (.return_, 1) := by decide +kernel
theorem dX4_guessDigit_0 : decode cX4_guessDigit 0 = .ok (.aload_n 0, 1) := by decide +kernel
theorem dX4_guessDigit_1 : decode cX4_guessDigit 1 = .ok (.getfield 93, 3) := by decide +kernel
theorem dX4_guessDigit_4 : decode cX4_guessDigit 4 = .ok (.lconst 0, 1) := by decide +kernel
theorem dX4_guessDigit_5 : decode cX4_guessDigit 5 = .ok (.lcmp, 1) := by decide +kernel
theorem dX4_guessDigit_6 : decode cX4_guessDigit 6 = .ok (.ifCond .ne 5, 3) := by decide +kernel
theorem dX4_guessDigit_9 : decode cX4_guessDigit 9 = .ok (.lconst 0, 1) := by decide +kernel
theorem dX4_guessDigit_10 : decode cX4_guessDigit 10 = .ok (.lreturn, 1) := by decide +kernel
theorem dX4_guessDigit_11 : decode cX4_guessDigit 11 = .ok (.iload_n 1, 1) := by decide +kernel
theorem dX4_guessDigit_12 : decode cX4_guessDigit 12 = .ok (.aload_n 0, 1) := by decide +kernel
theorem dX4_guessDigit_13 : decode cX4_guessDigit 13 = .ok (.getfield 38, 3) := by decide +kernel

theorem dX5_takeTurn_67 : decode cX5_takeTurn 67 = .ok (.ifCond .gt 13, 3) := by decide +kernel
theorem dX5_takeTurn_70 : decode cX5_takeTurn 70 = .ok (.aload_n 0, 1) := by decide +kernel
theorem dX5_takeTurn_71 : decode cX5_takeTurn 71 = .ok (.aload_n 2, 1) := by decide +kernel
theorem dX5_takeTurn_72 : decode cX5_takeTurn 72 = .ok (.invokevirtual 226, 3) := by decide +kernel
theorem dX5_takeTurn_75 : decode cX5_takeTurn 75 = .ok (.aload_n 0, 1) := by decide +kernel
theorem dX5_takeTurn_76 : decode cX5_takeTurn 76 = .ok (.aload_n 2, 1) := by decide +kernel
theorem dX5_takeTurn_77 : decode cX5_takeTurn 77 = .ok (.invokevirtual 229, 3) := by decide +kernel
theorem dX5_takeTurn_80 : decode cX5_takeTurn 80 = .ok (.aload_n 2, 1) := by decide +kernel
theorem dX5_takeTurn_81 : decode cX5_takeTurn 81 = .ok (.invokevirtual 163, 3) := by decide +kernel
theorem dX5_takeTurn_84 : decode cX5_takeTurn 84 = .ok (.ifCond .eq 11, 3) := by decide +kernel
theorem dX5_takeTurn_87 : decode cX5_takeTurn 87 = .ok (.aload_n 0, 1) := by decide +kernel
theorem dX5_takeTurn_88 : decode cX5_takeTurn 88 = .ok (.getfield 52, 3) := by decide +kernel
theorem dX5_takeTurn_91 : decode cX5_takeTurn 91 = .ok (.iload_n 1, 1) := by decide +kernel
theorem dX5_takeTurn_92 : decode cX5_takeTurn 92 = .ok (.invokevirtual 148, 3) := by decide +kernel
theorem dX5_takeTurn_95 : decode cX5_takeTurn 95 = .ok (.iload_n 1, 1) := by decide +kernel
theorem dX5_takeTurn_96 : decode cX5_takeTurn 96 = .ok (.ireturn, 1) := by decide +kernel
theorem dX5_start_0 : decode cX5_start 0 = .ok (.aload_n 0, 1) := by decide +kernel
theorem dX5_start_1 : decode cX5_start 1 = .ok (.invokevirtual 78, 3) := by decide +kernel
theorem dX5_start_4 : decode cX5_start 4 = .ok (.istore_n 2, 1) := by decide +kernel
theorem dX5_start_5 : decode cX5_start 5 = .ok (.iload_n 2, 1) := by decide +kernel
theorem dX5_start_6 : decode cX5_start 6 = .ok (.iconst (-1), 1) := by decide +kernel
theorem dX5_start_7 : decode cX5_start 7 = .ok (.if_icmp .eq 21, 3) := by decide +kernel
theorem dX5_start_10 : decode cX5_start 10 = .ok (.aload_n 0, 1) := by decide +kernel
theorem dX5_start_11 : decode cX5_start 11 = .ok (.getfield 18, 3) := by decide +kernel
theorem dX5_start_14 : decode cX5_start 14 = .ok (.aload_n 1, 1) := by decide +kernel
theorem dX5_start_15 : decode cX5_start 15 = .ok (.getfield 232, 3) := by decide +kernel
theorem dX5_start_18 : decode cX5_start 18 = .ok (.aload_n 1, 1) := by decide +kernel
theorem dX5_start_19 : decode cX5_start 19 = .ok (.getfield 235, 3) := by decide +kernel
theorem dX5_start_22 : decode cX5_start 22 = .ok (.invokevirtual 238, 3) := by decide +kernel
theorem dX5_start_25 : decode cX5_start 25 = .ok (.ifCond .ne 4, 3) := by decide +kernel
theorem dX5_start_28 : decode cX5_start 28 = .ok (.return_, 1) := by decide +kernel
theorem dX5_start_29 : decode cX5_start 29 = .ok (.aload_n 0, 1) := by decide +kernel
theorem dX5_start_30 : decode cX5_start 30 = .ok (.iload_n 2, 1) := by decide +kernel
theorem dX5_start_31 : decode cX5_start 31 = .ok (.aload_n 1, 1) := by decide +kernel
theorem dX5_start_32 : decode cX5_start 32 = .ok (.getfield 242, 3) := by decide +kernel
theorem dX5_start_35 : decode cX5_start 35 = .ok (.aload_n 1, 1) := by decide +kernel
theorem dX5_start_36 : decode cX5_start 36 = .ok (.getfield 232, 3) := by decide +kernel
theorem dX5_start_39 : decode cX5_start 39 = .ok (.aload_n 0, 1) := by decide +kernel
theorem dX5_start_40 : decode cX5_start 40 = .ok (.getfield 18, 3) := by decide +kernel
theorem dX5_start_43 : decode cX5_start 43 = .ok (.aload_n 1, 1) := by decide +kernel
theorem dX5_start_44 : decode cX5_start 44 = .ok (.getfield 232, 3) := by decide +kernel
theorem dX5_start_47 : decode cX5_start 47 = .ok (.invokevirtual 86, 3) := by decide +kernel
theorem dX5_start_50 : decode cX5_start 50 = .ok (.invokevirtual 90, 3) := by decide +kernel
theorem dX5_start_53 : decode cX5_start 53 = .ok (.aload_n 0, 1) := by decide +kernel
theorem dX5_start_54 : decode cX5_start 54 = .ok (.getfield 44, 3) := by decide +kernel
theorem dX5_start_57 : decode cX5_start 57 = .ok (.iload_n 2, 1) := by decide +kernel
theorem dX5_start_58 : decode cX5_start 58 = .ok (.aaload, 1) := by decide +kernel
theorem dX5_start_59 : decode cX5_start 59 = .ok (.iconst 1, 1) := by decide +kernel
theorem dX5_start_60 : decode cX5_start 60 = .ok (.putfield 204, 3) := by decide +kernel
theorem dX5_start_63 : decode cX5_start 63 = .ok (.aload_n 0, 1) := by decide +kernel
theorem dX5_start_64 : decode cX5_start 64 = .ok (.getfield 44, 3) := by decide +kernel
theorem dX5_start_67 : decode cX5_start 67 = .ok (.iload_n 2, 1) := by decide +kernel
theorem dX5_start_68 : decode cX5_start 68 = .ok (.aaload, 1) := by decide +kernel
theorem dX5_start_69 : decode cX5_start 69 = .ok (.iconst 1, 1) := by decide +kernel
theorem dX5_start_70 : decode cX5_start 70 = .ok (.putfield 98, 3) := by decide +kernel
theorem dX5_start_73 : decode cX5_start 73 = .ok (.aload_n 1, 1) := by decide +kernel
theorem dX5_start_74 : decode cX5_start 74 = .ok (.iload_n 2, 1) := by decide +kernel
theorem dX5_start_75 : decode cX5_start 75 = .ok (.putfield 113, 3) := by decide +kernel
theorem dX5_start_78 : decode cX5_start 78 = .ok (.aload_n 1, 1) := by decide +kernel
theorem dX5_start_79 : decode cX5_start 79 = .ok (.getfield 235, 3) := by decide +kernel
theorem dX5_start_82 : decode cX5_start 82 = .ok (.iconst (-1), 1) := by decide +kernel
theorem dX5_start_83 : decode cX5_start 83 = .ok (.if_icmp .eq 18, 3) := by decide +kernel
theorem dX5_start_86 : decode cX5_start 86 = .ok (.aload_n 1, 1) := by decide +kernel
theorem dX5_start_87 : decode cX5_start 87 = .ok (.aload_n 0, 1) := by decide +kernel
theorem dX5_start_88 : decode cX5_start 88 = .ok (.getfield 18, 3) := by decide +kernel
theorem dX5_start_91 : decode cX5_start 91 = .ok (.aload_n 1, 1) := by decide +kernel
theorem dX5_start_92 : decode cX5_start 92 = .ok (.getfield 235, 3) := by decide +kernel
theorem dX5_start_95 : decode cX5_start 95 = .ok (.invokevirtual 86, 3) := by decide +kernel
theorem dX5_start_98 : decode cX5_start 98 = .ok (.putfield 245, 3) := by decide +kernel
theorem dX5_start_101 : decode cX5_start 101 = .ok (.aload_n 1, 1) := by decide +kernel
theorem dX5_start_102 : decode cX5_start 102 = .ok (.iconst 1, 1) := by decide +kernel
theorem dX5_start_103 : decode cX5_start 103 = .ok (.putfield 141, 3) := by decide +kernel
theorem dX5_start_106 : decode cX5_start 106 = .ok (.return_, 1) := by decide +kernel
theorem dX5_reckon_0 : decode cX5_reckon 0 = .ok (.aload_n 0, 1) := by decide +kernel
theorem dX5_reckon_1 : decode cX5_reckon 1 = .ok (.getfield 44, 3) := by decide +kernel
theorem dX5_reckon_4 : decode cX5_reckon 4 = .ok (.aload_n 1, 1) := by decide +kernel
theorem dX5_reckon_5 : decode cX5_reckon 5 = .ok (.getfield 128, 3) := by decide +kernel
theorem dX5_reckon_8 : decode cX5_reckon 8 = .ok (.aaload, 1) := by decide +kernel
theorem dX5_reckon_9 : decode cX5_reckon 9 = .ok (.astore_n 2, 1) := by decide +kernel
theorem dX5_reckon_10 : decode cX5_reckon 10 = .ok (.aload_n 0, 1) := by decide +kernel
theorem dX5_reckon_11 : decode cX5_reckon 11 = .ok (.getfield 44, 3) := by decide +kernel
theorem dX5_reckon_14 : decode cX5_reckon 14 = .ok (.aload_n 1, 1) := by decide +kernel
theorem dX5_reckon_15 : decode cX5_reckon 15 = .ok (.getfield 131, 3) := by decide +kernel
theorem dX5_reckon_18 : decode cX5_reckon 18 = .ok (.aaload, 1) := by decide +kernel
theorem dX5_reckon_19 : decode cX5_reckon 19 = .ok (.astore_n 3, 1) := by decide +kernel
theorem dX5_reckon_20 : decode cX5_reckon 20 = .ok (.aload_n 0, 1) := by decide +kernel
theorem dX5_reckon_21 : decode cX5_reckon 21 = .ok (.getfield 44, 3) := by decide +kernel
theorem dX5_reckon_24 : decode cX5_reckon 24 = .ok (.aload_n 1, 1) := by decide +kernel
theorem dX5_reckon_25 : decode cX5_reckon 25 = .ok (.getfield 113, 3) := by decide +kernel
theorem dX5_reckon_28 : decode cX5_reckon 28 = .ok (.aaload, 1) := by decide +kernel
theorem dX5_reckon_29 : decode cX5_reckon 29 = .ok (.astore 4, 2) := by decide +kernel
theorem dX5_reckon_31 : decode cX5_reckon 31 = .ok (.aload_n 1, 1) := by decide +kernel
theorem dX5_reckon_32 : decode cX5_reckon 32 = .ok (.getfield 125, 3) := by decide +kernel
theorem dX5_reckon_35 : decode cX5_reckon 35 = .ok (.tableswitch 92 0 2 #[25, 56, 74], 25) := by decide +kernel
theorem dX5_reckon_60 : decode cX5_reckon 60 = .ok (.aload_n 0, 1) := by decide +kernel
theorem dX5_reckon_61 : decode cX5_reckon 61 = .ok (.getfield 31, 3) := by decide +kernel
theorem dX5_reckon_64 : decode cX5_reckon 64 = .ok (.aload 4, 2) := by decide +kernel
theorem dX5_reckon_66 : decode cX5_reckon 66 = .ok (.getfield 104, 3) := by decide +kernel
theorem dX5_reckon_69 : decode cX5_reckon 69 = .ok (.aload_n 2, 1) := by decide +kernel
theorem dX5_reckon_70 : decode cX5_reckon 70 = .ok (.getfield 104, 3) := by decide +kernel
theorem dX5_reckon_73 : decode cX5_reckon 73 = .ok (.aload_n 2, 1) := by decide +kernel
theorem dX5_reckon_74 : decode cX5_reckon 74 = .ok (.getfield 110, 3) := by decide +kernel
theorem dX5_reckon_77 : decode cX5_reckon 77 = .ok (.aload_n 3, 1) := by decide +kernel
theorem dX5_reckon_78 : decode cX5_reckon 78 = .ok (.getfield 104, 3) := by decide +kernel
theorem dX5_reckon_81 : decode cX5_reckon 81 = .ok (.aload_n 3, 1) := by decide +kernel
theorem dX5_reckon_82 : decode cX5_reckon 82 = .ok (.getfield 110, 3) := by decide +kernel
theorem dX5_reckon_85 : decode cX5_reckon 85 = .ok (.invokevirtual 248, 3) := by decide +kernel
theorem dX5_reckon_88 : decode cX5_reckon 88 = .ok (.goto 63, 3) := by decide +kernel
theorem dX5_reckon_91 : decode cX5_reckon 91 = .ok (.aload_n 0, 1) := by decide +kernel
theorem dX5_reckon_92 : decode cX5_reckon 92 = .ok (.getfield 31, 3) := by decide +kernel
theorem dX5_reckon_95 : decode cX5_reckon 95 = .ok (.aload_n 2, 1) := by decide +kernel
theorem dX5_reckon_96 : decode cX5_reckon 96 = .ok (.aload_n 3, 1) := by decide +kernel
theorem dX5_reckon_97 : decode cX5_reckon 97 = .ok (.aload 4, 2) := by decide +kernel
theorem dX5_reckon_99 : decode cX5_reckon 99 = .ok (.aload_n 1, 1) := by decide +kernel
theorem dX5_reckon_100 : decode cX5_reckon 100 = .ok (.getfield 245, 3) := by decide +kernel
theorem dX5_reckon_103 : decode cX5_reckon 103 = .ok (.invokevirtual 252, 3) := by decide +kernel
theorem dX5_reckon_106 : decode cX5_reckon 106 = .ok (.goto 45, 3) := by decide +kernel
theorem dX5_reckon_109 : decode cX5_reckon 109 = .ok (.aload_n 0, 1) := by decide +kernel
theorem dX5_reckon_110 : decode cX5_reckon 110 = .ok (.getfield 31, 3) := by decide +kernel
theorem dX5_reckon_113 : decode cX5_reckon 113 = .ok (.aload_n 2, 1) := by decide +kernel
theorem dX5_reckon_114 : decode cX5_reckon 114 = .ok (.aload_n 3, 1) := by decide +kernel
theorem dX5_reckon_115 : decode cX5_reckon 115 = .ok (.aload 4, 2) := by decide +kernel
theorem dX5_reckon_117 : decode cX5_reckon 117 = .ok (.aload_n 1, 1) := by decide +kernel
theorem dX5_reckon_118 : decode cX5_reckon 118 = .ok (.getfield 245, 3) := by decide +kernel
theorem dX5_reckon_121 : decode cX5_reckon 121 = .ok (.invokevirtual 256, 3) := by decide +kernel
theorem dX5_reckon_124 : decode cX5_reckon 124 = .ok (.goto 27, 3) := by decide +kernel
theorem dX5_reckon_127 : decode cX5_reckon 127 = .ok (.aload_n 0, 1) := by decide +kernel
theorem dX5_reckon_128 : decode cX5_reckon 128 = .ok (.getfield 31, 3) := by decide +kernel
theorem dX5_reckon_131 : decode cX5_reckon 131 = .ok (.aload_n 2, 1) := by decide +kernel
theorem dX5_reckon_132 : decode cX5_reckon 132 = .ok (.aload_n 3, 1) := by decide +kernel
theorem dX5_reckon_133 : decode cX5_reckon 133 = .ok (.aload_n 0, 1) := by decide +kernel
theorem dX5_reckon_134 : decode cX5_reckon 134 = .ok (.getfield 44, 3) := by decide +kernel
theorem dX5_reckon_137 : decode cX5_reckon 137 = .ok (.aload_n 1, 1) := by decide +kernel
theorem dX5_reckon_138 : decode cX5_reckon 138 = .ok (.getfield 134, 3) := by decide +kernel
theorem dX5_reckon_141 : decode cX5_reckon 141 = .ok (.aaload, 1) := by decide +kernel
theorem dX5_reckon_142 : decode cX5_reckon 142 = .ok (.aload 4, 2) := by decide +kernel
theorem dX5_reckon_144 : decode cX5_reckon 144 = .ok (.aload_n 1, 1) := by decide +kernel
theorem dX5_reckon_145 : decode cX5_reckon 145 = .ok (.getfield 245, 3) := by decide +kernel
theorem dX5_reckon_148 : decode cX5_reckon 148 = .ok (.invokevirtual 259, 3) := by decide +kernel
theorem dX5_reckon_151 : decode cX5_reckon 151 = .ok (.return_, 1) := by decide +kernel
theorem dX5_settle_0 : decode cX5_settle 0 = .ok (.aload_n 0, 1) := by decide +kernel
theorem dX5_settle_1 : decode cX5_settle 1 = .ok (.aload_n 1, 1) := by decide +kernel
theorem dX5_settle_2 : decode cX5_settle 2 = .ok (.iconst (-1), 1) := by decide +kernel
theorem dX5_settle_3 : decode cX5_settle 3 = .ok (.invokevirtual 144, 3) := by decide +kernel
theorem dX5_settle_6 : decode cX5_settle 6 = .ok (.aload_n 0, 1) := by decide +kernel
theorem dX5_settle_7 : decode cX5_settle 7 = .ok (.aload_n 1, 1) := by decide +kernel
theorem dX5_settle_8 : decode cX5_settle 8 = .ok (.invokevirtual 170, 3) := by decide +kernel
theorem dX5_settle_11 : decode cX5_settle 11 = .ok (.aload_n 0, 1) := by decide +kernel
theorem dX5_settle_12 : decode cX5_settle 12 = .ok (.getfield 44, 3) := by decide +kernel
theorem dX5_settle_15 : decode cX5_settle 15 = .ok (.aload_n 1, 1) := by decide +kernel
theorem dX5_settle_16 : decode cX5_settle 16 = .ok (.getfield 113, 3) := by decide +kernel
theorem dX5_settle_19 : decode cX5_settle 19 = .ok (.aaload, 1) := by decide +kernel
theorem dX5_settle_20 : decode cX5_settle 20 = .ok (.dup, 1) := by decide +kernel
theorem dX5_settle_21 : decode cX5_settle 21 = .ok (.getfield 98, 3) := by decide +kernel
theorem dX5_settle_24 : decode cX5_settle 24 = .ok (.iconst 1, 1) := by decide +kernel
theorem dX5_settle_25 : decode cX5_settle 25 = .ok (.isub, 1) := by decide +kernel
theorem dX5_settle_26 : decode cX5_settle 26 = .ok (.putfield 98, 3) := by decide +kernel
theorem dX5_settle_29 : decode cX5_settle 29 = .ok (.aload_n 0, 1) := by decide +kernel
theorem dX5_settle_30 : decode cX5_settle 30 = .ok (.getfield 44, 3) := by decide +kernel
theorem dX5_settle_33 : decode cX5_settle 33 = .ok (.aload_n 1, 1) := by decide +kernel
theorem dX5_settle_34 : decode cX5_settle 34 = .ok (.getfield 113, 3) := by decide +kernel
theorem dX5_settle_37 : decode cX5_settle 37 = .ok (.aaload, 1) := by decide +kernel
theorem dX5_settle_38 : decode cX5_settle 38 = .ok (.iconst 0, 1) := by decide +kernel
theorem dX5_settle_39 : decode cX5_settle 39 = .ok (.putfield 204, 3) := by decide +kernel
theorem dX5_settle_42 : decode cX5_settle 42 = .ok (.aload_n 1, 1) := by decide +kernel
theorem dX5_settle_43 : decode cX5_settle 43 = .ok (.lconst 0, 1) := by decide +kernel
theorem dX5_settle_44 : decode cX5_settle 44 = .ok (.putfield 157, 3) := by decide +kernel
theorem dX5_settle_47 : decode cX5_settle 47 = .ok (.aload_n 1, 1) := by decide +kernel
theorem dX5_settle_48 : decode cX5_settle 48 = .ok (.iconst 2, 1) := by decide +kernel
theorem dX5_settle_49 : decode cX5_settle 49 = .ok (.putfield 141, 3) := by decide +kernel
theorem dX5_settle_52 : decode cX5_settle 52 = .ok (.return_, 1) := by decide +kernel
theorem dX5_giveUpRoom_0 : decode cX5_giveUpRoom 0 = .ok (.aload_n 1, 1) := by decide +kernel
theorem dX5_giveUpRoom_1 : decode cX5_giveUpRoom 1 = .ok (.getfield 245, 3) := by decide +kernel
theorem dX5_giveUpRoom_4 : decode cX5_giveUpRoom 4 = .ok (.iconst (-1), 1) := by decide +kernel
theorem dX5_giveUpRoom_5 : decode cX5_giveUpRoom 5 = .ok (.if_icmp .eq 23, 3) := by decide +kernel
theorem dX5_giveUpRoom_8 : decode cX5_giveUpRoom 8 = .ok (.aload_n 0, 1) := by decide +kernel
theorem dX5_giveUpRoom_9 : decode cX5_giveUpRoom 9 = .ok (.getfield 18, 3) := by decide +kernel
theorem dX5_giveUpRoom_12 : decode cX5_giveUpRoom 12 = .ok (.aload_n 1, 1) := by decide +kernel
theorem dX5_giveUpRoom_13 : decode cX5_giveUpRoom 13 = .ok (.getfield 245, 3) := by decide +kernel
theorem dX5_giveUpRoom_16 : decode cX5_giveUpRoom 16 = .ok (.aload_n 1, 1) := by decide +kernel
theorem dX5_giveUpRoom_17 : decode cX5_giveUpRoom 17 = .ok (.getfield 235, 3) := by decide +kernel
theorem dX5_giveUpRoom_20 : decode cX5_giveUpRoom 20 = .ok (.invokevirtual 216, 3) := by decide +kernel
theorem dX5_giveUpRoom_23 : decode cX5_giveUpRoom 23 = .ok (.aload_n 1, 1) := by decide +kernel
theorem dX5_giveUpRoom_24 : decode cX5_giveUpRoom 24 = .ok (.iconst (-1), 1) := by decide +kernel
theorem dX5_giveUpRoom_25 : decode cX5_giveUpRoom 25 = .ok (.putfield 245, 3) := by decide +kernel
theorem dX5_giveUpRoom_28 : decode cX5_giveUpRoom 28 = .ok (.return_, 1) := by decide +kernel
theorem dX6_init_0 : decode cX6_init 0 = .ok (.aload_n 0, 1) := by decide +kernel
theorem dX6_init_1 : decode cX6_init 1 = .ok (.invokespecial 1, 3) := by decide +kernel
theorem dX6_init_4 : decode cX6_init 4 = .ok (.aload_n 0, 1) := by decide +kernel
theorem dX6_init_5 : decode cX6_init 5 = .ok (.sipush 2048, 3) := by decide +kernel
theorem dX6_init_8 : decode cX6_init 8 = .ok (.newarray .int, 2) := by decide +kernel
theorem dX6_init_10 : decode cX6_init 10 = .ok (.putfield 7, 3) := by decide +kernel
theorem dX6_init_13 : decode cX6_init 13 = .ok (.aload_n 0, 1) := by decide +kernel
theorem dX6_init_14 : decode cX6_init 14 = .ok (.sipush 2048, 3) := by decide +kernel
theorem dX6_init_17 : decode cX6_init 17 = .ok (.newarray .int, 2) := by decide +kernel
theorem dX6_init_19 : decode cX6_init 19 = .ok (.putfield 13, 3) := by decide +kernel
theorem dX6_init_22 : decode cX6_init 22 = .ok (.aload_n 0, 1) := by decide +kernel
theorem dX6_init_23 : decode cX6_init 23 = .ok (.bipush 24, 2) := by decide +kernel
theorem dX6_init_25 : decode cX6_init 25 = .ok (.newarray .boolean, 2) := by decide +kernel
theorem dX6_init_27 : decode cX6_init 27 = .ok (.putfield 16, 3) := by decide +kernel
theorem dX6_init_30 : decode cX6_init 30 = .ok (.aload_n 0, 1) := by decide +kernel
theorem dX6_init_31 : decode cX6_init 31 = .ok (.bipush 24, 2) := by decide +kernel
theorem dX6_init_33 : decode cX6_init 33 = .ok (.newarray .int, 2) := by decide +kernel
theorem dX6_init_35 : decode cX6_init 35 = .ok (.putfield 20, 3) := by decide +kernel
theorem dX6_init_38 : decode cX6_init 38 = .ok (.aload_n 0, 1) := by decide +kernel
theorem dX6_init_39 : decode cX6_init 39 = .ok (.bipush 24, 2) := by decide +kernel
theorem dX6_init_41 : decode cX6_init 41 = .ok (.newarray .int, 2) := by decide +kernel
theorem dX6_init_43 : decode cX6_init 43 = .ok (.putfield 23, 3) := by decide +kernel
theorem dX6_init_46 : decode cX6_init 46 = .ok (.aload_n 0, 1) := by decide +kernel
theorem dX6_init_47 : decode cX6_init 47 = .ok (.bipush 24, 2) := by decide +kernel
theorem dX6_init_49 : decode cX6_init 49 = .ok (.newarray .int, 2) := by decide +kernel
theorem dX6_init_51 : decode cX6_init 51 = .ok (.putfield 26, 3) := by decide +kernel
theorem dX6_init_54 : decode cX6_init 54 = .ok (.aload_n 0, 1) := by decide +kernel
theorem dX6_init_55 : decode cX6_init 55 = .ok (.bipush 24, 2) := by decide +kernel
theorem dX6_init_57 : decode cX6_init 57 = .ok (.newarray .int, 2) := by decide +kernel
theorem dX6_init_59 : decode cX6_init 59 = .ok (.putfield 29, 3) := by decide +kernel
theorem dX6_init_62 : decode cX6_init 62 = .ok (.aload_n 0, 1) := by decide +kernel
theorem dX6_init_63 : decode cX6_init 63 = .ok (.bipush 24, 2) := by decide +kernel
theorem dX6_init_65 : decode cX6_init 65 = .ok (.newarray .boolean, 2) := by decide +kernel
theorem dX6_init_67 : decode cX6_init 67 = .ok (.putfield 32, 3) := by decide +kernel
theorem dX6_init_70 : decode cX6_init 70 = .ok (.aload_n 0, 1) := by decide +kernel
theorem dX6_init_71 : decode cX6_init 71 = .ok (.bipush 12, 2) := by decide +kernel
theorem dX6_init_73 : decode cX6_init 73 = .ok (.newarray .int, 2) := by decide +kernel
theorem dX6_init_75 : decode cX6_init 75 = .ok (.putfield 35, 3) := by decide +kernel
theorem dX6_init_78 : decode cX6_init 78 = .ok (.aload_n 0, 1) := by decide +kernel
theorem dX6_init_79 : decode cX6_init 79 = .ok (.bipush 12, 2) := by decide +kernel
theorem dX6_init_81 : decode cX6_init 81 = .ok (.newarray .int, 2) := by decide +kernel
theorem dX6_init_83 : decode cX6_init 83 = .ok (.putfield 38, 3) := by decide +kernel
theorem dX6_init_86 : decode cX6_init 86 = .ok (.aload_n 0, 1) := by decide +kernel
theorem dX6_init_87 : decode cX6_init 87 = .ok (.bipush 12, 2) := by decide +kernel
theorem dX6_init_89 : decode cX6_init 89 = .ok (.newarray .int, 2) := by decide +kernel
theorem dX6_init_91 : decode cX6_init 91 = .ok (.putfield 41, 3) := by decide +kernel
theorem dX6_init_94 : decode cX6_init 94 = .ok (.aload_n 0, 1) := by decide +kernel
theorem dX6_init_95 : decode cX6_init 95 = .ok (.bipush 12, 2) := by decide +kernel
theorem dX6_init_97 : decode cX6_init 97 = .ok (.newarray .int, 2) := by decide +kernel
theorem dX6_init_99 : decode cX6_init 99 = .ok (.putfield 44, 3) := by decide +kernel
theorem dX6_init_102 : decode cX6_init 102 = .ok (.aload_n 0, 1) := by decide +kernel
theorem dX6_init_103 : decode cX6_init 103 = .ok (.bipush 12, 2) := by decide +kernel
theorem dX6_init_105 : decode cX6_init 105 = .ok (.newarray .int, 2) := by decide +kernel
theorem dX6_init_107 : decode cX6_init 107 = .ok (.putfield 47, 3) := by decide +kernel
theorem dX6_init_110 : decode cX6_init 110 = .ok (.aload_n 0, 1) := by decide +kernel
theorem dX6_init_111 : decode cX6_init 111 = .ok (.bipush 12, 2) := by decide +kernel
theorem dX6_init_113 : decode cX6_init 113 = .ok (.newarray .long, 2) := by decide +kernel
theorem dX6_init_115 : decode cX6_init 115 = .ok (.putfield 50, 3) := by decide +kernel
theorem dX6_init_118 : decode cX6_init 118 = .ok (.aload_n 0, 1) := by decide +kernel
theorem dX6_init_119 : decode cX6_init 119 = .ok (.bipush 12, 2) := by decide +kernel
theorem dX6_init_121 : decode cX6_init 121 = .ok (.newarray .int, 2) := by decide +kernel
theorem dX6_init_123 : decode cX6_init 123 = .ok (.putfield 54, 3) := by decide +kernel
theorem dX6_init_126 : decode cX6_init 126 = .ok (.aload_n 0, 1) := by decide +kernel
theorem dX6_init_127 : decode cX6_init 127 = .ok (.bipush 12, 2) := by decide +kernel
theorem dX6_init_129 : decode cX6_init 129 = .ok (.newarray .int, 2) := by decide +kernel
theorem dX6_init_131 : decode cX6_init 131 = .ok (.putfield 57, 3) := by decide +kernel
theorem dX6_init_134 : decode cX6_init 134 = .ok (.aload_n 0, 1) := by decide +kernel
theorem dX6_init_135 : decode cX6_init 135 = .ok (.bipush 12, 2) := by decide +kernel
theorem dX6_init_137 : decode cX6_init 137 = .ok (.newarray .int, 2) := by decide +kernel
theorem dX6_init_139 : decode cX6_init 139 = .ok (.putfield 60, 3) := by decide +kernel
theorem dX6_init_142 : decode cX6_init 142 = .ok (.aload_n 0, 1) := by decide +kernel
theorem dX6_init_143 : decode cX6_init 143 = .ok (.bipush 13, 2) := by decide +kernel
theorem dX6_init_145 : decode cX6_init 145 = .ok (.newarray .int, 2) := by decide +kernel
theorem dX6_init_147 : decode cX6_init 147 = .ok (.putfield 63, 3) := by decide +kernel
theorem dX6_init_150 : decode cX6_init 150 = .ok (.aload_n 0, 1) := by decide +kernel
theorem dX6_init_151 : decode cX6_init 151 = .ok (.sipush 4200, 3) := by decide +kernel
theorem dX6_init_154 : decode cX6_init 154 = .ok (.newarray .int, 2) := by decide +kernel
theorem dX6_init_156 : decode cX6_init 156 = .ok (.putfield 66, 3) := by decide +kernel
theorem dX6_init_159 : decode cX6_init 159 = .ok (.aload_n 0, 1) := by decide +kernel
theorem dX6_init_160 : decode cX6_init 160 = .ok (.sipush 2100, 3) := by decide +kernel
theorem dX6_init_163 : decode cX6_init 163 = .ok (.newarray .int, 2) := by decide +kernel
theorem dX6_init_165 : decode cX6_init 165 = .ok (.putfield 69, 3) := by decide +kernel
theorem dX6_init_168 : decode cX6_init 168 = .ok (.aload_n 0, 1) := by decide +kernel
theorem dX6_init_169 : decode cX6_init 169 = .ok (.sipush 4200, 3) := by decide +kernel
theorem dX6_init_172 : decode cX6_init 172 = .ok (.newarray .int, 2) := by decide +kernel
theorem dX6_init_174 : decode cX6_init 174 = .ok (.putfield 72, 3) := by decide +kernel
theorem dX6_init_177 : decode cX6_init 177 = .ok (.aload_n 0, 1) := by decide +kernel
theorem dX6_init_178 : decode cX6_init 178 = .ok (.sipush 2100, 3) := by decide +kernel
theorem dX6_init_181 : decode cX6_init 181 = .ok (.newarray .int, 2) := by decide +kernel
theorem dX6_init_183 : decode cX6_init 183 = .ok (.putfield 75, 3) := by decide +kernel
theorem dX6_init_186 : decode cX6_init 186 = .ok (.aload_n 0, 1) := by decide +kernel
theorem dX6_init_187 : decode cX6_init 187 = .ok (.sipush 2100, 3) := by decide +kernel
theorem dX6_init_190 : decode cX6_init 190 = .ok (.newarray .int, 2) := by decide +kernel
theorem dX6_init_192 : decode cX6_init 192 = .ok (.putfield 78, 3) := by decide +kernel
theorem dX6_init_195 : decode cX6_init 195 = .ok (.aload_n 0, 1) := by decide +kernel
theorem dX6_init_196 : decode cX6_init 196 = .ok (.iload_n 1, 1) := by decide +kernel
theorem dX6_init_197 : decode cX6_init 197 = .ok (.iconst 3, 1) := by decide +kernel
theorem dX6_init_198 : decode cX6_init 198 = .ok (.bipush 11, 2) := by decide +kernel
theorem dX6_init_200 : decode cX6_init 200 = .ok (.invokestatic 81, 3) := by decide +kernel
theorem dX6_init_203 : decode cX6_init 203 = .ok (.putfield 85, 3) := by decide +kernel
theorem dX6_init_206 : decode cX6_init 206 = .ok (.aload_n 0, 1) := by decide +kernel
theorem dX6_init_207 : decode cX6_init 207 = .ok (.iload_n 2, 1) := by decide +kernel
theorem dX6_init_208 : decode cX6_init 208 = .ok (.iconst 1, 1) := by decide +kernel
theorem dX6_init_209 : decode cX6_init 209 = .ok (.bipush 12, 2) := by decide +kernel
theorem dX6_init_211 : decode cX6_init 211 = .ok (.invokestatic 81, 3) := by decide +kernel
theorem dX6_init_214 : decode cX6_init 214 = .ok (.putfield 89, 3) := by decide +kernel
theorem dX6_init_217 : decode cX6_init 217 = .ok (.aload_n 0, 1) := by decide +kernel
theorem dX6_init_218 : decode cX6_init 218 = .ok (.iload_n 3, 1) := by decide +kernel
theorem dX6_init_219 : decode cX6_init 219 = .ok (.iconst 1, 1) := by decide +kernel
theorem dX6_init_220 : decode cX6_init 220 = .ok (.bipush 24, 2) := by decide +kernel
theorem dX6_init_222 : decode cX6_init 222 = .ok (.invokestatic 81, 3) := by decide +kernel
theorem dX6_init_225 : decode cX6_init 225 = .ok (.putfield 92, 3) := by decide +kernel
theorem dX6_init_228 : decode cX6_init 228 = .ok (.aload_n 0, 1) := by decide +kernel
theorem dX6_init_229 : decode cX6_init 229 = .ok (.iload 4, 2) := by decide +kernel
theorem dX6_init_231 : decode cX6_init 231 = .ok (.iconst 1, 1) := by decide +kernel
theorem dX6_init_232 : decode cX6_init 232 = .ok (.sipush 2000, 3) := by decide +kernel
theorem dX6_init_235 : decode cX6_init 235 = .ok (.invokestatic 81, 3) := by decide +kernel
theorem dX6_init_238 : decode cX6_init 238 = .ok (.putfield 95, 3) := by decide +kernel
theorem dX6_init_241 : decode cX6_init 241 = .ok (.aload_n 0, 1) := by decide +kernel
theorem dX6_init_242 : decode cX6_init 242 = .ok (.invokevirtual 98, 3) := by decide +kernel
theorem dX6_init_245 : decode cX6_init 245 = .ok (.return_, 1) := by decide +kernel
theorem dX6_within_0 : decode cX6_within 0 = .ok (.iload_n 0, 1) := by decide +kernel
theorem dX6_within_1 : decode cX6_within 1 = .ok (.iload_n 1, 1) := by decide +kernel
theorem dX6_within_2 : decode cX6_within 2 = .ok (.if_icmp .ge 7, 3) := by decide +kernel
theorem dX6_within_5 : decode cX6_within 5 = .ok (.iload_n 1, 1) := by decide +kernel
theorem dX6_within_6 : decode cX6_within 6 = .ok (.goto 13, 3) := by decide +kernel
theorem dX6_within_9 : decode cX6_within 9 = .ok (.iload_n 0, 1) := by decide +kernel
theorem dX6_within_10 : decode cX6_within 10 = .ok (.iload_n 2, 1) := by decide +kernel
theorem dX6_within_11 : decode cX6_within 11 = .ok (.if_icmp .le 7, 3) := by decide +kernel
theorem dX6_within_14 : decode cX6_within 14 = .ok (.iload_n 2, 1) := by decide +kernel
theorem dX6_within_15 : decode cX6_within 15 = .ok (.goto 4, 3) := by decide +kernel
theorem dX6_within_18 : decode cX6_within 18 = .ok (.iload_n 0, 1) := by decide +kernel
theorem dX6_within_19 : decode cX6_within 19 = .ok (.ireturn, 1) := by decide +kernel
theorem dX6_begin_0 : decode cX6_begin 0 = .ok (.iconst 0, 1) := by decide +kernel
theorem dX6_begin_1 : decode cX6_begin 1 = .ok (.istore_n 1, 1) := by decide +kernel
theorem dX6_begin_2 : decode cX6_begin 2 = .ok (.iload_n 1, 1) := by decide +kernel
theorem dX6_begin_3 : decode cX6_begin 3 = .ok (.sipush 2048, 3) := by decide +kernel
theorem dX6_begin_6 : decode cX6_begin 6 = .ok (.if_icmp .ge 23, 3) := by decide +kernel
theorem dX6_begin_9 : decode cX6_begin 9 = .ok (.aload_n 0, 1) := by decide +kernel
theorem dX6_begin_10 : decode cX6_begin 10 = .ok (.getfield 13, 3) := by decide +kernel
theorem dX6_begin_13 : decode cX6_begin 13 = .ok (.iload_n 1, 1) := by decide +kernel
theorem dX6_begin_14 : decode cX6_begin 14 = .ok (.iconst (-1), 1) := by decide +kernel
theorem dX6_begin_15 : decode cX6_begin 15 = .ok (.iastore, 1) := by decide +kernel
theorem dX6_begin_16 : decode cX6_begin 16 = .ok (.aload_n 0, 1) := by decide +kernel
theorem dX6_begin_17 : decode cX6_begin 17 = .ok (.getfield 7, 3) := by decide +kernel
theorem dX6_begin_20 : decode cX6_begin 20 = .ok (.iload_n 1, 1) := by decide +kernel
theorem dX6_begin_21 : decode cX6_begin 21 = .ok (.iconst 0, 1) := by decide +kernel
theorem dX6_begin_22 : decode cX6_begin 22 = .ok (.iastore, 1) := by decide +kernel
theorem dX6_begin_23 : decode cX6_begin 23 = .ok (.iinc 1 1, 3) := by decide +kernel
theorem dX6_begin_26 : decode cX6_begin 26 = .ok (.goto (-24), 3) := by decide +kernel
theorem dX6_begin_29 : decode cX6_begin 29 = .ok (.aload_n 0, 1) := by decide +kernel
theorem dX6_begin_30 : decode cX6_begin 30 = .ok (.getfield 13, 3) := by decide +kernel
theorem dX6_begin_33 : decode cX6_begin 33 = .ok (.iconst 0, 1) := by decide +kernel
theorem dX6_begin_34 : decode cX6_begin 34 = .ok (.aload_n 0, 1) := by decide +kernel
theorem dX6_begin_35 : decode cX6_begin 35 = .ok (.getfield 85, 3) := by decide +kernel
theorem dX6_begin_38 : decode cX6_begin 38 = .ok (.iastore, 1) := by decide +kernel
theorem dX6_begin_39 : decode cX6_begin 39 = .ok (.iconst 0, 1) := by decide +kernel
theorem dX6_begin_40 : decode cX6_begin 40 = .ok (.istore_n 1, 1) := by decide +kernel
theorem dX6_begin_41 : decode cX6_begin 41 = .ok (.iload_n 1, 1) := by decide +kernel
theorem dX6_begin_42 : decode cX6_begin 42 = .ok (.bipush 24, 2) := by decide +kernel
theorem dX6_begin_44 : decode cX6_begin 44 = .ok (.if_icmp .ge 30, 3) := by decide +kernel
theorem dX6_begin_47 : decode cX6_begin 47 = .ok (.aload_n 0, 1) := by decide +kernel
theorem dX6_begin_48 : decode cX6_begin 48 = .ok (.getfield 16, 3) := by decide +kernel
theorem dX6_begin_51 : decode cX6_begin 51 = .ok (.iload_n 1, 1) := by decide +kernel
theorem dX6_begin_52 : decode cX6_begin 52 = .ok (.iconst 0, 1) := by decide +kernel
theorem dX6_begin_53 : decode cX6_begin 53 = .ok (.bastore, 1) := by decide +kernel
theorem dX6_begin_54 : decode cX6_begin 54 = .ok (.aload_n 0, 1) := by decide +kernel
theorem dX6_begin_55 : decode cX6_begin 55 = .ok (.getfield 32, 3) := by decide +kernel
theorem dX6_begin_58 : decode cX6_begin 58 = .ok (.iload_n 1, 1) := by decide +kernel
theorem dX6_begin_59 : decode cX6_begin 59 = .ok (.iconst 0, 1) := by decide +kernel
theorem dX6_begin_60 : decode cX6_begin 60 = .ok (.bastore, 1) := by decide +kernel
theorem dX6_begin_61 : decode cX6_begin 61 = .ok (.aload_n 0, 1) := by decide +kernel
theorem dX6_begin_62 : decode cX6_begin 62 = .ok (.getfield 29, 3) := by decide +kernel
theorem dX6_begin_65 : decode cX6_begin 65 = .ok (.iload_n 1, 1) := by decide +kernel
theorem dX6_begin_66 : decode cX6_begin 66 = .ok (.iconst 0, 1) := by decide +kernel
theorem dX6_begin_67 : decode cX6_begin 67 = .ok (.iastore, 1) := by decide +kernel
theorem dX6_begin_68 : decode cX6_begin 68 = .ok (.iinc 1 1, 3) := by decide +kernel
theorem dX6_begin_71 : decode cX6_begin 71 = .ok (.goto (-30), 3) := by decide +kernel
theorem dX6_begin_74 : decode cX6_begin 74 = .ok (.iconst 0, 1) := by decide +kernel
theorem dX6_begin_75 : decode cX6_begin 75 = .ok (.istore_n 1, 1) := by decide +kernel
theorem dX6_begin_76 : decode cX6_begin 76 = .ok (.iload_n 1, 1) := by decide +kernel
theorem dX6_begin_77 : decode cX6_begin 77 = .ok (.bipush 12, 2) := by decide +kernel
theorem dX6_begin_79 : decode cX6_begin 79 = .ok (.if_icmp .ge 16, 3) := by decide +kernel
theorem dX6_begin_82 : decode cX6_begin 82 = .ok (.aload_n 0, 1) := by decide +kernel
theorem dX6_begin_83 : decode cX6_begin 83 = .ok (.getfield 35, 3) := by decide +kernel
theorem dX6_begin_86 : decode cX6_begin 86 = .ok (.iload_n 1, 1) := by decide +kernel
theorem dX6_begin_87 : decode cX6_begin 87 = .ok (.iconst (-1), 1) := by decide +kernel
theorem dX6_begin_88 : decode cX6_begin 88 = .ok (.iastore, 1) := by decide +kernel
theorem dX6_begin_89 : decode cX6_begin 89 = .ok (.iinc 1 1, 3) := by decide +kernel
theorem dX6_begin_92 : decode cX6_begin 92 = .ok (.goto (-16), 3) := by decide +kernel
theorem dX6_begin_95 : decode cX6_begin 95 = .ok (.aload_n 0, 1) := by decide +kernel
theorem dX6_begin_96 : decode cX6_begin 96 = .ok (.iconst 0, 1) := by decide +kernel
theorem dX6_begin_97 : decode cX6_begin 97 = .ok (.putfield 101, 3) := by decide +kernel
theorem dX6_begin_100 : decode cX6_begin 100 = .ok (.aload_n 0, 1) := by decide +kernel
theorem dX6_begin_101 : decode cX6_begin 101 = .ok (.iconst 0, 1) := by decide +kernel
theorem dX6_begin_102 : decode cX6_begin 102 = .ok (.putfield 104, 3) := by decide +kernel
theorem dX6_begin_105 : decode cX6_begin 105 = .ok (.return_, 1) := by decide +kernel
theorem dX6_init__0 : decode cX6_init_ 0 = .ok (.aload_n 0, 1) := by decide +kernel
theorem dX6_init__1 : decode cX6_init_ 1 = .ok (.invokevirtual 107, 3) := by decide +kernel
theorem dX6_init__4 : decode cX6_init_ 4 = .ok (.aload_n 0, 1) := by decide +kernel
theorem dX6_init__5 : decode cX6_init_ 5 = .ok (.invokevirtual 111, 3) := by decide +kernel
theorem dX6_init__8 : decode cX6_init_ 8 = .ok (.iadd, 1) := by decide +kernel
theorem dX6_init__9 : decode cX6_init_ 9 = .ok (.istore_n 1, 1) := by decide +kernel
theorem dX6_init__10 : decode cX6_init_ 10 = .ok (.aload_n 0, 1) := by decide +kernel
theorem dX6_init__11 : decode cX6_init_ 11 = .ok (.invokevirtual 98, 3) := by decide +kernel
theorem dX6_init__14 : decode cX6_init_ 14 = .ok (.iload_n 1, 1) := by decide +kernel
theorem dX6_init__15 : decode cX6_init_ 15 = .ok (.ireturn, 1) := by decide +kernel
theorem dX6_handlesInUse_0 : decode cX6_handlesInUse 0 = .ok (.iconst 0, 1) := by decide +kernel
theorem dX6_handlesInUse_1 : decode cX6_handlesInUse 1 = .ok (.istore_n 1, 1) := by decide +kernel
theorem dX6_handlesInUse_2 : decode cX6_handlesInUse 2 = .ok (.iconst 0, 1) := by decide +kernel
theorem dX6_handlesInUse_3 : decode cX6_handlesInUse 3 = .ok (.istore_n 2, 1) := by decide +kernel
theorem dX6_handlesInUse_4 : decode cX6_handlesInUse 4 = .ok (.iload_n 2, 1) := by decide +kernel
theorem dX6_handlesInUse_5 : decode cX6_handlesInUse 5 = .ok (.bipush 24, 2) := by decide +kernel
theorem dX6_handlesInUse_7 : decode cX6_handlesInUse 7 = .ok (.if_icmp .ge 26, 3) := by decide +kernel
theorem dX6_handlesInUse_10 : decode cX6_handlesInUse 10 = .ok (.iload_n 1, 1) := by decide +kernel
theorem dX6_handlesInUse_11 : decode cX6_handlesInUse 11 = .ok (.aload_n 0, 1) := by decide +kernel
theorem dX6_handlesInUse_12 : decode cX6_handlesInUse 12 = .ok (.getfield 16, 3) := by decide +kernel
theorem dX6_handlesInUse_15 : decode cX6_handlesInUse 15 = .ok (.iload_n 2, 1) := by decide +kernel
theorem dX6_handlesInUse_16 : decode cX6_handlesInUse 16 = .ok (.baload, 1) := by decide +kernel
theorem dX6_handlesInUse_17 : decode cX6_handlesInUse 17 = .ok (.ifCond .eq 7, 3) := by decide +kernel
theorem dX6_handlesInUse_20 : decode cX6_handlesInUse 20 = .ok (.iconst 1, 1) := by decide +kernel
theorem dX6_handlesInUse_21 : decode cX6_handlesInUse 21 = .ok (.goto 4, 3) := by decide +kernel
theorem dX6_handlesInUse_24 : decode cX6_handlesInUse 24 = .ok (.iconst 0, 1) := by decide +kernel
theorem dX6_handlesInUse_25 : decode cX6_handlesInUse 25 = .ok (.iadd, 1) := by decide +kernel
theorem dX6_handlesInUse_26 : decode cX6_handlesInUse 26 = .ok (.istore_n 1, 1) := by decide +kernel
theorem dX6_handlesInUse_27 : decode cX6_handlesInUse 27 = .ok (.iinc 2 1, 3) := by decide +kernel
theorem dX6_handlesInUse_30 : decode cX6_handlesInUse 30 = .ok (.goto (-26), 3) := by decide +kernel
theorem dX6_handlesInUse_33 : decode cX6_handlesInUse 33 = .ok (.iload_n 1, 1) := by decide +kernel
theorem dX6_handlesInUse_34 : decode cX6_handlesInUse 34 = .ok (.ireturn, 1) := by decide +kernel
theorem dX6_jobsThere_0 : decode cX6_jobsThere 0 = .ok (.iconst 0, 1) := by decide +kernel
theorem dX6_jobsThere_1 : decode cX6_jobsThere 1 = .ok (.istore_n 1, 1) := by decide +kernel
theorem dX6_jobsThere_2 : decode cX6_jobsThere 2 = .ok (.iconst 0, 1) := by decide +kernel
theorem dX6_jobsThere_3 : decode cX6_jobsThere 3 = .ok (.istore_n 2, 1) := by decide +kernel
theorem dX6_jobsThere_4 : decode cX6_jobsThere 4 = .ok (.iload_n 2, 1) := by decide +kernel
theorem dX6_jobsThere_5 : decode cX6_jobsThere 5 = .ok (.bipush 12, 2) := by decide +kernel
theorem dX6_jobsThere_7 : decode cX6_jobsThere 7 = .ok (.if_icmp .ge 26, 3) := by decide +kernel
theorem dX6_jobsThere_10 : decode cX6_jobsThere 10 = .ok (.iload_n 1, 1) := by decide +kernel
theorem dX6_jobsThere_11 : decode cX6_jobsThere 11 = .ok (.aload_n 0, 1) := by decide +kernel
theorem dX6_jobsThere_12 : decode cX6_jobsThere 12 = .ok (.getfield 35, 3) := by decide +kernel
theorem dX6_jobsThere_15 : decode cX6_jobsThere 15 = .ok (.iload_n 2, 1) := by decide +kernel
theorem dX6_jobsThere_16 : decode cX6_jobsThere 16 = .ok (.iaload, 1) := by decide +kernel
theorem dX6_jobsThere_17 : decode cX6_jobsThere 17 = .ok (.ifCond .lt 7, 3) := by decide +kernel
theorem dX6_jobsThere_20 : decode cX6_jobsThere 20 = .ok (.iconst 1, 1) := by decide +kernel
theorem dX6_jobsThere_21 : decode cX6_jobsThere 21 = .ok (.goto 4, 3) := by decide +kernel
theorem dX6_jobsThere_24 : decode cX6_jobsThere 24 = .ok (.iconst 0, 1) := by decide +kernel
theorem dX6_jobsThere_25 : decode cX6_jobsThere 25 = .ok (.iadd, 1) := by decide +kernel
theorem dX6_jobsThere_26 : decode cX6_jobsThere 26 = .ok (.istore_n 1, 1) := by decide +kernel
theorem dX6_jobsThere_27 : decode cX6_jobsThere 27 = .ok (.iinc 2 1, 3) := by decide +kernel
theorem dX6_jobsThere_30 : decode cX6_jobsThere 30 = .ok (.goto (-26), 3) := by decide +kernel
theorem dX6_jobsThere_33 : decode cX6_jobsThere 33 = .ok (.iload_n 1, 1) := by decide +kernel
theorem dX6_jobsThere_34 : decode cX6_jobsThere 34 = .ok (.ireturn, 1) := by decide +kernel
theorem dX6_pool_0 : decode cX6_pool 0 = .ok (.iconst 1, 1) := by decide +kernel
theorem dX6_pool_1 : decode cX6_pool 1 = .ok (.aload_n 0, 1) := by decide +kernel
theorem dX6_pool_2 : decode cX6_pool 2 = .ok (.getfield 85, 3) := by decide +kernel
theorem dX6_pool_5 : decode cX6_pool 5 = .ok (.ishl, 1) := by decide +kernel
theorem dX6_pool_6 : decode cX6_pool 6 = .ok (.ireturn, 1) := by decide +kernel
theorem dX6_orderFor_0 : decode cX6_orderFor 0 = .ok (.iconst 0, 1) := by decide +kernel
theorem dX6_orderFor_1 : decode cX6_orderFor 1 = .ok (.istore_n 1, 1) := by decide +kernel
theorem dX6_orderFor_2 : decode cX6_orderFor 2 = .ok (.iconst 1, 1) := by decide +kernel
theorem dX6_orderFor_3 : decode cX6_orderFor 3 = .ok (.iload_n 1, 1) := by decide +kernel
theorem dX6_orderFor_4 : decode cX6_orderFor 4 = .ok (.ishl, 1) := by decide +kernel
theorem dX6_orderFor_5 : decode cX6_orderFor 5 = .ok (.iload_n 0, 1) := by decide +kernel
theorem dX6_orderFor_6 : decode cX6_orderFor 6 = .ok (.if_icmp .ge 9, 3) := by decide +kernel
theorem dX6_orderFor_9 : decode cX6_orderFor 9 = .ok (.iinc 1 1, 3) := by decide +kernel
theorem dX6_orderFor_12 : decode cX6_orderFor 12 = .ok (.goto (-10), 3) := by decide +kernel
theorem dX6_orderFor_15 : decode cX6_orderFor 15 = .ok (.iload_n 1, 1) := by decide +kernel
theorem dX6_orderFor_16 : decode cX6_orderFor 16 = .ok (.ireturn, 1) := by decide +kernel
theorem dX6_give_0 : decode cX6_give 0 = .ok (.iconst (-1), 1) := by decide +kernel
theorem dX6_give_1 : decode cX6_give 1 = .ok (.istore_n 2, 1) := by decide +kernel
theorem dX6_give_2 : decode cX6_give 2 = .ok (.iconst 0, 1) := by decide +kernel
theorem dX6_give_3 : decode cX6_give 3 = .ok (.istore_n 3, 1) := by decide +kernel
theorem dX6_give_4 : decode cX6_give 4 = .ok (.iload_n 3, 1) := by decide +kernel
theorem dX6_give_5 : decode cX6_give 5 = .ok (.aload_n 0, 1) := by decide +kernel
theorem dX6_give_6 : decode cX6_give 6 = .ok (.invokevirtual 114, 3) := by decide +kernel
theorem dX6_give_9 : decode cX6_give 9 = .ok (.if_icmp .ge 40, 3) := by decide +kernel
theorem dX6_give_12 : decode cX6_give 12 = .ok (.aload_n 0, 1) := by decide +kernel
theorem dX6_give_13 : decode cX6_give 13 = .ok (.getfield 13, 3) := by decide +kernel
theorem dX6_give_16 : decode cX6_give 16 = .ok (.iload_n 3, 1) := by decide +kernel
theorem dX6_give_17 : decode cX6_give 17 = .ok (.iaload, 1) := by decide +kernel
theorem dX6_give_18 : decode cX6_give 18 = .ok (.iload_n 1, 1) := by decide +kernel
theorem dX6_give_19 : decode cX6_give 19 = .ok (.if_icmp .lt 24, 3) := by decide +kernel
theorem dX6_give_22 : decode cX6_give 22 = .ok (.iload_n 2, 1) := by decide +kernel
theorem dX6_give_23 : decode cX6_give 23 = .ok (.ifCond .lt 18, 3) := by decide +kernel
theorem dX6_give_26 : decode cX6_give 26 = .ok (.aload_n 0, 1) := by decide +kernel
theorem dX6_give_27 : decode cX6_give 27 = .ok (.getfield 13, 3) := by decide +kernel
theorem dX6_give_30 : decode cX6_give 30 = .ok (.iload_n 3, 1) := by decide +kernel
theorem dX6_give_31 : decode cX6_give 31 = .ok (.iaload, 1) := by decide +kernel
theorem dX6_give_32 : decode cX6_give 32 = .ok (.aload_n 0, 1) := by decide +kernel
theorem dX6_give_33 : decode cX6_give 33 = .ok (.getfield 13, 3) := by decide +kernel
theorem dX6_give_36 : decode cX6_give 36 = .ok (.iload_n 2, 1) := by decide +kernel
theorem dX6_give_37 : decode cX6_give 37 = .ok (.iaload, 1) := by decide +kernel
theorem dX6_give_38 : decode cX6_give 38 = .ok (.if_icmp .ge 5, 3) := by decide +kernel
theorem dX6_give_41 : decode cX6_give 41 = .ok (.iload_n 3, 1) := by decide +kernel
theorem dX6_give_42 : decode cX6_give 42 = .ok (.istore_n 2, 1) := by decide +kernel
theorem dX6_give_43 : decode cX6_give 43 = .ok (.iinc 3 1, 3) := by decide +kernel
theorem dX6_give_46 : decode cX6_give 46 = .ok (.goto (-42), 3) := by decide +kernel
theorem dX6_give_49 : decode cX6_give 49 = .ok (.iload_n 2, 1) := by decide +kernel
theorem dX6_give_50 : decode cX6_give 50 = .ok (.ifCond .ge 5, 3) := by decide +kernel
theorem dX6_give_53 : decode cX6_give 53 = .ok (.iconst (-1), 1) := by decide +kernel
theorem dX6_give_54 : decode cX6_give 54 = .ok (.ireturn, 1) := by decide +kernel
theorem dX6_give_55 : decode cX6_give 55 = .ok (.aload_n 0, 1) := by decide +kernel
theorem dX6_give_56 : decode cX6_give 56 = .ok (.getfield 13, 3) := by decide +kernel
theorem dX6_give_59 : decode cX6_give 59 = .ok (.iload_n 2, 1) := by decide +kernel
theorem dX6_give_60 : decode cX6_give 60 = .ok (.iaload, 1) := by decide +kernel
theorem dX6_give_61 : decode cX6_give 61 = .ok (.istore_n 3, 1) := by decide +kernel
theorem dX6_give_62 : decode cX6_give 62 = .ok (.aload_n 0, 1) := by decide +kernel
theorem dX6_give_63 : decode cX6_give 63 = .ok (.getfield 13, 3) := by decide +kernel
theorem dX6_give_66 : decode cX6_give 66 = .ok (.iload_n 2, 1) := by decide +kernel
theorem dX6_give_67 : decode cX6_give 67 = .ok (.iconst (-1), 1) := by decide +kernel
theorem dX6_give_68 : decode cX6_give 68 = .ok (.iastore, 1) := by decide +kernel
theorem dX6_give_69 : decode cX6_give 69 = .ok (.iload_n 3, 1) := by decide +kernel
theorem dX6_give_70 : decode cX6_give 70 = .ok (.iload_n 1, 1) := by decide +kernel
theorem dX6_give_71 : decode cX6_give 71 = .ok (.if_icmp .le 20, 3) := by decide +kernel
theorem dX6_give_74 : decode cX6_give 74 = .ok (.iinc 3 (-1), 3) := by decide +kernel
theorem dX6_give_77 : decode cX6_give 77 = .ok (.aload_n 0, 1) := by decide +kernel
theorem dX6_give_78 : decode cX6_give 78 = .ok (.getfield 13, 3) := by decide +kernel
theorem dX6_give_81 : decode cX6_give 81 = .ok (.iload_n 2, 1) := by decide +kernel
theorem dX6_give_82 : decode cX6_give 82 = .ok (.iconst 1, 1) := by decide +kernel
theorem dX6_give_83 : decode cX6_give 83 = .ok (.iload_n 3, 1) := by decide +kernel
theorem dX6_give_84 : decode cX6_give 84 = .ok (.ishl, 1) := by decide +kernel
theorem dX6_give_85 : decode cX6_give 85 = .ok (.iadd, 1) := by decide +kernel
theorem dX6_give_86 : decode cX6_give 86 = .ok (.iload_n 3, 1) := by decide +kernel
theorem dX6_give_87 : decode cX6_give 87 = .ok (.iastore, 1) := by decide +kernel
theorem dX6_give_88 : decode cX6_give 88 = .ok (.goto (-19), 3) := by decide +kernel
theorem dX6_give_91 : decode cX6_give 91 = .ok (.iload_n 2, 1) := by decide +kernel
theorem dX6_give_92 : decode cX6_give 92 = .ok (.ireturn, 1) := by decide +kernel
theorem dX6_free_0 : decode cX6_free 0 = .ok (.iload_n 1, 1) := by decide +kernel
theorem dX6_free_1 : decode cX6_free 1 = .ok (.istore_n 3, 1) := by decide +kernel
theorem dX6_free_2 : decode cX6_free 2 = .ok (.iload_n 2, 1) := by decide +kernel
theorem dX6_free_3 : decode cX6_free 3 = .ok (.istore 4, 2) := by decide +kernel
theorem dX6_free_5 : decode cX6_free 5 = .ok (.iconst 1, 1) := by decide +kernel
theorem dX6_free_6 : decode cX6_free 6 = .ok (.istore 5, 2) := by decide +kernel
theorem dX6_free_8 : decode cX6_free 8 = .ok (.iload 5, 2) := by decide +kernel
theorem dX6_free_10 : decode cX6_free 10 = .ok (.ifCond .eq 71, 3) := by decide +kernel
theorem dX6_free_13 : decode cX6_free 13 = .ok (.iload 4, 2) := by decide +kernel
theorem dX6_free_15 : decode cX6_free 15 = .ok (.aload_n 0, 1) := by decide +kernel
theorem dX6_free_16 : decode cX6_free 16 = .ok (.getfield 85, 3) := by decide +kernel
theorem dX6_free_19 : decode cX6_free 19 = .ok (.if_icmp .ge 62, 3) := by decide +kernel
theorem dX6_free_22 : decode cX6_free 22 = .ok (.iload_n 3, 1) := by decide +kernel
theorem dX6_free_23 : decode cX6_free 23 = .ok (.iconst 1, 1) := by decide +kernel
theorem dX6_free_24 : decode cX6_free 24 = .ok (.iload 4, 2) := by decide +kernel
theorem dX6_free_26 : decode cX6_free 26 = .ok (.ishl, 1) := by decide +kernel
theorem dX6_free_27 : decode cX6_free 27 = .ok (.ixor, 1) := by decide +kernel
theorem dX6_free_28 : decode cX6_free 28 = .ok (.istore 6, 2) := by decide +kernel
theorem dX6_free_30 : decode cX6_free 30 = .ok (.aload_n 0, 1) := by decide +kernel
theorem dX6_free_31 : decode cX6_free 31 = .ok (.getfield 13, 3) := by decide +kernel
theorem dX6_free_34 : decode cX6_free 34 = .ok (.iload 6, 2) := by decide +kernel
theorem dX6_free_36 : decode cX6_free 36 = .ok (.iaload, 1) := by decide +kernel
theorem dX6_free_37 : decode cX6_free 37 = .ok (.iload 4, 2) := by decide +kernel
theorem dX6_free_39 : decode cX6_free 39 = .ok (.if_icmp .ne 7, 3) := by decide +kernel
theorem dX6_free_42 : decode cX6_free 42 = .ok (.iconst 1, 1) := by decide +kernel
theorem dX6_free_43 : decode cX6_free 43 = .ok (.goto 4, 3) := by decide +kernel
theorem dX6_free_46 : decode cX6_free 46 = .ok (.iconst 0, 1) := by decide +kernel
theorem dX6_free_47 : decode cX6_free 47 = .ok (.istore 5, 2) := by decide +kernel
theorem dX6_free_49 : decode cX6_free 49 = .ok (.iload 5, 2) := by decide +kernel
theorem dX6_free_51 : decode cX6_free 51 = .ok (.ifCond .eq 27, 3) := by decide +kernel
theorem dX6_free_54 : decode cX6_free 54 = .ok (.aload_n 0, 1) := by decide +kernel
theorem dX6_free_55 : decode cX6_free 55 = .ok (.getfield 13, 3) := by decide +kernel
theorem dX6_free_58 : decode cX6_free 58 = .ok (.iload 6, 2) := by decide +kernel
theorem dX6_free_60 : decode cX6_free 60 = .ok (.iconst (-1), 1) := by decide +kernel
theorem dX6_free_61 : decode cX6_free 61 = .ok (.iastore, 1) := by decide +kernel
theorem dX6_free_62 : decode cX6_free 62 = .ok (.iload_n 3, 1) := by decide +kernel
theorem dX6_free_63 : decode cX6_free 63 = .ok (.iload 6, 2) := by decide +kernel
theorem dX6_free_65 : decode cX6_free 65 = .ok (.if_icmp .ge 7, 3) := by decide +kernel
theorem dX6_free_68 : decode cX6_free 68 = .ok (.iload_n 3, 1) := by decide +kernel
theorem dX6_free_69 : decode cX6_free 69 = .ok (.goto 5, 3) := by decide +kernel
theorem dX6_free_72 : decode cX6_free 72 = .ok (.iload 6, 2) := by decide +kernel
theorem dX6_free_74 : decode cX6_free 74 = .ok (.istore_n 3, 1) := by decide +kernel
theorem dX6_free_75 : decode cX6_free 75 = .ok (.iinc 4 1, 3) := by decide +kernel
theorem dX6_free_78 : decode cX6_free 78 = .ok (.goto (-70), 3) := by decide +kernel
theorem dX6_free_81 : decode cX6_free 81 = .ok (.aload_n 0, 1) := by decide +kernel
theorem dX6_free_82 : decode cX6_free 82 = .ok (.getfield 13, 3) := by decide +kernel
theorem dX6_free_85 : decode cX6_free 85 = .ok (.iload_n 3, 1) := by decide +kernel
theorem dX6_free_86 : decode cX6_free 86 = .ok (.iload 4, 2) := by decide +kernel
theorem dX6_free_88 : decode cX6_free 88 = .ok (.iastore, 1) := by decide +kernel
theorem dX6_free_89 : decode cX6_free 89 = .ok (.return_, 1) := by decide +kernel
theorem dX6_freeHandle_0 : decode cX6_freeHandle 0 = .ok (.iconst 0, 1) := by decide +kernel
theorem dX6_freeHandle_1 : decode cX6_freeHandle 1 = .ok (.istore_n 1, 1) := by decide +kernel
theorem dX6_freeHandle_2 : decode cX6_freeHandle 2 = .ok (.iload_n 1, 1) := by decide +kernel
theorem dX6_freeHandle_3 : decode cX6_freeHandle 3 = .ok (.aload_n 0, 1) := by decide +kernel
theorem dX6_freeHandle_4 : decode cX6_freeHandle 4 = .ok (.getfield 92, 3) := by decide +kernel
theorem dX6_freeHandle_7 : decode cX6_freeHandle 7 = .ok (.if_icmp .ge 20, 3) := by decide +kernel
theorem dX6_freeHandle_10 : decode cX6_freeHandle 10 = .ok (.aload_n 0, 1) := by decide +kernel
theorem dX6_freeHandle_11 : decode cX6_freeHandle 11 = .ok (.getfield 16, 3) := by decide +kernel
theorem dX6_freeHandle_14 : decode cX6_freeHandle 14 = .ok (.iload_n 1, 1) := by decide +kernel
theorem dX6_freeHandle_15 : decode cX6_freeHandle 15 = .ok (.baload, 1) := by decide +kernel
theorem dX6_freeHandle_16 : decode cX6_freeHandle 16 = .ok (.ifCond .ne 5, 3) := by decide +kernel
theorem dX6_freeHandle_19 : decode cX6_freeHandle 19 = .ok (.iload_n 1, 1) := by decide +kernel
theorem dX6_freeHandle_20 : decode cX6_freeHandle 20 = .ok (.ireturn, 1) := by decide +kernel
theorem dX6_freeHandle_21 : decode cX6_freeHandle 21 = .ok (.iinc 1 1, 3) := by decide +kernel
theorem dX6_freeHandle_24 : decode cX6_freeHandle 24 = .ok (.goto (-22), 3) := by decide +kernel
theorem dX6_freeHandle_27 : decode cX6_freeHandle 27 = .ok (.iconst (-1), 1) := by decide +kernel
theorem dX6_freeHandle_28 : decode cX6_freeHandle 28 = .ok (.ireturn, 1) := by decide +kernel
theorem dX6_make_0 : decode cX6_make 0 = .ok (.aload_n 0, 1) := by decide +kernel
theorem dX6_make_1 : decode cX6_make 1 = .ok (.getfield 16, 3) := by decide +kernel
theorem dX6_make_4 : decode cX6_make 4 = .ok (.iload_n 1, 1) := by decide +kernel
theorem dX6_make_5 : decode cX6_make 5 = .ok (.iconst 1, 1) := by decide +kernel
theorem dX6_make_6 : decode cX6_make 6 = .ok (.bastore, 1) := by decide +kernel
theorem dX6_make_7 : decode cX6_make 7 = .ok (.aload_n 0, 1) := by decide +kernel
theorem dX6_make_8 : decode cX6_make 8 = .ok (.getfield 32, 3) := by decide +kernel
theorem dX6_make_11 : decode cX6_make 11 = .ok (.iload_n 1, 1) := by decide +kernel
theorem dX6_make_12 : decode cX6_make 12 = .ok (.iconst 0, 1) := by decide +kernel
theorem dX6_make_13 : decode cX6_make 13 = .ok (.bastore, 1) := by decide +kernel
theorem dX6_make_14 : decode cX6_make 14 = .ok (.aload_n 0, 1) := by decide +kernel
theorem dX6_make_15 : decode cX6_make 15 = .ok (.getfield 20, 3) := by decide +kernel
theorem dX6_make_18 : decode cX6_make 18 = .ok (.iload_n 1, 1) := by decide +kernel
theorem dX6_make_19 : decode cX6_make 19 = .ok (.iload_n 2, 1) := by decide +kernel
theorem dX6_make_20 : decode cX6_make 20 = .ok (.iastore, 1) := by decide +kernel
theorem dX6_make_21 : decode cX6_make 21 = .ok (.aload_n 0, 1) := by decide +kernel
theorem dX6_make_22 : decode cX6_make 22 = .ok (.getfield 23, 3) := by decide +kernel
theorem dX6_make_25 : decode cX6_make 25 = .ok (.iload_n 1, 1) := by decide +kernel
theorem dX6_make_26 : decode cX6_make 26 = .ok (.iload_n 3, 1) := by decide +kernel
theorem dX6_make_27 : decode cX6_make 27 = .ok (.iastore, 1) := by decide +kernel
theorem dX6_make_28 : decode cX6_make 28 = .ok (.aload_n 0, 1) := by decide +kernel
theorem dX6_make_29 : decode cX6_make 29 = .ok (.getfield 26, 3) := by decide +kernel
theorem dX6_make_32 : decode cX6_make 32 = .ok (.iload_n 1, 1) := by decide +kernel
theorem dX6_make_33 : decode cX6_make 33 = .ok (.iload_n 2, 1) := by decide +kernel
theorem dX6_make_34 : decode cX6_make 34 = .ok (.invokestatic 117, 3) := by decide +kernel
theorem dX6_make_37 : decode cX6_make 37 = .ok (.iastore, 1) := by decide +kernel
theorem dX6_make_38 : decode cX6_make 38 = .ok (.aload_n 0, 1) := by decide +kernel
theorem dX6_make_39 : decode cX6_make 39 = .ok (.getfield 29, 3) := by decide +kernel
theorem dX6_make_42 : decode cX6_make 42 = .ok (.iload_n 1, 1) := by decide +kernel
theorem dX6_make_43 : decode cX6_make 43 = .ok (.iconst 0, 1) := by decide +kernel
theorem dX6_make_44 : decode cX6_make 44 = .ok (.iastore, 1) := by decide +kernel
theorem dX6_make_45 : decode cX6_make 45 = .ok (.iconst 0, 1) := by decide +kernel
theorem dX6_make_46 : decode cX6_make 46 = .ok (.istore 4, 2) := by decide +kernel
theorem dX6_make_48 : decode cX6_make 48 = .ok (.iload 4, 2) := by decide +kernel
theorem dX6_make_50 : decode cX6_make 50 = .ok (.iload_n 2, 1) := by decide +kernel
theorem dX6_make_51 : decode cX6_make 51 = .ok (.if_icmp .ge 19, 3) := by decide +kernel
theorem dX6_make_54 : decode cX6_make 54 = .ok (.aload_n 0, 1) := by decide +kernel
theorem dX6_make_55 : decode cX6_make 55 = .ok (.getfield 7, 3) := by decide +kernel
theorem dX6_make_58 : decode cX6_make 58 = .ok (.iload_n 3, 1) := by decide +kernel
theorem dX6_make_59 : decode cX6_make 59 = .ok (.iload 4, 2) := by decide +kernel
theorem dX6_make_61 : decode cX6_make 61 = .ok (.iadd, 1) := by decide +kernel
theorem dX6_make_62 : decode cX6_make 62 = .ok (.iconst 0, 1) := by decide +kernel
theorem dX6_make_63 : decode cX6_make 63 = .ok (.iastore, 1) := by decide +kernel
theorem dX6_make_64 : decode cX6_make 64 = .ok (.iinc 4 1, 3) := by decide +kernel
theorem dX6_make_67 : decode cX6_make 67 = .ok (.goto (-19), 3) := by decide +kernel
theorem dX6_make_70 : decode cX6_make 70 = .ok (.return_, 1) := by decide +kernel
theorem dX6_newNumber_0 : decode cX6_newNumber 0 = .ok (.iload_n 1, 1) := by decide +kernel
theorem dX6_newNumber_1 : decode cX6_newNumber 1 = .ok (.iconst 1, 1) := by decide +kernel
theorem dX6_newNumber_2 : decode cX6_newNumber 2 = .ok (.if_icmp .lt 11, 3) := by decide +kernel
theorem dX6_newNumber_5 : decode cX6_newNumber 5 = .ok (.iload_n 1, 1) := by decide +kernel
theorem dX6_newNumber_6 : decode cX6_newNumber 6 = .ok (.aload_n 0, 1) := by decide +kernel
theorem dX6_newNumber_7 : decode cX6_newNumber 7 = .ok (.invokevirtual 114, 3) := by decide +kernel
theorem dX6_newNumber_10 : decode cX6_newNumber 10 = .ok (.if_icmp .le 6, 3) := by decide +kernel
theorem dX6_newNumber_13 : decode cX6_newNumber 13 = .ok (.bipush (-2), 2) := by decide +kernel
theorem dX6_newNumber_15 : decode cX6_newNumber 15 = .ok (.ireturn, 1) := by decide +kernel
theorem dX6_newNumber_16 : decode cX6_newNumber 16 = .ok (.aload_n 0, 1) := by decide +kernel
theorem dX6_newNumber_17 : decode cX6_newNumber 17 = .ok (.invokevirtual 121, 3) := by decide +kernel
theorem dX6_newNumber_20 : decode cX6_newNumber 20 = .ok (.istore_n 2, 1) := by decide +kernel
theorem dX6_newNumber_21 : decode cX6_newNumber 21 = .ok (.iload_n 2, 1) := by decide +kernel
theorem dX6_newNumber_22 : decode cX6_newNumber 22 = .ok (.ifCond .ge 6, 3) := by decide +kernel
theorem dX6_newNumber_25 : decode cX6_newNumber 25 = .ok (.bipush (-3), 2) := by decide +kernel
theorem dX6_newNumber_27 : decode cX6_newNumber 27 = .ok (.ireturn, 1) := by decide +kernel
theorem dX6_newNumber_28 : decode cX6_newNumber 28 = .ok (.aload_n 0, 1) := by decide +kernel
theorem dX6_newNumber_29 : decode cX6_newNumber 29 = .ok (.iload_n 1, 1) := by decide +kernel
theorem dX6_newNumber_30 : decode cX6_newNumber 30 = .ok (.invokestatic 117, 3) := by decide +kernel
theorem dX6_newNumber_33 : decode cX6_newNumber 33 = .ok (.invokevirtual 124, 3) := by decide +kernel
theorem dX6_newNumber_36 : decode cX6_newNumber 36 = .ok (.istore_n 3, 1) := by decide +kernel
theorem dX6_newNumber_37 : decode cX6_newNumber 37 = .ok (.iload_n 3, 1) := by decide +kernel
theorem dX6_newNumber_38 : decode cX6_newNumber 38 = .ok (.ifCond .ge 6, 3) := by decide +kernel
theorem dX6_newNumber_41 : decode cX6_newNumber 41 = .ok (.bipush (-4), 2) := by decide +kernel
theorem dX6_newNumber_43 : decode cX6_newNumber 43 = .ok (.ireturn, 1) := by decide +kernel
theorem dX6_newNumber_44 : decode cX6_newNumber 44 = .ok (.aload_n 0, 1) := by decide +kernel
theorem dX6_newNumber_45 : decode cX6_newNumber 45 = .ok (.iload_n 2, 1) := by decide +kernel
theorem dX6_newNumber_46 : decode cX6_newNumber 46 = .ok (.iload_n 1, 1) := by decide +kernel
theorem dX6_newNumber_47 : decode cX6_newNumber 47 = .ok (.iload_n 3, 1) := by decide +kernel
theorem dX6_newNumber_48 : decode cX6_newNumber 48 = .ok (.invokevirtual 127, 3) := by decide +kernel
theorem dX6_newNumber_51 : decode cX6_newNumber 51 = .ok (.iload_n 2, 1) := by decide +kernel
theorem dX6_newNumber_52 : decode cX6_newNumber 52 = .ok (.ireturn, 1) := by decide +kernel
theorem dX6_isThere_0 : decode cX6_isThere 0 = .ok (.iload_n 1, 1) := by decide +kernel
theorem dX6_isThere_1 : decode cX6_isThere 1 = .ok (.ifCond .lt 24, 3) := by decide +kernel
theorem dX6_isThere_4 : decode cX6_isThere 4 = .ok (.iload_n 1, 1) := by decide +kernel
theorem dX6_isThere_5 : decode cX6_isThere 5 = .ok (.aload_n 0, 1) := by decide +kernel
theorem dX6_isThere_6 : decode cX6_isThere 6 = .ok (.getfield 92, 3) := by decide +kernel
theorem dX6_isThere_9 : decode cX6_isThere 9 = .ok (.if_icmp .ge 16, 3) := by decide +kernel
theorem dX6_isThere_12 : decode cX6_isThere 12 = .ok (.aload_n 0, 1) := by decide +kernel
theorem dX6_isThere_13 : decode cX6_isThere 13 = .ok (.getfield 16, 3) := by decide +kernel
theorem dX6_isThere_16 : decode cX6_isThere 16 = .ok (.iload_n 1, 1) := by decide +kernel
theorem dX6_isThere_17 : decode cX6_isThere 17 = .ok (.baload, 1) := by decide +kernel
theorem dX6_isThere_18 : decode cX6_isThere 18 = .ok (.ifCond .eq 7, 3) := by decide +kernel
theorem dX6_isThere_21 : decode cX6_isThere 21 = .ok (.iconst 1, 1) := by decide +kernel
theorem dX6_isThere_22 : decode cX6_isThere 22 = .ok (.goto 4, 3) := by decide +kernel
theorem dX6_isThere_25 : decode cX6_isThere 25 = .ok (.iconst 0, 1) := by decide +kernel
theorem dX6_isThere_26 : decode cX6_isThere 26 = .ok (.ireturn, 1) := by decide +kernel
theorem dX6_setLimb_0 : decode cX6_setLimb 0 = .ok (.aload_n 0, 1) := by decide +kernel
theorem dX6_setLimb_1 : decode cX6_setLimb 1 = .ok (.iload_n 1, 1) := by decide +kernel
theorem dX6_setLimb_2 : decode cX6_setLimb 2 = .ok (.invokevirtual 131, 3) := by decide +kernel
theorem dX6_setLimb_5 : decode cX6_setLimb 5 = .ok (.ifCond .eq 11, 3) := by decide +kernel
theorem dX6_setLimb_8 : decode cX6_setLimb 8 = .ok (.iload_n 3, 1) := by decide +kernel
theorem dX6_setLimb_9 : decode cX6_setLimb 9 = .ok (.ifCond .lt 7, 3) := by decide +kernel
theorem dX6_setLimb_12 : decode cX6_setLimb 12 = .ok (.iconst 1, 1) := by decide +kernel
theorem dX6_setLimb_13 : decode cX6_setLimb 13 = .ok (.goto 4, 3) := by decide +kernel
theorem dX6_setLimb_16 : decode cX6_setLimb 16 = .ok (.iconst 0, 1) := by decide +kernel
theorem dX6_setLimb_17 : decode cX6_setLimb 17 = .ok (.istore 4, 2) := by decide +kernel
theorem dX6_setLimb_19 : decode cX6_setLimb 19 = .ok (.iload 4, 2) := by decide +kernel
theorem dX6_setLimb_21 : decode cX6_setLimb 21 = .ok (.ifCond .eq 30, 3) := by decide +kernel
theorem dX6_setLimb_24 : decode cX6_setLimb 24 = .ok (.aload_n 0, 1) := by decide +kernel
theorem dX6_setLimb_25 : decode cX6_setLimb 25 = .ok (.getfield 29, 3) := by decide +kernel
theorem dX6_setLimb_28 : decode cX6_setLimb 28 = .ok (.iload_n 1, 1) := by decide +kernel
theorem dX6_setLimb_29 : decode cX6_setLimb 29 = .ok (.iaload, 1) := by decide +kernel
theorem dX6_setLimb_30 : decode cX6_setLimb 30 = .ok (.ifCond .ne 21, 3) := by decide +kernel
theorem dX6_setLimb_33 : decode cX6_setLimb 33 = .ok (.iload_n 2, 1) := by decide +kernel
theorem dX6_setLimb_34 : decode cX6_setLimb 34 = .ok (.ifCond .lt 17, 3) := by decide +kernel
theorem dX6_setLimb_37 : decode cX6_setLimb 37 = .ok (.iload_n 2, 1) := by decide +kernel
theorem dX6_setLimb_38 : decode cX6_setLimb 38 = .ok (.aload_n 0, 1) := by decide +kernel
theorem dX6_setLimb_39 : decode cX6_setLimb 39 = .ok (.getfield 20, 3) := by decide +kernel
theorem dX6_setLimb_42 : decode cX6_setLimb 42 = .ok (.iload_n 1, 1) := by decide +kernel
theorem dX6_setLimb_43 : decode cX6_setLimb 43 = .ok (.iaload, 1) := by decide +kernel
theorem dX6_setLimb_44 : decode cX6_setLimb 44 = .ok (.if_icmp .ge 7, 3) := by decide +kernel
theorem dX6_setLimb_47 : decode cX6_setLimb 47 = .ok (.iconst 1, 1) := by decide +kernel
theorem dX6_setLimb_48 : decode cX6_setLimb 48 = .ok (.goto 4, 3) := by decide +kernel
theorem dX6_setLimb_51 : decode cX6_setLimb 51 = .ok (.iconst 0, 1) := by decide +kernel
theorem dX6_setLimb_52 : decode cX6_setLimb 52 = .ok (.istore 4, 2) := by decide +kernel
theorem dX6_setLimb_54 : decode cX6_setLimb 54 = .ok (.iload 4, 2) := by decide +kernel
theorem dX6_setLimb_56 : decode cX6_setLimb 56 = .ok (.ifCond .eq 17, 3) := by decide +kernel
theorem dX6_setLimb_59 : decode cX6_setLimb 59 = .ok (.aload_n 0, 1) := by decide +kernel
theorem dX6_setLimb_60 : decode cX6_setLimb 60 = .ok (.getfield 7, 3) := by decide +kernel
theorem dX6_setLimb_63 : decode cX6_setLimb 63 = .ok (.aload_n 0, 1) := by decide +kernel
theorem dX6_setLimb_64 : decode cX6_setLimb 64 = .ok (.getfield 23, 3) := by decide +kernel
theorem dX6_setLimb_67 : decode cX6_setLimb 67 = .ok (.iload_n 1, 1) := by decide +kernel
theorem dX6_setLimb_68 : decode cX6_setLimb 68 = .ok (.iaload, 1) := by decide +kernel
theorem dX6_setLimb_69 : decode cX6_setLimb 69 = .ok (.iload_n 2, 1) := by decide +kernel
theorem dX6_setLimb_70 : decode cX6_setLimb 70 = .ok (.iadd, 1) := by decide +kernel
theorem dX6_setLimb_71 : decode cX6_setLimb 71 = .ok (.iload_n 3, 1) := by decide +kernel
theorem dX6_setLimb_72 : decode cX6_setLimb 72 = .ok (.iastore, 1) := by decide +kernel
theorem dX6_setLimb_73 : decode cX6_setLimb 73 = .ok (.iload 4, 2) := by decide +kernel
theorem dX6_setLimb_75 : decode cX6_setLimb 75 = .ok (.ireturn, 1) := by decide +kernel
theorem dX6_getLimb_0 : decode cX6_getLimb 0 = .ok (.aload_n 0, 1) := by decide +kernel
theorem dX6_getLimb_1 : decode cX6_getLimb 1 = .ok (.iload_n 1, 1) := by decide +kernel
theorem dX6_getLimb_2 : decode cX6_getLimb 2 = .ok (.invokevirtual 131, 3) := by decide +kernel
theorem dX6_getLimb_5 : decode cX6_getLimb 5 = .ok (.ifCond .eq 26, 3) := by decide +kernel
theorem dX6_getLimb_8 : decode cX6_getLimb 8 = .ok (.aload_n 0, 1) := by decide +kernel
theorem dX6_getLimb_9 : decode cX6_getLimb 9 = .ok (.getfield 32, 3) := by decide +kernel
theorem dX6_getLimb_12 : decode cX6_getLimb 12 = .ok (.iload_n 1, 1) := by decide +kernel
theorem dX6_getLimb_13 : decode cX6_getLimb 13 = .ok (.baload, 1) := by decide +kernel
theorem dX6_getLimb_14 : decode cX6_getLimb 14 = .ok (.ifCond .ne 17, 3) := by decide +kernel
theorem dX6_getLimb_17 : decode cX6_getLimb 17 = .ok (.iload_n 2, 1) := by decide +kernel
theorem dX6_getLimb_18 : decode cX6_getLimb 18 = .ok (.ifCond .lt 13, 3) := by decide +kernel
theorem dX6_getLimb_21 : decode cX6_getLimb 21 = .ok (.iload_n 2, 1) := by decide +kernel
theorem dX6_getLimb_22 : decode cX6_getLimb 22 = .ok (.aload_n 0, 1) := by decide +kernel
theorem dX6_getLimb_23 : decode cX6_getLimb 23 = .ok (.getfield 20, 3) := by decide +kernel
theorem dX6_getLimb_26 : decode cX6_getLimb 26 = .ok (.iload_n 1, 1) := by decide +kernel
theorem dX6_getLimb_27 : decode cX6_getLimb 27 = .ok (.iaload, 1) := by decide +kernel
theorem dX6_getLimb_28 : decode cX6_getLimb 28 = .ok (.if_icmp .lt 5, 3) := by decide +kernel
theorem dX6_getLimb_31 : decode cX6_getLimb 31 = .ok (.iconst (-1), 1) := by decide +kernel
theorem dX6_getLimb_32 : decode cX6_getLimb 32 = .ok (.ireturn, 1) := by decide +kernel
theorem dX6_getLimb_33 : decode cX6_getLimb 33 = .ok (.aload_n 0, 1) := by decide +kernel
theorem dX6_getLimb_34 : decode cX6_getLimb 34 = .ok (.getfield 7, 3) := by decide +kernel
theorem dX6_getLimb_37 : decode cX6_getLimb 37 = .ok (.aload_n 0, 1) := by decide +kernel
theorem dX6_getLimb_38 : decode cX6_getLimb 38 = .ok (.getfield 23, 3) := by decide +kernel
theorem dX6_getLimb_41 : decode cX6_getLimb 41 = .ok (.iload_n 1, 1) := by decide +kernel
theorem dX6_getLimb_42 : decode cX6_getLimb 42 = .ok (.iaload, 1) := by decide +kernel
theorem dX6_getLimb_43 : decode cX6_getLimb 43 = .ok (.iload_n 2, 1) := by decide +kernel
theorem dX6_getLimb_44 : decode cX6_getLimb 44 = .ok (.iadd, 1) := by decide +kernel
theorem dX6_getLimb_45 : decode cX6_getLimb 45 = .ok (.iaload, 1) := by decide +kernel
theorem dX6_getLimb_46 : decode cX6_getLimb 46 = .ok (.ireturn, 1) := by decide +kernel
theorem dX6_sizeOf_0 : decode cX6_sizeOf 0 = .ok (.aload_n 0, 1) := by decide +kernel
theorem dX6_sizeOf_1 : decode cX6_sizeOf 1 = .ok (.iload_n 1, 1) := by decide +kernel
theorem dX6_sizeOf_2 : decode cX6_sizeOf 2 = .ok (.invokevirtual 131, 3) := by decide +kernel
theorem dX6_sizeOf_5 : decode cX6_sizeOf 5 = .ok (.ifCond .eq 12, 3) := by decide +kernel
theorem dX6_sizeOf_8 : decode cX6_sizeOf 8 = .ok (.aload_n 0, 1) := by decide +kernel
theorem dX6_sizeOf_9 : decode cX6_sizeOf 9 = .ok (.getfield 20, 3) := by decide +kernel
theorem dX6_sizeOf_12 : decode cX6_sizeOf 12 = .ok (.iload_n 1, 1) := by decide +kernel
theorem dX6_sizeOf_13 : decode cX6_sizeOf 13 = .ok (.iaload, 1) := by decide +kernel
theorem dX6_sizeOf_14 : decode cX6_sizeOf 14 = .ok (.goto 4, 3) := by decide +kernel
theorem dX6_sizeOf_17 : decode cX6_sizeOf 17 = .ok (.iconst (-1), 1) := by decide +kernel
theorem dX6_sizeOf_18 : decode cX6_sizeOf 18 = .ok (.ireturn, 1) := by decide +kernel
theorem dX6_go_0 : decode cX6_go 0 = .ok (.aload_n 0, 1) := by decide +kernel
theorem dX6_go_1 : decode cX6_go 1 = .ok (.getfield 16, 3) := by decide +kernel
theorem dX6_go_4 : decode cX6_go 4 = .ok (.iload_n 1, 1) := by decide +kernel
theorem dX6_go_5 : decode cX6_go 5 = .ok (.iconst 0, 1) := by decide +kernel
theorem dX6_go_6 : decode cX6_go 6 = .ok (.bastore, 1) := by decide +kernel
theorem dX6_go_7 : decode cX6_go 7 = .ok (.aload_n 0, 1) := by decide +kernel
theorem dX6_go_8 : decode cX6_go 8 = .ok (.getfield 32, 3) := by decide +kernel
theorem dX6_go_11 : decode cX6_go 11 = .ok (.iload_n 1, 1) := by decide +kernel
theorem dX6_go_12 : decode cX6_go 12 = .ok (.iconst 0, 1) := by decide +kernel
theorem dX6_go_13 : decode cX6_go 13 = .ok (.bastore, 1) := by decide +kernel
theorem dX6_go_14 : decode cX6_go 14 = .ok (.aload_n 0, 1) := by decide +kernel
theorem dX6_go_15 : decode cX6_go 15 = .ok (.aload_n 0, 1) := by decide +kernel
theorem dX6_go_16 : decode cX6_go 16 = .ok (.getfield 23, 3) := by decide +kernel
theorem dX6_go_19 : decode cX6_go 19 = .ok (.iload_n 1, 1) := by decide +kernel
theorem dX6_go_20 : decode cX6_go 20 = .ok (.iaload, 1) := by decide +kernel
theorem dX6_go_21 : decode cX6_go 21 = .ok (.aload_n 0, 1) := by decide +kernel
theorem dX6_go_22 : decode cX6_go 22 = .ok (.getfield 26, 3) := by decide +kernel
theorem dX6_go_25 : decode cX6_go 25 = .ok (.iload_n 1, 1) := by decide +kernel
theorem dX6_go_26 : decode cX6_go 26 = .ok (.iaload, 1) := by decide +kernel
theorem dX6_go_27 : decode cX6_go 27 = .ok (.invokevirtual 135, 3) := by decide +kernel
theorem dX6_go_30 : decode cX6_go 30 = .ok (.iconst 0, 1) := by decide +kernel
theorem dX6_go_31 : decode cX6_go 31 = .ok (.istore_n 2, 1) := by decide +kernel
theorem dX6_go_32 : decode cX6_go 32 = .ok (.iload_n 2, 1) := by decide +kernel
theorem dX6_go_33 : decode cX6_go 33 = .ok (.bipush 12, 2) := by decide +kernel
theorem dX6_go_35 : decode cX6_go 35 = .ok (.if_icmp .ge 35, 3) := by decide +kernel
theorem dX6_go_38 : decode cX6_go 38 = .ok (.aload_n 0, 1) := by decide +kernel
theorem dX6_go_39 : decode cX6_go 39 = .ok (.getfield 35, 3) := by decide +kernel
theorem dX6_go_42 : decode cX6_go 42 = .ok (.iload_n 2, 1) := by decide +kernel
theorem dX6_go_43 : decode cX6_go 43 = .ok (.iaload, 1) := by decide +kernel
theorem dX6_go_44 : decode cX6_go 44 = .ok (.ifCond .lt 20, 3) := by decide +kernel
theorem dX6_go_47 : decode cX6_go 47 = .ok (.aload_n 0, 1) := by decide +kernel
theorem dX6_go_48 : decode cX6_go 48 = .ok (.getfield 54, 3) := by decide +kernel
theorem dX6_go_51 : decode cX6_go 51 = .ok (.iload_n 2, 1) := by decide +kernel
theorem dX6_go_52 : decode cX6_go 52 = .ok (.iaload, 1) := by decide +kernel
theorem dX6_go_53 : decode cX6_go 53 = .ok (.iload_n 1, 1) := by decide +kernel
theorem dX6_go_54 : decode cX6_go 54 = .ok (.if_icmp .ne 10, 3) := by decide +kernel
theorem dX6_go_57 : decode cX6_go 57 = .ok (.aload_n 0, 1) := by decide +kernel
theorem dX6_go_58 : decode cX6_go 58 = .ok (.getfield 54, 3) := by decide +kernel
theorem dX6_go_61 : decode cX6_go 61 = .ok (.iload_n 2, 1) := by decide +kernel
theorem dX6_go_62 : decode cX6_go 62 = .ok (.iconst (-1), 1) := by decide +kernel
theorem dX6_go_63 : decode cX6_go 63 = .ok (.iastore, 1) := by decide +kernel
theorem dX6_go_64 : decode cX6_go 64 = .ok (.iinc 2 1, 3) := by decide +kernel
theorem dX6_go_67 : decode cX6_go 67 = .ok (.goto (-35), 3) := by decide +kernel
theorem dX6_go_70 : decode cX6_go 70 = .ok (.return_, 1) := by decide +kernel
theorem dX6_release_0 : decode cX6_release 0 = .ok (.aload_n 0, 1) := by decide +kernel
theorem dX6_release_1 : decode cX6_release 1 = .ok (.iload_n 1, 1) := by decide +kernel
theorem dX6_release_2 : decode cX6_release 2 = .ok (.invokevirtual 131, 3) := by decide +kernel
theorem dX6_release_5 : decode cX6_release 5 = .ok (.ifCond .eq 12, 3) := by decide +kernel
theorem dX6_release_8 : decode cX6_release 8 = .ok (.aload_n 0, 1) := by decide +kernel
theorem dX6_release_9 : decode cX6_release 9 = .ok (.getfield 29, 3) := by decide +kernel
theorem dX6_release_12 : decode cX6_release 12 = .ok (.iload_n 1, 1) := by decide +kernel
theorem dX6_release_13 : decode cX6_release 13 = .ok (.iaload, 1) := by decide +kernel
theorem dX6_release_14 : decode cX6_release 14 = .ok (.ifCond .le 5, 3) := by decide +kernel
theorem dX6_release_17 : decode cX6_release 17 = .ok (.iconst 0, 1) := by decide +kernel
theorem dX6_release_18 : decode cX6_release 18 = .ok (.ireturn, 1) := by decide +kernel
theorem dX6_release_19 : decode cX6_release 19 = .ok (.aload_n 0, 1) := by decide +kernel
theorem dX6_release_20 : decode cX6_release 20 = .ok (.iload_n 1, 1) := by decide +kernel
theorem dX6_release_21 : decode cX6_release 21 = .ok (.invokevirtual 139, 3) := by decide +kernel
theorem dX6_release_24 : decode cX6_release 24 = .ok (.iconst 1, 1) := by decide +kernel
theorem dX6_release_25 : decode cX6_release 25 = .ok (.ireturn, 1) := by decide +kernel
theorem dX6_isOperand_0 : decode cX6_isOperand 0 = .ok (.aload_n 0, 1) := by decide +kernel
theorem dX6_isOperand_1 : decode cX6_isOperand 1 = .ok (.iload_n 1, 1) := by decide +kernel
theorem dX6_isOperand_2 : decode cX6_isOperand 2 = .ok (.invokevirtual 131, 3) := by decide +kernel
theorem dX6_isOperand_5 : decode cX6_isOperand 5 = .ok (.ifCond .eq 16, 3) := by decide +kernel
theorem dX6_isOperand_8 : decode cX6_isOperand 8 = .ok (.aload_n 0, 1) := by decide +kernel
theorem dX6_isOperand_9 : decode cX6_isOperand 9 = .ok (.getfield 32, 3) := by decide +kernel
theorem dX6_isOperand_12 : decode cX6_isOperand 12 = .ok (.iload_n 1, 1) := by decide +kernel
theorem dX6_isOperand_13 : decode cX6_isOperand 13 = .ok (.baload, 1) := by decide +kernel
theorem dX6_isOperand_14 : decode cX6_isOperand 14 = .ok (.ifCond .ne 7, 3) := by decide +kernel
theorem dX6_isOperand_17 : decode cX6_isOperand 17 = .ok (.iconst 1, 1) := by decide +kernel
theorem dX6_isOperand_18 : decode cX6_isOperand 18 = .ok (.goto 4, 3) := by decide +kernel
theorem dX6_isOperand_21 : decode cX6_isOperand 21 = .ok (.iconst 0, 1) := by decide +kernel
theorem dX6_isOperand_22 : decode cX6_isOperand 22 = .ok (.ireturn, 1) := by decide +kernel
theorem dX6_length_0 : decode cX6_length 0 = .ok (.aload_n 0, 1) := by decide +kernel
theorem dX6_length_1 : decode cX6_length 1 = .ok (.getfield 20, 3) := by decide +kernel
theorem dX6_length_4 : decode cX6_length 4 = .ok (.iload_n 1, 1) := by decide +kernel
theorem dX6_length_5 : decode cX6_length 5 = .ok (.iaload, 1) := by decide +kernel
theorem dX6_length_6 : decode cX6_length 6 = .ok (.istore_n 2, 1) := by decide +kernel
theorem dX6_length_7 : decode cX6_length 7 = .ok (.iload_n 2, 1) := by decide +kernel
theorem dX6_length_8 : decode cX6_length 8 = .ok (.ifCond .le 27, 3) := by decide +kernel
theorem dX6_length_11 : decode cX6_length 11 = .ok (.aload_n 0, 1) := by decide +kernel
theorem dX6_length_12 : decode cX6_length 12 = .ok (.getfield 7, 3) := by decide +kernel
theorem dX6_length_15 : decode cX6_length 15 = .ok (.aload_n 0, 1) := by decide +kernel
theorem dX6_length_16 : decode cX6_length 16 = .ok (.getfield 23, 3) := by decide +kernel
theorem dX6_length_19 : decode cX6_length 19 = .ok (.iload_n 1, 1) := by decide +kernel
theorem dX6_length_20 : decode cX6_length 20 = .ok (.iaload, 1) := by decide +kernel
theorem dX6_length_21 : decode cX6_length 21 = .ok (.iload_n 2, 1) := by decide +kernel
theorem dX6_length_22 : decode cX6_length 22 = .ok (.iadd, 1) := by decide +kernel
theorem dX6_length_23 : decode cX6_length 23 = .ok (.iconst 1, 1) := by decide +kernel
theorem dX6_length_24 : decode cX6_length 24 = .ok (.isub, 1) := by decide +kernel
theorem dX6_length_25 : decode cX6_length 25 = .ok (.iaload, 1) := by decide +kernel
theorem dX6_length_26 : decode cX6_length 26 = .ok (.ifCond .ne 9, 3) := by decide +kernel
theorem dX6_length_29 : decode cX6_length 29 = .ok (.iinc 2 (-1), 3) := by decide +kernel
theorem dX6_length_32 : decode cX6_length 32 = .ok (.goto (-25), 3) := by decide +kernel
theorem dX6_length_35 : decode cX6_length 35 = .ok (.iload_n 2, 1) := by decide +kernel
theorem dX6_length_36 : decode cX6_length 36 = .ok (.ireturn, 1) := by decide +kernel
theorem dX6_submit_0 : decode cX6_submit 0 = .ok (.iload_n 1, 1) := by decide +kernel
theorem dX6_submit_1 : decode cX6_submit 1 = .ok (.ifCond .lt 8, 3) := by decide +kernel
theorem dX6_submit_4 : decode cX6_submit 4 = .ok (.iload_n 1, 1) := by decide +kernel
theorem dX6_submit_5 : decode cX6_submit 5 = .ok (.iconst 3, 1) := by decide +kernel
theorem dX6_submit_6 : decode cX6_submit 6 = .ok (.if_icmp .le 6, 3) := by decide +kernel
theorem dX6_submit_9 : decode cX6_submit 9 = .ok (.bipush (-5), 2) := by decide +kernel
theorem dX6_submit_11 : decode cX6_submit 11 = .ok (.ireturn, 1) := by decide +kernel
theorem dX6_submit_12 : decode cX6_submit 12 = .ok (.iload_n 1, 1) := by decide +kernel
theorem dX6_submit_13 : decode cX6_submit 13 = .ok (.iconst 3, 1) := by decide +kernel
theorem dX6_submit_14 : decode cX6_submit 14 = .ok (.if_icmp .ne 7, 3) := by decide +kernel
theorem dX6_submit_17 : decode cX6_submit 17 = .ok (.iconst 1, 1) := by decide +kernel
theorem dX6_submit_18 : decode cX6_submit 18 = .ok (.goto 4, 3) := by decide +kernel
theorem dX6_submit_21 : decode cX6_submit 21 = .ok (.iconst 0, 1) := by decide +kernel
theorem dX6_submit_22 : decode cX6_submit 22 = .ok (.istore 5, 2) := by decide +kernel
theorem dX6_submit_24 : decode cX6_submit 24 = .ok (.aload_n 0, 1) := by decide +kernel
theorem dX6_submit_25 : decode cX6_submit 25 = .ok (.iload_n 2, 1) := by decide +kernel
theorem dX6_submit_26 : decode cX6_submit 26 = .ok (.invokevirtual 143, 3) := by decide +kernel
theorem dX6_submit_29 : decode cX6_submit 29 = .ok (.ifCond .eq 25, 3) := by decide +kernel
theorem dX6_submit_32 : decode cX6_submit 32 = .ok (.aload_n 0, 1) := by decide +kernel
theorem dX6_submit_33 : decode cX6_submit 33 = .ok (.iload_n 3, 1) := by decide +kernel
theorem dX6_submit_34 : decode cX6_submit 34 = .ok (.invokevirtual 143, 3) := by decide +kernel
theorem dX6_submit_37 : decode cX6_submit 37 = .ok (.ifCond .eq 17, 3) := by decide +kernel
theorem dX6_submit_40 : decode cX6_submit 40 = .ok (.iload 5, 2) := by decide +kernel
theorem dX6_submit_42 : decode cX6_submit 42 = .ok (.ifCond .eq 15, 3) := by decide +kernel
theorem dX6_submit_45 : decode cX6_submit 45 = .ok (.aload_n 0, 1) := by decide +kernel
theorem dX6_submit_46 : decode cX6_submit 46 = .ok (.iload 4, 2) := by decide +kernel
theorem dX6_submit_48 : decode cX6_submit 48 = .ok (.invokevirtual 143, 3) := by decide +kernel
theorem dX6_submit_51 : decode cX6_submit 51 = .ok (.ifCond .ne 6, 3) := by decide +kernel
theorem dX6_submit_54 : decode cX6_submit 54 = .ok (.bipush (-6), 2) := by decide +kernel
theorem dX6_submit_56 : decode cX6_submit 56 = .ok (.ireturn, 1) := by decide +kernel
theorem dX6_submit_57 : decode cX6_submit 57 = .ok (.iload_n 1, 1) := by decide +kernel
theorem dX6_submit_58 : decode cX6_submit 58 = .ok (.iconst 1, 1) := by decide +kernel
theorem dX6_submit_59 : decode cX6_submit 59 = .ok (.if_icmp .ne 11, 3) := by decide +kernel
theorem dX6_submit_62 : decode cX6_submit 62 = .ok (.aload_n 0, 1) := by decide +kernel
theorem dX6_submit_63 : decode cX6_submit 63 = .ok (.iload_n 3, 1) := by decide +kernel
theorem dX6_submit_64 : decode cX6_submit 64 = .ok (.invokevirtual 146, 3) := by decide +kernel
theorem dX6_submit_67 : decode cX6_submit 67 = .ok (.ifCond .eq 17, 3) := by decide +kernel
theorem dX6_submit_70 : decode cX6_submit 70 = .ok (.iload 5, 2) := by decide +kernel
theorem dX6_submit_72 : decode cX6_submit 72 = .ok (.ifCond .eq 15, 3) := by decide +kernel
theorem dX6_submit_75 : decode cX6_submit 75 = .ok (.aload_n 0, 1) := by decide +kernel
theorem dX6_submit_76 : decode cX6_submit 76 = .ok (.iload 4, 2) := by decide +kernel
theorem dX6_submit_78 : decode cX6_submit 78 = .ok (.invokevirtual 146, 3) := by decide +kernel
theorem dX6_submit_81 : decode cX6_submit 81 = .ok (.ifCond .ne 6, 3) := by decide +kernel
theorem dX6_submit_84 : decode cX6_submit 84 = .ok (.bipush (-7), 2) := by decide +kernel
theorem dX6_submit_86 : decode cX6_submit 86 = .ok (.ireturn, 1) := by decide +kernel
theorem dX6_submit_87 : decode cX6_submit 87 = .ok (.iconst 0, 1) := by decide +kernel
theorem dX6_submit_88 : decode cX6_submit 88 = .ok (.istore 6, 2) := by decide +kernel
theorem dX6_submit_90 : decode cX6_submit 90 = .ok (.iload 6, 2) := by decide +kernel
theorem dX6_submit_92 : decode cX6_submit 92 = .ok (.aload_n 0, 1) := by decide +kernel
theorem dX6_submit_93 : decode cX6_submit 93 = .ok (.getfield 89, 3) := by decide +kernel
theorem dX6_submit_96 : decode cX6_submit 96 = .ok (.if_icmp .ge 19, 3) := by decide +kernel
theorem dX6_submit_99 : decode cX6_submit 99 = .ok (.aload_n 0, 1) := by decide +kernel
theorem dX6_submit_100 : decode cX6_submit 100 = .ok (.getfield 35, 3) := by decide +kernel
theorem dX6_submit_103 : decode cX6_submit 103 = .ok (.iload 6, 2) := by decide +kernel
theorem dX6_submit_105 : decode cX6_submit 105 = .ok (.iaload, 1) := by decide +kernel
theorem dX6_submit_106 : decode cX6_submit 106 = .ok (.ifCond .lt 9, 3) := by decide +kernel
theorem dX6_submit_109 : decode cX6_submit 109 = .ok (.iinc 6 1, 3) := by decide +kernel
theorem dX6_submit_112 : decode cX6_submit 112 = .ok (.goto (-22), 3) := by decide +kernel
theorem dX6_submit_115 : decode cX6_submit 115 = .ok (.iload 6, 2) := by decide +kernel
theorem dX6_submit_117 : decode cX6_submit 117 = .ok (.aload_n 0, 1) := by decide +kernel
theorem dX6_submit_118 : decode cX6_submit 118 = .ok (.getfield 89, 3) := by decide +kernel
theorem dX6_submit_121 : decode cX6_submit 121 = .ok (.if_icmp .ne 6, 3) := by decide +kernel
theorem dX6_submit_124 : decode cX6_submit 124 = .ok (.bipush (-8), 2) := by decide +kernel
theorem dX6_submit_126 : decode cX6_submit 126 = .ok (.ireturn, 1) := by decide +kernel
theorem dX6_submit_127 : decode cX6_submit 127 = .ok (.aload_n 0, 1) := by decide +kernel
theorem dX6_submit_128 : decode cX6_submit 128 = .ok (.getfield 35, 3) := by decide +kernel
theorem dX6_submit_131 : decode cX6_submit 131 = .ok (.iload 6, 2) := by decide +kernel
theorem dX6_submit_133 : decode cX6_submit 133 = .ok (.iconst 0, 1) := by decide +kernel
theorem dX6_submit_134 : decode cX6_submit 134 = .ok (.iastore, 1) := by decide +kernel
theorem dX6_submit_135 : decode cX6_submit 135 = .ok (.aload_n 0, 1) := by decide +kernel
theorem dX6_submit_136 : decode cX6_submit 136 = .ok (.getfield 38, 3) := by decide +kernel
theorem dX6_submit_139 : decode cX6_submit 139 = .ok (.iload 6, 2) := by decide +kernel
theorem dX6_submit_141 : decode cX6_submit 141 = .ok (.iload_n 1, 1) := by decide +kernel
theorem dX6_submit_142 : decode cX6_submit 142 = .ok (.iastore, 1) := by decide +kernel
theorem dX6_submit_143 : decode cX6_submit 143 = .ok (.aload_n 0, 1) := by decide +kernel
theorem dX6_submit_144 : decode cX6_submit 144 = .ok (.getfield 41, 3) := by decide +kernel
theorem dX6_submit_147 : decode cX6_submit 147 = .ok (.iload 6, 2) := by decide +kernel
theorem dX6_submit_149 : decode cX6_submit 149 = .ok (.iload_n 2, 1) := by decide +kernel
theorem dX6_submit_150 : decode cX6_submit 150 = .ok (.iastore, 1) := by decide +kernel
theorem dX6_submit_151 : decode cX6_submit 151 = .ok (.aload_n 0, 1) := by decide +kernel
theorem dX6_submit_152 : decode cX6_submit 152 = .ok (.getfield 44, 3) := by decide +kernel
theorem dX6_submit_155 : decode cX6_submit 155 = .ok (.iload 6, 2) := by decide +kernel
theorem dX6_submit_157 : decode cX6_submit 157 = .ok (.iload_n 3, 1) := by decide +kernel
theorem dX6_submit_158 : decode cX6_submit 158 = .ok (.iastore, 1) := by decide +kernel
theorem dX6_submit_159 : decode cX6_submit 159 = .ok (.aload_n 0, 1) := by decide +kernel
theorem dX6_submit_160 : decode cX6_submit 160 = .ok (.getfield 47, 3) := by decide +kernel
theorem dX6_submit_163 : decode cX6_submit 163 = .ok (.iload 6, 2) := by decide +kernel
theorem dX6_submit_165 : decode cX6_submit 165 = .ok (.iload 5, 2) := by decide +kernel
theorem dX6_submit_167 : decode cX6_submit 167 = .ok (.ifCond .eq 8, 3) := by decide +kernel
theorem dX6_submit_170 : decode cX6_submit 170 = .ok (.iload 4, 2) := by decide +kernel
theorem dX6_submit_172 : decode cX6_submit 172 = .ok (.goto 4, 3) := by decide +kernel
theorem dX6_submit_175 : decode cX6_submit 175 = .ok (.iconst (-1), 1) := by decide +kernel
theorem dX6_submit_176 : decode cX6_submit 176 = .ok (.iastore, 1) := by decide +kernel
theorem dX6_submit_177 : decode cX6_submit 177 = .ok (.aload_n 0, 1) := by decide +kernel
theorem dX6_submit_178 : decode cX6_submit 178 = .ok (.getfield 54, 3) := by decide +kernel
theorem dX6_submit_181 : decode cX6_submit 181 = .ok (.iload 6, 2) := by decide +kernel
theorem dX6_submit_183 : decode cX6_submit 183 = .ok (.iconst (-1), 1) := by decide +kernel
theorem dX6_submit_184 : decode cX6_submit 184 = .ok (.iastore, 1) := by decide +kernel
theorem dX6_submit_185 : decode cX6_submit 185 = .ok (.aload_n 0, 1) := by decide +kernel
theorem dX6_submit_186 : decode cX6_submit 186 = .ok (.getfield 60, 3) := by decide +kernel
theorem dX6_submit_189 : decode cX6_submit 189 = .ok (.iload 6, 2) := by decide +kernel
theorem dX6_submit_191 : decode cX6_submit 191 = .ok (.iconst (-1), 1) := by decide +kernel
theorem dX6_submit_192 : decode cX6_submit 192 = .ok (.iastore, 1) := by decide +kernel
theorem dX6_submit_193 : decode cX6_submit 193 = .ok (.aload_n 0, 1) := by decide +kernel
theorem dX6_submit_194 : decode cX6_submit 194 = .ok (.getfield 20, 3) := by decide +kernel
theorem dX6_submit_197 : decode cX6_submit 197 = .ok (.iload_n 2, 1) := by decide +kernel
theorem dX6_submit_198 : decode cX6_submit 198 = .ok (.iaload, 1) := by decide +kernel
theorem dX6_submit_199 : decode cX6_submit 199 = .ok (.i2l, 1) := by decide +kernel
theorem dX6_submit_200 : decode cX6_submit 200 = .ok (.lstore 7, 2) := by decide +kernel
theorem dX6_submit_202 : decode cX6_submit 202 = .ok (.aload_n 0, 1) := by decide +kernel
theorem dX6_submit_203 : decode cX6_submit 203 = .ok (.getfield 20, 3) := by decide +kernel
theorem dX6_submit_206 : decode cX6_submit 206 = .ok (.iload_n 3, 1) := by decide +kernel
theorem dX6_submit_207 : decode cX6_submit 207 = .ok (.iaload, 1) := by decide +kernel
theorem dX6_submit_208 : decode cX6_submit 208 = .ok (.i2l, 1) := by decide +kernel
theorem dX6_submit_209 : decode cX6_submit 209 = .ok (.lstore 9, 2) := by decide +kernel
theorem dX6_submit_211 : decode cX6_submit 211 = .ok (.iload 5, 2) := by decide +kernel
theorem dX6_submit_213 : decode cX6_submit 213 = .ok (.ifCond .eq 14, 3) := by decide +kernel
theorem dX6_submit_216 : decode cX6_submit 216 = .ok (.aload_n 0, 1) := by decide +kernel
theorem dX6_submit_217 : decode cX6_submit 217 = .ok (.getfield 20, 3) := by decide +kernel
theorem dX6_submit_220 : decode cX6_submit 220 = .ok (.iload 4, 2) := by decide +kernel
theorem dX6_submit_222 : decode cX6_submit 222 = .ok (.iaload, 1) := by decide +kernel
theorem dX6_submit_223 : decode cX6_submit 223 = .ok (.i2l, 1) := by decide +kernel
theorem dX6_submit_224 : decode cX6_submit 224 = .ok (.goto 4, 3) := by decide +kernel
theorem dX6_submit_227 : decode cX6_submit 227 = .ok (.lconst 0, 1) := by decide +kernel
theorem dX6_submit_228 : decode cX6_submit 228 = .ok (.lstore 11, 2) := by decide +kernel
theorem dX6_submit_230 : decode cX6_submit 230 = .ok (.aload_n 0, 1) := by decide +kernel
theorem dX6_submit_231 : decode cX6_submit 231 = .ok (.getfield 50, 3) := by decide +kernel
theorem dX6_submit_234 : decode cX6_submit 234 = .ok (.iload 6, 2) := by decide +kernel
theorem dX6_submit_236 : decode cX6_submit 236 = .ok (.iload_n 1, 1) := by decide +kernel
theorem dX6_submit_237 : decode cX6_submit 237 = .ok (.ifCond .ne 11, 3) := by decide +kernel
theorem dX6_submit_240 : decode cX6_submit 240 = .ok (.lload 7, 2) := by decide +kernel
theorem dX6_submit_242 : decode cX6_submit 242 = .ok (.lload 9, 2) := by decide +kernel
theorem dX6_submit_244 : decode cX6_submit 244 = .ok (.lmul, 1) := by decide +kernel
theorem dX6_submit_245 : decode cX6_submit 245 = .ok (.goto 67, 3) := by decide +kernel
theorem dX6_submit_248 : decode cX6_submit 248 = .ok (.iload_n 1, 1) := by decide +kernel
theorem dX6_submit_249 : decode cX6_submit 249 = .ok (.iconst 1, 1) := by decide +kernel
theorem dX6_submit_250 : decode cX6_submit 250 = .ok (.if_icmp .ne 17, 3) := by decide +kernel
theorem dX6_submit_253 : decode cX6_submit 253 = .ok (.ldc2_w 149, 3) := by decide +kernel
theorem dX6_submit_256 : decode cX6_submit 256 = .ok (.lload 7, 2) := by decide +kernel
theorem dX6_submit_258 : decode cX6_submit 258 = .ok (.lmul, 1) := by decide +kernel
theorem dX6_submit_259 : decode cX6_submit 259 = .ok (.lload 9, 2) := by decide +kernel
theorem dX6_submit_261 : decode cX6_submit 261 = .ok (.lconst 1, 1) := by decide +kernel
theorem dX6_submit_262 : decode cX6_submit 262 = .ok (.ladd, 1) := by decide +kernel
theorem dX6_submit_263 : decode cX6_submit 263 = .ok (.lmul, 1) := by decide +kernel
theorem dX6_submit_264 : decode cX6_submit 264 = .ok (.goto 48, 3) := by decide +kernel
theorem dX6_submit_267 : decode cX6_submit 267 = .ok (.iload_n 1, 1) := by decide +kernel
theorem dX6_submit_268 : decode cX6_submit 268 = .ok (.iconst 2, 1) := by decide +kernel
theorem dX6_submit_269 : decode cX6_submit 269 = .ok (.if_icmp .ne 21, 3) := by decide +kernel
theorem dX6_submit_272 : decode cX6_submit 272 = .ok (.ldc2_w 149, 3) := by decide +kernel
theorem dX6_submit_275 : decode cX6_submit 275 = .ok (.lload 7, 2) := by decide +kernel
theorem dX6_submit_277 : decode cX6_submit 277 = .ok (.lload 9, 2) := by decide +kernel
theorem dX6_submit_279 : decode cX6_submit 279 = .ok (.ladd, 1) := by decide +kernel
theorem dX6_submit_280 : decode cX6_submit 280 = .ok (.lmul, 1) := by decide +kernel
theorem dX6_submit_281 : decode cX6_submit 281 = .ok (.lload 7, 2) := by decide +kernel
theorem dX6_submit_283 : decode cX6_submit 283 = .ok (.lload 9, 2) := by decide +kernel
theorem dX6_submit_285 : decode cX6_submit 285 = .ok (.ladd, 1) := by decide +kernel
theorem dX6_submit_286 : decode cX6_submit 286 = .ok (.lmul, 1) := by decide +kernel
theorem dX6_submit_287 : decode cX6_submit 287 = .ok (.goto 25, 3) := by decide +kernel
theorem dX6_submit_290 : decode cX6_submit 290 = .ok (.ldc2_w 149, 3) := by decide +kernel
theorem dX6_submit_293 : decode cX6_submit 293 = .ok (.lload 7, 2) := by decide +kernel
theorem dX6_submit_295 : decode cX6_submit 295 = .ok (.lmul, 1) := by decide +kernel
theorem dX6_submit_296 : decode cX6_submit 296 = .ok (.lload 11, 2) := by decide +kernel
theorem dX6_submit_298 : decode cX6_submit 298 = .ok (.lmul, 1) := by decide +kernel
theorem dX6_submit_299 : decode cX6_submit 299 = .ok (.ldc2_w 151, 3) := by decide +kernel
theorem dX6_submit_302 : decode cX6_submit 302 = .ok (.lload 9, 2) := by decide +kernel
theorem dX6_submit_304 : decode cX6_submit 304 = .ok (.lmul, 1) := by decide +kernel
theorem dX6_submit_305 : decode cX6_submit 305 = .ok (.lload 11, 2) := by decide +kernel
theorem dX6_submit_307 : decode cX6_submit 307 = .ok (.lmul, 1) := by decide +kernel
theorem dX6_submit_308 : decode cX6_submit 308 = .ok (.lload 11, 2) := by decide +kernel
theorem dX6_submit_310 : decode cX6_submit 310 = .ok (.lmul, 1) := by decide +kernel
theorem dX6_submit_311 : decode cX6_submit 311 = .ok (.ladd, 1) := by decide +kernel
theorem dX6_submit_312 : decode cX6_submit 312 = .ok (.lastore, 1) := by decide +kernel
theorem dX6_submit_313 : decode cX6_submit 313 = .ok (.aload_n 0, 1) := by decide +kernel
theorem dX6_submit_314 : decode cX6_submit 314 = .ok (.getfield 29, 3) := by decide +kernel
theorem dX6_submit_317 : decode cX6_submit 317 = .ok (.iload_n 2, 1) := by decide +kernel
theorem dX6_submit_318 : decode cX6_submit 318 = .ok (.dup2, 1) := by decide +kernel
theorem dX6_submit_319 : decode cX6_submit 319 = .ok (.iaload, 1) := by decide +kernel
theorem dX6_submit_320 : decode cX6_submit 320 = .ok (.iconst 1, 1) := by decide +kernel
theorem dX6_submit_321 : decode cX6_submit 321 = .ok (.iadd, 1) := by decide +kernel
theorem dX6_submit_322 : decode cX6_submit 322 = .ok (.iastore, 1) := by decide +kernel
theorem dX6_submit_323 : decode cX6_submit 323 = .ok (.aload_n 0, 1) := by decide +kernel
theorem dX6_submit_324 : decode cX6_submit 324 = .ok (.getfield 29, 3) := by decide +kernel
theorem dX6_submit_327 : decode cX6_submit 327 = .ok (.iload_n 3, 1) := by decide +kernel
theorem dX6_submit_328 : decode cX6_submit 328 = .ok (.dup2, 1) := by decide +kernel
theorem dX6_submit_329 : decode cX6_submit 329 = .ok (.iaload, 1) := by decide +kernel
theorem dX6_submit_330 : decode cX6_submit 330 = .ok (.iconst 1, 1) := by decide +kernel
theorem dX6_submit_331 : decode cX6_submit 331 = .ok (.iadd, 1) := by decide +kernel
theorem dX6_submit_332 : decode cX6_submit 332 = .ok (.iastore, 1) := by decide +kernel
theorem dX6_submit_333 : decode cX6_submit 333 = .ok (.iload 5, 2) := by decide +kernel
theorem dX6_submit_335 : decode cX6_submit 335 = .ok (.ifCond .eq 14, 3) := by decide +kernel
theorem dX6_submit_338 : decode cX6_submit 338 = .ok (.aload_n 0, 1) := by decide +kernel
theorem dX6_submit_339 : decode cX6_submit 339 = .ok (.getfield 29, 3) := by decide +kernel
theorem dX6_submit_342 : decode cX6_submit 342 = .ok (.iload 4, 2) := by decide +kernel
theorem dX6_submit_344 : decode cX6_submit 344 = .ok (.dup2, 1) := by decide +kernel
theorem dX6_submit_345 : decode cX6_submit 345 = .ok (.iaload, 1) := by decide +kernel
theorem dX6_submit_346 : decode cX6_submit 346 = .ok (.iconst 1, 1) := by decide +kernel
theorem dX6_submit_347 : decode cX6_submit 347 = .ok (.iadd, 1) := by decide +kernel
theorem dX6_submit_348 : decode cX6_submit 348 = .ok (.iastore, 1) := by decide +kernel
theorem dX6_submit_349 : decode cX6_submit 349 = .ok (.aload_n 0, 1) := by decide +kernel
theorem dX6_submit_350 : decode cX6_submit 350 = .ok (.getfield 63, 3) := by decide +kernel
theorem dX6_submit_353 : decode cX6_submit 353 = .ok (.aload_n 0, 1) := by decide +kernel
theorem dX6_submit_354 : decode cX6_submit 354 = .ok (.getfield 101, 3) := by decide +kernel
theorem dX6_submit_357 : decode cX6_submit 357 = .ok (.iload 6, 2) := by decide +kernel
theorem dX6_submit_359 : decode cX6_submit 359 = .ok (.iastore, 1) := by decide +kernel
theorem dX6_submit_360 : decode cX6_submit 360 = .ok (.aload_n 0, 1) := by decide +kernel
theorem dX6_submit_361 : decode cX6_submit 361 = .ok (.dup, 1) := by decide +kernel
theorem dX6_submit_362 : decode cX6_submit 362 = .ok (.getfield 101, 3) := by decide +kernel
theorem dX6_submit_365 : decode cX6_submit 365 = .ok (.iconst 1, 1) := by decide +kernel
theorem dX6_submit_366 : decode cX6_submit 366 = .ok (.iadd, 1) := by decide +kernel
theorem dX6_submit_367 : decode cX6_submit 367 = .ok (.putfield 101, 3) := by decide +kernel
theorem dX6_submit_370 : decode cX6_submit 370 = .ok (.iload 6, 2) := by decide +kernel
theorem dX6_submit_372 : decode cX6_submit 372 = .ok (.ireturn, 1) := by decide +kernel
theorem dX6_resultSize_0 : decode cX6_resultSize 0 = .ok (.aload_n 0, 1) := by decide +kernel
theorem dX6_resultSize_1 : decode cX6_resultSize 1 = .ok (.getfield 20, 3) := by decide +kernel
theorem dX6_resultSize_4 : decode cX6_resultSize 4 = .ok (.aload_n 0, 1) := by decide +kernel
theorem dX6_resultSize_5 : decode cX6_resultSize 5 = .ok (.getfield 41, 3) := by decide +kernel
theorem dX6_resultSize_8 : decode cX6_resultSize 8 = .ok (.iload_n 1, 1) := by decide +kernel
theorem dX6_resultSize_9 : decode cX6_resultSize 9 = .ok (.iaload, 1) := by decide +kernel
theorem dX6_resultSize_10 : decode cX6_resultSize 10 = .ok (.iaload, 1) := by decide +kernel
theorem dX6_resultSize_11 : decode cX6_resultSize 11 = .ok (.istore_n 2, 1) := by decide +kernel
theorem dX6_resultSize_12 : decode cX6_resultSize 12 = .ok (.aload_n 0, 1) := by decide +kernel
theorem dX6_resultSize_13 : decode cX6_resultSize 13 = .ok (.getfield 20, 3) := by decide +kernel
theorem dX6_resultSize_16 : decode cX6_resultSize 16 = .ok (.aload_n 0, 1) := by decide +kernel
theorem dX6_resultSize_17 : decode cX6_resultSize 17 = .ok (.getfield 44, 3) := by decide +kernel
theorem dX6_resultSize_20 : decode cX6_resultSize 20 = .ok (.iload_n 1, 1) := by decide +kernel
theorem dX6_resultSize_21 : decode cX6_resultSize 21 = .ok (.iaload, 1) := by decide +kernel
theorem dX6_resultSize_22 : decode cX6_resultSize 22 = .ok (.iaload, 1) := by decide +kernel
theorem dX6_resultSize_23 : decode cX6_resultSize 23 = .ok (.istore_n 3, 1) := by decide +kernel
theorem dX6_resultSize_24 : decode cX6_resultSize 24 = .ok (.aload_n 0, 1) := by decide +kernel
theorem dX6_resultSize_25 : decode cX6_resultSize 25 = .ok (.getfield 38, 3) := by decide +kernel
theorem dX6_resultSize_28 : decode cX6_resultSize 28 = .ok (.iload_n 1, 1) := by decide +kernel
theorem dX6_resultSize_29 : decode cX6_resultSize 29 = .ok (.iaload, 1) := by decide +kernel
theorem dX6_resultSize_30 : decode cX6_resultSize 30 = .ok (.ifCond .ne 9, 3) := by decide +kernel
theorem dX6_resultSize_33 : decode cX6_resultSize 33 = .ok (.iload_n 2, 1) := by decide +kernel
theorem dX6_resultSize_34 : decode cX6_resultSize 34 = .ok (.iload_n 3, 1) := by decide +kernel
theorem dX6_resultSize_35 : decode cX6_resultSize 35 = .ok (.iadd, 1) := by decide +kernel
theorem dX6_resultSize_36 : decode cX6_resultSize 36 = .ok (.goto 51, 3) := by decide +kernel
theorem dX6_resultSize_39 : decode cX6_resultSize 39 = .ok (.aload_n 0, 1) := by decide +kernel
theorem dX6_resultSize_40 : decode cX6_resultSize 40 = .ok (.getfield 38, 3) := by decide +kernel
theorem dX6_resultSize_43 : decode cX6_resultSize 43 = .ok (.iload_n 1, 1) := by decide +kernel
theorem dX6_resultSize_44 : decode cX6_resultSize 44 = .ok (.iaload, 1) := by decide +kernel
theorem dX6_resultSize_45 : decode cX6_resultSize 45 = .ok (.iconst 1, 1) := by decide +kernel
theorem dX6_resultSize_46 : decode cX6_resultSize 46 = .ok (.if_icmp .ne 7, 3) := by decide +kernel
theorem dX6_resultSize_49 : decode cX6_resultSize 49 = .ok (.iload_n 2, 1) := by decide +kernel
theorem dX6_resultSize_50 : decode cX6_resultSize 50 = .ok (.goto 37, 3) := by decide +kernel
theorem dX6_resultSize_53 : decode cX6_resultSize 53 = .ok (.aload_n 0, 1) := by decide +kernel
theorem dX6_resultSize_54 : decode cX6_resultSize 54 = .ok (.getfield 38, 3) := by decide +kernel
theorem dX6_resultSize_57 : decode cX6_resultSize 57 = .ok (.iload_n 1, 1) := by decide +kernel
theorem dX6_resultSize_58 : decode cX6_resultSize 58 = .ok (.iaload, 1) := by decide +kernel

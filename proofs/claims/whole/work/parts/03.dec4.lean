theorem dX6_resultSize_59 : decode cX6_resultSize 59 = .ok (.iconst 2, 1) := by decide +kernel
theorem dX6_resultSize_60 : decode cX6_resultSize 60 = .ok (.if_icmp .ne 16, 3) := by decide +kernel
theorem dX6_resultSize_63 : decode cX6_resultSize 63 = .ok (.iload_n 2, 1) := by decide +kernel
theorem dX6_resultSize_64 : decode cX6_resultSize 64 = .ok (.iload_n 3, 1) := by decide +kernel
theorem dX6_resultSize_65 : decode cX6_resultSize 65 = .ok (.if_icmp .le 7, 3) := by decide +kernel
theorem dX6_resultSize_68 : decode cX6_resultSize 68 = .ok (.iload_n 2, 1) := by decide +kernel
theorem dX6_resultSize_69 : decode cX6_resultSize 69 = .ok (.goto 18, 3) := by decide +kernel
theorem dX6_resultSize_72 : decode cX6_resultSize 72 = .ok (.iload_n 3, 1) := by decide +kernel
theorem dX6_resultSize_73 : decode cX6_resultSize 73 = .ok (.goto 14, 3) := by decide +kernel
theorem dX6_resultSize_76 : decode cX6_resultSize 76 = .ok (.aload_n 0, 1) := by decide +kernel
theorem dX6_resultSize_77 : decode cX6_resultSize 77 = .ok (.getfield 20, 3) := by decide +kernel
theorem dX6_resultSize_80 : decode cX6_resultSize 80 = .ok (.aload_n 0, 1) := by decide +kernel
theorem dX6_resultSize_81 : decode cX6_resultSize 81 = .ok (.getfield 47, 3) := by decide +kernel
theorem dX6_resultSize_84 : decode cX6_resultSize 84 = .ok (.iload_n 1, 1) := by decide +kernel
theorem dX6_resultSize_85 : decode cX6_resultSize 85 = .ok (.iaload, 1) := by decide +kernel
theorem dX6_resultSize_86 : decode cX6_resultSize 86 = .ok (.iaload, 1) := by decide +kernel
theorem dX6_resultSize_87 : decode cX6_resultSize 87 = .ok (.ireturn, 1) := by decide +kernel
theorem dX6_roomSize_0 : decode cX6_roomSize 0 = .ok (.aload_n 0, 1) := by decide +kernel
theorem dX6_roomSize_1 : decode cX6_roomSize 1 = .ok (.getfield 20, 3) := by decide +kernel
theorem dX6_roomSize_4 : decode cX6_roomSize 4 = .ok (.aload_n 0, 1) := by decide +kernel
theorem dX6_roomSize_5 : decode cX6_roomSize 5 = .ok (.getfield 41, 3) := by decide +kernel
theorem dX6_roomSize_8 : decode cX6_roomSize 8 = .ok (.iload_n 1, 1) := by decide +kernel
theorem dX6_roomSize_9 : decode cX6_roomSize 9 = .ok (.iaload, 1) := by decide +kernel
theorem dX6_roomSize_10 : decode cX6_roomSize 10 = .ok (.iaload, 1) := by decide +kernel
theorem dX6_roomSize_11 : decode cX6_roomSize 11 = .ok (.istore_n 2, 1) := by decide +kernel
theorem dX6_roomSize_12 : decode cX6_roomSize 12 = .ok (.aload_n 0, 1) := by decide +kernel
theorem dX6_roomSize_13 : decode cX6_roomSize 13 = .ok (.getfield 20, 3) := by decide +kernel
theorem dX6_roomSize_16 : decode cX6_roomSize 16 = .ok (.aload_n 0, 1) := by decide +kernel
theorem dX6_roomSize_17 : decode cX6_roomSize 17 = .ok (.getfield 44, 3) := by decide +kernel
theorem dX6_roomSize_20 : decode cX6_roomSize 20 = .ok (.iload_n 1, 1) := by decide +kernel
theorem dX6_roomSize_21 : decode cX6_roomSize 21 = .ok (.iaload, 1) := by decide +kernel
theorem dX6_roomSize_22 : decode cX6_roomSize 22 = .ok (.iaload, 1) := by decide +kernel
theorem dX6_roomSize_23 : decode cX6_roomSize 23 = .ok (.istore_n 3, 1) := by decide +kernel
theorem dX6_roomSize_24 : decode cX6_roomSize 24 = .ok (.aload_n 0, 1) := by decide +kernel
theorem dX6_roomSize_25 : decode cX6_roomSize 25 = .ok (.getfield 38, 3) := by decide +kernel
theorem dX6_roomSize_28 : decode cX6_roomSize 28 = .ok (.iload_n 1, 1) := by decide +kernel
theorem dX6_roomSize_29 : decode cX6_roomSize 29 = .ok (.iaload, 1) := by decide +kernel
theorem dX6_roomSize_30 : decode cX6_roomSize 30 = .ok (.ifCond .ne 7, 3) := by decide +kernel
theorem dX6_roomSize_33 : decode cX6_roomSize 33 = .ok (.iconst 0, 1) := by decide +kernel
theorem dX6_roomSize_34 : decode cX6_roomSize 34 = .ok (.goto 54, 3) := by decide +kernel
theorem dX6_roomSize_37 : decode cX6_roomSize 37 = .ok (.aload_n 0, 1) := by decide +kernel
theorem dX6_roomSize_38 : decode cX6_roomSize 38 = .ok (.getfield 38, 3) := by decide +kernel
theorem dX6_roomSize_41 : decode cX6_roomSize 41 = .ok (.iload_n 1, 1) := by decide +kernel
theorem dX6_roomSize_42 : decode cX6_roomSize 42 = .ok (.iaload, 1) := by decide +kernel
theorem dX6_roomSize_43 : decode cX6_roomSize 43 = .ok (.iconst 1, 1) := by decide +kernel
theorem dX6_roomSize_44 : decode cX6_roomSize 44 = .ok (.if_icmp .ne 11, 3) := by decide +kernel
theorem dX6_roomSize_47 : decode cX6_roomSize 47 = .ok (.iload_n 2, 1) := by decide +kernel
theorem dX6_roomSize_48 : decode cX6_roomSize 48 = .ok (.iload_n 3, 1) := by decide +kernel
theorem dX6_roomSize_49 : decode cX6_roomSize 49 = .ok (.iadd, 1) := by decide +kernel
theorem dX6_roomSize_50 : decode cX6_roomSize 50 = .ok (.iconst 1, 1) := by decide +kernel
theorem dX6_roomSize_51 : decode cX6_roomSize 51 = .ok (.iadd, 1) := by decide +kernel
theorem dX6_roomSize_52 : decode cX6_roomSize 52 = .ok (.goto 36, 3) := by decide +kernel
theorem dX6_roomSize_55 : decode cX6_roomSize 55 = .ok (.aload_n 0, 1) := by decide +kernel
theorem dX6_roomSize_56 : decode cX6_roomSize 56 = .ok (.getfield 38, 3) := by decide +kernel
theorem dX6_roomSize_59 : decode cX6_roomSize 59 = .ok (.iload_n 1, 1) := by decide +kernel
theorem dX6_roomSize_60 : decode cX6_roomSize 60 = .ok (.iaload, 1) := by decide +kernel
theorem dX6_roomSize_61 : decode cX6_roomSize 61 = .ok (.iconst 2, 1) := by decide +kernel
theorem dX6_roomSize_62 : decode cX6_roomSize 62 = .ok (.if_icmp .ne 11, 3) := by decide +kernel
theorem dX6_roomSize_65 : decode cX6_roomSize 65 = .ok (.iconst 2, 1) := by decide +kernel
theorem dX6_roomSize_66 : decode cX6_roomSize 66 = .ok (.iload_n 2, 1) := by decide +kernel
theorem dX6_roomSize_67 : decode cX6_roomSize 67 = .ok (.iload_n 3, 1) := by decide +kernel
theorem dX6_roomSize_68 : decode cX6_roomSize 68 = .ok (.iadd, 1) := by decide +kernel
theorem dX6_roomSize_69 : decode cX6_roomSize 69 = .ok (.imul, 1) := by decide +kernel
theorem dX6_roomSize_70 : decode cX6_roomSize 70 = .ok (.goto 18, 3) := by decide +kernel
theorem dX6_roomSize_73 : decode cX6_roomSize 73 = .ok (.iconst 3, 1) := by decide +kernel
theorem dX6_roomSize_74 : decode cX6_roomSize 74 = .ok (.aload_n 0, 1) := by decide +kernel
theorem dX6_roomSize_75 : decode cX6_roomSize 75 = .ok (.getfield 20, 3) := by decide +kernel
theorem dX6_roomSize_78 : decode cX6_roomSize 78 = .ok (.aload_n 0, 1) := by decide +kernel
theorem dX6_roomSize_79 : decode cX6_roomSize 79 = .ok (.getfield 47, 3) := by decide +kernel
theorem dX6_roomSize_82 : decode cX6_roomSize 82 = .ok (.iload_n 1, 1) := by decide +kernel
theorem dX6_roomSize_83 : decode cX6_roomSize 83 = .ok (.iaload, 1) := by decide +kernel
theorem dX6_roomSize_84 : decode cX6_roomSize 84 = .ok (.iaload, 1) := by decide +kernel
theorem dX6_roomSize_85 : decode cX6_roomSize 85 = .ok (.imul, 1) := by decide +kernel
theorem dX6_roomSize_86 : decode cX6_roomSize 86 = .ok (.iconst 1, 1) := by decide +kernel
theorem dX6_roomSize_87 : decode cX6_roomSize 87 = .ok (.iadd, 1) := by decide +kernel
theorem dX6_roomSize_88 : decode cX6_roomSize 88 = .ok (.ireturn, 1) := by decide +kernel
theorem dX6_start_0 : decode cX6_start 0 = .ok (.aload_n 0, 1) := by decide +kernel
theorem dX6_start_1 : decode cX6_start 1 = .ok (.iload_n 1, 1) := by decide +kernel
theorem dX6_start_2 : decode cX6_start 2 = .ok (.invokevirtual 153, 3) := by decide +kernel
theorem dX6_start_5 : decode cX6_start 5 = .ok (.istore_n 2, 1) := by decide +kernel
theorem dX6_start_6 : decode cX6_start 6 = .ok (.aload_n 0, 1) := by decide +kernel
theorem dX6_start_7 : decode cX6_start 7 = .ok (.iload_n 1, 1) := by decide +kernel
theorem dX6_start_8 : decode cX6_start 8 = .ok (.invokevirtual 156, 3) := by decide +kernel
theorem dX6_start_11 : decode cX6_start 11 = .ok (.istore_n 3, 1) := by decide +kernel
theorem dX6_start_12 : decode cX6_start 12 = .ok (.aload_n 0, 1) := by decide +kernel
theorem dX6_start_13 : decode cX6_start 13 = .ok (.invokevirtual 121, 3) := by decide +kernel
theorem dX6_start_16 : decode cX6_start 16 = .ok (.istore 4, 2) := by decide +kernel
theorem dX6_start_18 : decode cX6_start 18 = .ok (.iload 4, 2) := by decide +kernel
theorem dX6_start_20 : decode cX6_start 20 = .ok (.ifCond .ge 4, 3) := by decide +kernel
theorem dX6_start_23 : decode cX6_start 23 = .ok (.return_, 1) := by decide +kernel
theorem dX6_start_24 : decode cX6_start 24 = .ok (.iload_n 2, 1) := by decide +kernel
theorem dX6_start_25 : decode cX6_start 25 = .ok (.invokestatic 117, 3) := by decide +kernel
theorem dX6_start_28 : decode cX6_start 28 = .ok (.aload_n 0, 1) := by decide +kernel
theorem dX6_start_29 : decode cX6_start 29 = .ok (.getfield 85, 3) := by decide +kernel
theorem dX6_start_32 : decode cX6_start 32 = .ok (.if_icmp .le 7, 3) := by decide +kernel
theorem dX6_start_35 : decode cX6_start 35 = .ok (.iconst (-1), 1) := by decide +kernel
theorem dX6_start_36 : decode cX6_start 36 = .ok (.goto 11, 3) := by decide +kernel
theorem dX6_start_39 : decode cX6_start 39 = .ok (.aload_n 0, 1) := by decide +kernel
theorem dX6_start_40 : decode cX6_start 40 = .ok (.iload_n 2, 1) := by decide +kernel
theorem dX6_start_41 : decode cX6_start 41 = .ok (.invokestatic 117, 3) := by decide +kernel
theorem dX6_start_44 : decode cX6_start 44 = .ok (.invokevirtual 124, 3) := by decide +kernel
theorem dX6_start_47 : decode cX6_start 47 = .ok (.istore 5, 2) := by decide +kernel
theorem dX6_start_49 : decode cX6_start 49 = .ok (.iload 5, 2) := by decide +kernel
theorem dX6_start_51 : decode cX6_start 51 = .ok (.ifCond .ge 4, 3) := by decide +kernel
theorem dX6_start_54 : decode cX6_start 54 = .ok (.return_, 1) := by decide +kernel
theorem dX6_start_55 : decode cX6_start 55 = .ok (.iload_n 3, 1) := by decide +kernel
theorem dX6_start_56 : decode cX6_start 56 = .ok (.ifCond .le 62, 3) := by decide +kernel
theorem dX6_start_59 : decode cX6_start 59 = .ok (.iload_n 3, 1) := by decide +kernel
theorem dX6_start_60 : decode cX6_start 60 = .ok (.invokestatic 117, 3) := by decide +kernel
theorem dX6_start_63 : decode cX6_start 63 = .ok (.aload_n 0, 1) := by decide +kernel
theorem dX6_start_64 : decode cX6_start 64 = .ok (.getfield 85, 3) := by decide +kernel
theorem dX6_start_67 : decode cX6_start 67 = .ok (.if_icmp .le 7, 3) := by decide +kernel
theorem dX6_start_70 : decode cX6_start 70 = .ok (.iconst (-1), 1) := by decide +kernel
theorem dX6_start_71 : decode cX6_start 71 = .ok (.goto 11, 3) := by decide +kernel
theorem dX6_start_74 : decode cX6_start 74 = .ok (.aload_n 0, 1) := by decide +kernel
theorem dX6_start_75 : decode cX6_start 75 = .ok (.iload_n 3, 1) := by decide +kernel
theorem dX6_start_76 : decode cX6_start 76 = .ok (.invokestatic 117, 3) := by decide +kernel
theorem dX6_start_79 : decode cX6_start 79 = .ok (.invokevirtual 124, 3) := by decide +kernel
theorem dX6_start_82 : decode cX6_start 82 = .ok (.istore 6, 2) := by decide +kernel
theorem dX6_start_84 : decode cX6_start 84 = .ok (.iload 6, 2) := by decide +kernel
theorem dX6_start_86 : decode cX6_start 86 = .ok (.ifCond .ge 14, 3) := by decide +kernel
theorem dX6_start_89 : decode cX6_start 89 = .ok (.aload_n 0, 1) := by decide +kernel
theorem dX6_start_90 : decode cX6_start 90 = .ok (.iload 5, 2) := by decide +kernel
theorem dX6_start_92 : decode cX6_start 92 = .ok (.iload_n 2, 1) := by decide +kernel
theorem dX6_start_93 : decode cX6_start 93 = .ok (.invokestatic 117, 3) := by decide +kernel
theorem dX6_start_96 : decode cX6_start 96 = .ok (.invokevirtual 135, 3) := by decide +kernel
theorem dX6_start_99 : decode cX6_start 99 = .ok (.return_, 1) := by decide +kernel
theorem dX6_start_100 : decode cX6_start 100 = .ok (.aload_n 0, 1) := by decide +kernel
theorem dX6_start_101 : decode cX6_start 101 = .ok (.getfield 57, 3) := by decide +kernel
theorem dX6_start_104 : decode cX6_start 104 = .ok (.iload_n 1, 1) := by decide +kernel
theorem dX6_start_105 : decode cX6_start 105 = .ok (.iload 6, 2) := by decide +kernel
theorem dX6_start_107 : decode cX6_start 107 = .ok (.iastore, 1) := by decide +kernel
theorem dX6_start_108 : decode cX6_start 108 = .ok (.aload_n 0, 1) := by decide +kernel
theorem dX6_start_109 : decode cX6_start 109 = .ok (.getfield 60, 3) := by decide +kernel
theorem dX6_start_112 : decode cX6_start 112 = .ok (.iload_n 1, 1) := by decide +kernel
theorem dX6_start_113 : decode cX6_start 113 = .ok (.iload_n 3, 1) := by decide +kernel
theorem dX6_start_114 : decode cX6_start 114 = .ok (.invokestatic 117, 3) := by decide +kernel
theorem dX6_start_117 : decode cX6_start 117 = .ok (.iastore, 1) := by decide +kernel
theorem dX6_start_118 : decode cX6_start 118 = .ok (.aload_n 0, 1) := by decide +kernel
theorem dX6_start_119 : decode cX6_start 119 = .ok (.iload 4, 2) := by decide +kernel
theorem dX6_start_121 : decode cX6_start 121 = .ok (.iload_n 2, 1) := by decide +kernel
theorem dX6_start_122 : decode cX6_start 122 = .ok (.iload 5, 2) := by decide +kernel
theorem dX6_start_124 : decode cX6_start 124 = .ok (.invokevirtual 127, 3) := by decide +kernel
theorem dX6_start_127 : decode cX6_start 127 = .ok (.aload_n 0, 1) := by decide +kernel
theorem dX6_start_128 : decode cX6_start 128 = .ok (.getfield 32, 3) := by decide +kernel
theorem dX6_start_131 : decode cX6_start 131 = .ok (.iload 4, 2) := by decide +kernel
theorem dX6_start_133 : decode cX6_start 133 = .ok (.iconst 1, 1) := by decide +kernel
theorem dX6_start_134 : decode cX6_start 134 = .ok (.bastore, 1) := by decide +kernel
theorem dX6_start_135 : decode cX6_start 135 = .ok (.aload_n 0, 1) := by decide +kernel
theorem dX6_start_136 : decode cX6_start 136 = .ok (.getfield 29, 3) := by decide +kernel
theorem dX6_start_139 : decode cX6_start 139 = .ok (.iload 4, 2) := by decide +kernel
theorem dX6_start_141 : decode cX6_start 141 = .ok (.iconst 1, 1) := by decide +kernel
theorem dX6_start_142 : decode cX6_start 142 = .ok (.iastore, 1) := by decide +kernel
theorem dX6_start_143 : decode cX6_start 143 = .ok (.aload_n 0, 1) := by decide +kernel
theorem dX6_start_144 : decode cX6_start 144 = .ok (.getfield 54, 3) := by decide +kernel
theorem dX6_start_147 : decode cX6_start 147 = .ok (.iload_n 1, 1) := by decide +kernel
theorem dX6_start_148 : decode cX6_start 148 = .ok (.iload 4, 2) := by decide +kernel
theorem dX6_start_150 : decode cX6_start 150 = .ok (.iastore, 1) := by decide +kernel
theorem dX6_start_151 : decode cX6_start 151 = .ok (.aload_n 0, 1) := by decide +kernel
theorem dX6_start_152 : decode cX6_start 152 = .ok (.getfield 35, 3) := by decide +kernel
theorem dX6_start_155 : decode cX6_start 155 = .ok (.iload_n 1, 1) := by decide +kernel
theorem dX6_start_156 : decode cX6_start 156 = .ok (.iconst 1, 1) := by decide +kernel
theorem dX6_start_157 : decode cX6_start 157 = .ok (.iastore, 1) := by decide +kernel
theorem dX6_start_158 : decode cX6_start 158 = .ok (.return_, 1) := by decide +kernel
theorem dX6_unpin_0 : decode cX6_unpin 0 = .ok (.aload_n 0, 1) := by decide +kernel
theorem dX6_unpin_1 : decode cX6_unpin 1 = .ok (.getfield 29, 3) := by decide +kernel
theorem dX6_unpin_4 : decode cX6_unpin 4 = .ok (.aload_n 0, 1) := by decide +kernel
theorem dX6_unpin_5 : decode cX6_unpin 5 = .ok (.getfield 41, 3) := by decide +kernel
theorem dX6_unpin_8 : decode cX6_unpin 8 = .ok (.iload_n 1, 1) := by decide +kernel
theorem dX6_unpin_9 : decode cX6_unpin 9 = .ok (.iaload, 1) := by decide +kernel
theorem dX6_unpin_10 : decode cX6_unpin 10 = .ok (.dup2, 1) := by decide +kernel
theorem dX6_unpin_11 : decode cX6_unpin 11 = .ok (.iaload, 1) := by decide +kernel
theorem dX6_unpin_12 : decode cX6_unpin 12 = .ok (.iconst 1, 1) := by decide +kernel
theorem dX6_unpin_13 : decode cX6_unpin 13 = .ok (.isub, 1) := by decide +kernel
theorem dX6_unpin_14 : decode cX6_unpin 14 = .ok (.iastore, 1) := by decide +kernel
theorem dX6_unpin_15 : decode cX6_unpin 15 = .ok (.aload_n 0, 1) := by decide +kernel
theorem dX6_unpin_16 : decode cX6_unpin 16 = .ok (.getfield 29, 3) := by decide +kernel
theorem dX6_unpin_19 : decode cX6_unpin 19 = .ok (.aload_n 0, 1) := by decide +kernel
theorem dX6_unpin_20 : decode cX6_unpin 20 = .ok (.getfield 44, 3) := by decide +kernel
theorem dX6_unpin_23 : decode cX6_unpin 23 = .ok (.iload_n 1, 1) := by decide +kernel
theorem dX6_unpin_24 : decode cX6_unpin 24 = .ok (.iaload, 1) := by decide +kernel
theorem dX6_unpin_25 : decode cX6_unpin 25 = .ok (.dup2, 1) := by decide +kernel
theorem dX6_unpin_26 : decode cX6_unpin 26 = .ok (.iaload, 1) := by decide +kernel
theorem dX6_unpin_27 : decode cX6_unpin 27 = .ok (.iconst 1, 1) := by decide +kernel
theorem dX6_unpin_28 : decode cX6_unpin 28 = .ok (.isub, 1) := by decide +kernel
theorem dX6_unpin_29 : decode cX6_unpin 29 = .ok (.iastore, 1) := by decide +kernel
theorem dX6_unpin_30 : decode cX6_unpin 30 = .ok (.aload_n 0, 1) := by decide +kernel
theorem dX6_unpin_31 : decode cX6_unpin 31 = .ok (.getfield 47, 3) := by decide +kernel
theorem dX6_unpin_34 : decode cX6_unpin 34 = .ok (.iload_n 1, 1) := by decide +kernel
theorem dX6_unpin_35 : decode cX6_unpin 35 = .ok (.iaload, 1) := by decide +kernel
theorem dX6_unpin_36 : decode cX6_unpin 36 = .ok (.ifCond .lt 18, 3) := by decide +kernel
theorem dX6_unpin_39 : decode cX6_unpin 39 = .ok (.aload_n 0, 1) := by decide +kernel
theorem dX6_unpin_40 : decode cX6_unpin 40 = .ok (.getfield 29, 3) := by decide +kernel
theorem dX6_unpin_43 : decode cX6_unpin 43 = .ok (.aload_n 0, 1) := by decide +kernel
theorem dX6_unpin_44 : decode cX6_unpin 44 = .ok (.getfield 47, 3) := by decide +kernel
theorem dX6_unpin_47 : decode cX6_unpin 47 = .ok (.iload_n 1, 1) := by decide +kernel
theorem dX6_unpin_48 : decode cX6_unpin 48 = .ok (.iaload, 1) := by decide +kernel
theorem dX6_unpin_49 : decode cX6_unpin 49 = .ok (.dup2, 1) := by decide +kernel
theorem dX6_unpin_50 : decode cX6_unpin 50 = .ok (.iaload, 1) := by decide +kernel
theorem dX6_unpin_51 : decode cX6_unpin 51 = .ok (.iconst 1, 1) := by decide +kernel
theorem dX6_unpin_52 : decode cX6_unpin 52 = .ok (.isub, 1) := by decide +kernel
theorem dX6_unpin_53 : decode cX6_unpin 53 = .ok (.iastore, 1) := by decide +kernel
theorem dX6_unpin_54 : decode cX6_unpin 54 = .ok (.return_, 1) := by decide +kernel
theorem dX6_leave_0 : decode cX6_leave 0 = .ok (.iconst 0, 1) := by decide +kernel
theorem dX6_leave_1 : decode cX6_leave 1 = .ok (.istore_n 2, 1) := by decide +kernel
theorem dX6_leave_2 : decode cX6_leave 2 = .ok (.iconst 0, 1) := by decide +kernel
theorem dX6_leave_3 : decode cX6_leave 3 = .ok (.istore_n 3, 1) := by decide +kernel
theorem dX6_leave_4 : decode cX6_leave 4 = .ok (.iload_n 3, 1) := by decide +kernel
theorem dX6_leave_5 : decode cX6_leave 5 = .ok (.aload_n 0, 1) := by decide +kernel
theorem dX6_leave_6 : decode cX6_leave 6 = .ok (.getfield 101, 3) := by decide +kernel
theorem dX6_leave_9 : decode cX6_leave 9 = .ok (.if_icmp .ge 34, 3) := by decide +kernel
theorem dX6_leave_12 : decode cX6_leave 12 = .ok (.aload_n 0, 1) := by decide +kernel
theorem dX6_leave_13 : decode cX6_leave 13 = .ok (.getfield 63, 3) := by decide +kernel
theorem dX6_leave_16 : decode cX6_leave 16 = .ok (.iload_n 3, 1) := by decide +kernel
theorem dX6_leave_17 : decode cX6_leave 17 = .ok (.iaload, 1) := by decide +kernel
theorem dX6_leave_18 : decode cX6_leave 18 = .ok (.iload_n 1, 1) := by decide +kernel
theorem dX6_leave_19 : decode cX6_leave 19 = .ok (.if_icmp .eq 18, 3) := by decide +kernel
theorem dX6_leave_22 : decode cX6_leave 22 = .ok (.aload_n 0, 1) := by decide +kernel
theorem dX6_leave_23 : decode cX6_leave 23 = .ok (.getfield 63, 3) := by decide +kernel
theorem dX6_leave_26 : decode cX6_leave 26 = .ok (.iload_n 2, 1) := by decide +kernel
theorem dX6_leave_27 : decode cX6_leave 27 = .ok (.aload_n 0, 1) := by decide +kernel
theorem dX6_leave_28 : decode cX6_leave 28 = .ok (.getfield 63, 3) := by decide +kernel
theorem dX6_leave_31 : decode cX6_leave 31 = .ok (.iload_n 3, 1) := by decide +kernel
theorem dX6_leave_32 : decode cX6_leave 32 = .ok (.iaload, 1) := by decide +kernel
theorem dX6_leave_33 : decode cX6_leave 33 = .ok (.iastore, 1) := by decide +kernel
theorem dX6_leave_34 : decode cX6_leave 34 = .ok (.iinc 2 1, 3) := by decide +kernel
theorem dX6_leave_37 : decode cX6_leave 37 = .ok (.iinc 3 1, 3) := by decide +kernel
theorem dX6_leave_40 : decode cX6_leave 40 = .ok (.goto (-36), 3) := by decide +kernel
theorem dX6_leave_43 : decode cX6_leave 43 = .ok (.aload_n 0, 1) := by decide +kernel
theorem dX6_leave_44 : decode cX6_leave 44 = .ok (.iload_n 2, 1) := by decide +kernel
theorem dX6_leave_45 : decode cX6_leave 45 = .ok (.putfield 101, 3) := by decide +kernel
theorem dX6_leave_48 : decode cX6_leave 48 = .ok (.aload_n 0, 1) := by decide +kernel
theorem dX6_leave_49 : decode cX6_leave 49 = .ok (.iload_n 1, 1) := by decide +kernel
theorem dX6_leave_50 : decode cX6_leave 50 = .ok (.invokevirtual 159, 3) := by decide +kernel
theorem dX6_leave_53 : decode cX6_leave 53 = .ok (.aload_n 0, 1) := by decide +kernel
theorem dX6_leave_54 : decode cX6_leave 54 = .ok (.getfield 60, 3) := by decide +kernel
theorem dX6_leave_57 : decode cX6_leave 57 = .ok (.iload_n 1, 1) := by decide +kernel
theorem dX6_leave_58 : decode cX6_leave 58 = .ok (.iaload, 1) := by decide +kernel
theorem dX6_leave_59 : decode cX6_leave 59 = .ok (.ifCond .lt 26, 3) := by decide +kernel
theorem dX6_leave_62 : decode cX6_leave 62 = .ok (.aload_n 0, 1) := by decide +kernel
theorem dX6_leave_63 : decode cX6_leave 63 = .ok (.aload_n 0, 1) := by decide +kernel
theorem dX6_leave_64 : decode cX6_leave 64 = .ok (.getfield 57, 3) := by decide +kernel
theorem dX6_leave_67 : decode cX6_leave 67 = .ok (.iload_n 1, 1) := by decide +kernel
theorem dX6_leave_68 : decode cX6_leave 68 = .ok (.iaload, 1) := by decide +kernel
theorem dX6_leave_69 : decode cX6_leave 69 = .ok (.aload_n 0, 1) := by decide +kernel
theorem dX6_leave_70 : decode cX6_leave 70 = .ok (.getfield 60, 3) := by decide +kernel
theorem dX6_leave_73 : decode cX6_leave 73 = .ok (.iload_n 1, 1) := by decide +kernel
theorem dX6_leave_74 : decode cX6_leave 74 = .ok (.iaload, 1) := by decide +kernel
theorem dX6_leave_75 : decode cX6_leave 75 = .ok (.invokevirtual 135, 3) := by decide +kernel
theorem dX6_leave_78 : decode cX6_leave 78 = .ok (.aload_n 0, 1) := by decide +kernel
theorem dX6_leave_79 : decode cX6_leave 79 = .ok (.getfield 60, 3) := by decide +kernel
theorem dX6_leave_82 : decode cX6_leave 82 = .ok (.iload_n 1, 1) := by decide +kernel
theorem dX6_leave_83 : decode cX6_leave 83 = .ok (.iconst (-1), 1) := by decide +kernel
theorem dX6_leave_84 : decode cX6_leave 84 = .ok (.iastore, 1) := by decide +kernel
theorem dX6_leave_85 : decode cX6_leave 85 = .ok (.return_, 1) := by decide +kernel
theorem dX6_tick_0 : decode cX6_tick 0 = .ok (.aload_n 0, 1) := by decide +kernel
theorem dX6_tick_1 : decode cX6_tick 1 = .ok (.getfield 101, 3) := by decide +kernel
theorem dX6_tick_4 : decode cX6_tick 4 = .ok (.ifCond .ne 5, 3) := by decide +kernel
theorem dX6_tick_7 : decode cX6_tick 7 = .ok (.iconst (-1), 1) := by decide +kernel
theorem dX6_tick_8 : decode cX6_tick 8 = .ok (.ireturn, 1) := by decide +kernel
theorem dX6_tick_9 : decode cX6_tick 9 = .ok (.aload_n 0, 1) := by decide +kernel
theorem dX6_tick_10 : decode cX6_tick 10 = .ok (.getfield 63, 3) := by decide +kernel
theorem dX6_tick_13 : decode cX6_tick 13 = .ok (.iconst 0, 1) := by decide +kernel
theorem dX6_tick_14 : decode cX6_tick 14 = .ok (.iaload, 1) := by decide +kernel
theorem dX6_tick_15 : decode cX6_tick 15 = .ok (.istore_n 1, 1) := by decide +kernel
theorem dX6_tick_16 : decode cX6_tick 16 = .ok (.aload_n 0, 1) := by decide +kernel
theorem dX6_tick_17 : decode cX6_tick 17 = .ok (.dup, 1) := by decide +kernel
theorem dX6_tick_18 : decode cX6_tick 18 = .ok (.getfield 104, 3) := by decide +kernel
theorem dX6_tick_21 : decode cX6_tick 21 = .ok (.iconst 1, 1) := by decide +kernel
theorem dX6_tick_22 : decode cX6_tick 22 = .ok (.iadd, 1) := by decide +kernel
theorem dX6_tick_23 : decode cX6_tick 23 = .ok (.putfield 104, 3) := by decide +kernel
theorem dX6_tick_26 : decode cX6_tick 26 = .ok (.aload_n 0, 1) := by decide +kernel
theorem dX6_tick_27 : decode cX6_tick 27 = .ok (.getfield 35, 3) := by decide +kernel
theorem dX6_tick_30 : decode cX6_tick 30 = .ok (.iload_n 1, 1) := by decide +kernel
theorem dX6_tick_31 : decode cX6_tick 31 = .ok (.iaload, 1) := by decide +kernel
theorem dX6_tick_32 : decode cX6_tick 32 = .ok (.ifCond .ne 11, 3) := by decide +kernel
theorem dX6_tick_35 : decode cX6_tick 35 = .ok (.aload_n 0, 1) := by decide +kernel
theorem dX6_tick_36 : decode cX6_tick 36 = .ok (.iload_n 1, 1) := by decide +kernel
theorem dX6_tick_37 : decode cX6_tick 37 = .ok (.invokevirtual 162, 3) := by decide +kernel
theorem dX6_tick_40 : decode cX6_tick 40 = .ok (.goto 75, 3) := by decide +kernel
theorem dX6_tick_43 : decode cX6_tick 43 = .ok (.aload_n 0, 1) := by decide +kernel
theorem dX6_tick_44 : decode cX6_tick 44 = .ok (.getfield 50, 3) := by decide +kernel
theorem dX6_tick_47 : decode cX6_tick 47 = .ok (.iload_n 1, 1) := by decide +kernel
theorem dX6_tick_48 : decode cX6_tick 48 = .ok (.dup2, 1) := by decide +kernel
theorem dX6_tick_49 : decode cX6_tick 49 = .ok (.laload, 1) := by decide +kernel
theorem dX6_tick_50 : decode cX6_tick 50 = .ok (.aload_n 0, 1) := by decide +kernel
theorem dX6_tick_51 : decode cX6_tick 51 = .ok (.getfield 95, 3) := by decide +kernel
theorem dX6_tick_54 : decode cX6_tick 54 = .ok (.i2l, 1) := by decide +kernel
theorem dX6_tick_55 : decode cX6_tick 55 = .ok (.lsub, 1) := by decide +kernel
theorem dX6_tick_56 : decode cX6_tick 56 = .ok (.lastore, 1) := by decide +kernel
theorem dX6_tick_57 : decode cX6_tick 57 = .ok (.aload_n 0, 1) := by decide +kernel
theorem dX6_tick_58 : decode cX6_tick 58 = .ok (.getfield 50, 3) := by decide +kernel
theorem dX6_tick_61 : decode cX6_tick 61 = .ok (.iload_n 1, 1) := by decide +kernel
theorem dX6_tick_62 : decode cX6_tick 62 = .ok (.laload, 1) := by decide +kernel
theorem dX6_tick_63 : decode cX6_tick 63 = .ok (.lconst 0, 1) := by decide +kernel
theorem dX6_tick_64 : decode cX6_tick 64 = .ok (.lcmp, 1) := by decide +kernel
theorem dX6_tick_65 : decode cX6_tick 65 = .ok (.ifCond .gt 50, 3) := by decide +kernel
theorem dX6_tick_68 : decode cX6_tick 68 = .ok (.aload_n 0, 1) := by decide +kernel
theorem dX6_tick_69 : decode cX6_tick 69 = .ok (.iload_n 1, 1) := by decide +kernel
theorem dX6_tick_70 : decode cX6_tick 70 = .ok (.invokevirtual 165, 3) := by decide +kernel
theorem dX6_tick_73 : decode cX6_tick 73 = .ok (.aload_n 0, 1) := by decide +kernel
theorem dX6_tick_74 : decode cX6_tick 74 = .ok (.getfield 54, 3) := by decide +kernel
theorem dX6_tick_77 : decode cX6_tick 77 = .ok (.iload_n 1, 1) := by decide +kernel
theorem dX6_tick_78 : decode cX6_tick 78 = .ok (.iaload, 1) := by decide +kernel
theorem dX6_tick_79 : decode cX6_tick 79 = .ok (.istore_n 2, 1) := by decide +kernel
theorem dX6_tick_80 : decode cX6_tick 80 = .ok (.aload_n 0, 1) := by decide +kernel
theorem dX6_tick_81 : decode cX6_tick 81 = .ok (.getfield 32, 3) := by decide +kernel
theorem dX6_tick_84 : decode cX6_tick 84 = .ok (.iload_n 2, 1) := by decide +kernel
theorem dX6_tick_85 : decode cX6_tick 85 = .ok (.iconst 0, 1) := by decide +kernel
theorem dX6_tick_86 : decode cX6_tick 86 = .ok (.bastore, 1) := by decide +kernel
theorem dX6_tick_87 : decode cX6_tick 87 = .ok (.aload_n 0, 1) := by decide +kernel
theorem dX6_tick_88 : decode cX6_tick 88 = .ok (.getfield 29, 3) := by decide +kernel
theorem dX6_tick_91 : decode cX6_tick 91 = .ok (.iload_n 2, 1) := by decide +kernel
theorem dX6_tick_92 : decode cX6_tick 92 = .ok (.iconst 0, 1) := by decide +kernel
theorem dX6_tick_93 : decode cX6_tick 93 = .ok (.iastore, 1) := by decide +kernel
theorem dX6_tick_94 : decode cX6_tick 94 = .ok (.aload_n 0, 1) := by decide +kernel
theorem dX6_tick_95 : decode cX6_tick 95 = .ok (.getfield 50, 3) := by decide +kernel
theorem dX6_tick_98 : decode cX6_tick 98 = .ok (.iload_n 1, 1) := by decide +kernel
theorem dX6_tick_99 : decode cX6_tick 99 = .ok (.lconst 0, 1) := by decide +kernel
theorem dX6_tick_100 : decode cX6_tick 100 = .ok (.lastore, 1) := by decide +kernel
theorem dX6_tick_101 : decode cX6_tick 101 = .ok (.aload_n 0, 1) := by decide +kernel
theorem dX6_tick_102 : decode cX6_tick 102 = .ok (.getfield 35, 3) := by decide +kernel
theorem dX6_tick_105 : decode cX6_tick 105 = .ok (.iload_n 1, 1) := by decide +kernel
theorem dX6_tick_106 : decode cX6_tick 106 = .ok (.iconst 2, 1) := by decide +kernel
theorem dX6_tick_107 : decode cX6_tick 107 = .ok (.iastore, 1) := by decide +kernel
theorem dX6_tick_108 : decode cX6_tick 108 = .ok (.aload_n 0, 1) := by decide +kernel
theorem dX6_tick_109 : decode cX6_tick 109 = .ok (.iload_n 1, 1) := by decide +kernel
theorem dX6_tick_110 : decode cX6_tick 110 = .ok (.invokevirtual 168, 3) := by decide +kernel
theorem dX6_tick_113 : decode cX6_tick 113 = .ok (.iload_n 1, 1) := by decide +kernel
theorem dX6_tick_114 : decode cX6_tick 114 = .ok (.ireturn, 1) := by decide +kernel
theorem dX6_tick_115 : decode cX6_tick 115 = .ok (.iconst 1, 1) := by decide +kernel
theorem dX6_tick_116 : decode cX6_tick 116 = .ok (.istore_n 2, 1) := by decide +kernel
theorem dX6_tick_117 : decode cX6_tick 117 = .ok (.iload_n 2, 1) := by decide +kernel
theorem dX6_tick_118 : decode cX6_tick 118 = .ok (.aload_n 0, 1) := by decide +kernel
theorem dX6_tick_119 : decode cX6_tick 119 = .ok (.getfield 101, 3) := by decide +kernel
theorem dX6_tick_122 : decode cX6_tick 122 = .ok (.if_icmp .ge 23, 3) := by decide +kernel
theorem dX6_tick_125 : decode cX6_tick 125 = .ok (.aload_n 0, 1) := by decide +kernel
theorem dX6_tick_126 : decode cX6_tick 126 = .ok (.getfield 63, 3) := by decide +kernel
theorem dX6_tick_129 : decode cX6_tick 129 = .ok (.iload_n 2, 1) := by decide +kernel
theorem dX6_tick_130 : decode cX6_tick 130 = .ok (.iconst 1, 1) := by decide +kernel
theorem dX6_tick_131 : decode cX6_tick 131 = .ok (.isub, 1) := by decide +kernel
theorem dX6_tick_132 : decode cX6_tick 132 = .ok (.aload_n 0, 1) := by decide +kernel
theorem dX6_tick_133 : decode cX6_tick 133 = .ok (.getfield 63, 3) := by decide +kernel
theorem dX6_tick_136 : decode cX6_tick 136 = .ok (.iload_n 2, 1) := by decide +kernel
theorem dX6_tick_137 : decode cX6_tick 137 = .ok (.iaload, 1) := by decide +kernel
theorem dX6_tick_138 : decode cX6_tick 138 = .ok (.iastore, 1) := by decide +kernel
theorem dX6_tick_139 : decode cX6_tick 139 = .ok (.iinc 2 1, 3) := by decide +kernel
theorem dX6_tick_142 : decode cX6_tick 142 = .ok (.goto (-25), 3) := by decide +kernel
theorem dX6_tick_145 : decode cX6_tick 145 = .ok (.aload_n 0, 1) := by decide +kernel
theorem dX6_tick_146 : decode cX6_tick 146 = .ok (.getfield 63, 3) := by decide +kernel
theorem dX6_tick_149 : decode cX6_tick 149 = .ok (.aload_n 0, 1) := by decide +kernel
theorem dX6_tick_150 : decode cX6_tick 150 = .ok (.getfield 101, 3) := by decide +kernel
theorem dX6_tick_153 : decode cX6_tick 153 = .ok (.iconst 1, 1) := by decide +kernel
theorem dX6_tick_154 : decode cX6_tick 154 = .ok (.isub, 1) := by decide +kernel
theorem dX6_tick_155 : decode cX6_tick 155 = .ok (.iload_n 1, 1) := by decide +kernel
theorem dX6_tick_156 : decode cX6_tick 156 = .ok (.iastore, 1) := by decide +kernel
theorem dX6_tick_157 : decode cX6_tick 157 = .ok (.iload_n 1, 1) := by decide +kernel
theorem dX6_tick_158 : decode cX6_tick 158 = .ok (.ireturn, 1) := by decide +kernel
theorem dX6_run_0 : decode cX6_run 0 = .ok (.iload_n 1, 1) := by decide +kernel
theorem dX6_run_1 : decode cX6_run 1 = .ok (.ifCond .lt 10, 3) := by decide +kernel
theorem dX6_run_4 : decode cX6_run 4 = .ok (.iload_n 1, 1) := by decide +kernel
theorem dX6_run_5 : decode cX6_run 5 = .ok (.sipush 5000, 3) := by decide +kernel
theorem dX6_run_8 : decode cX6_run 8 = .ok (.if_icmp .le 5, 3) := by decide +kernel
theorem dX6_run_11 : decode cX6_run 11 = .ok (.iconst (-1), 1) := by decide +kernel
theorem dX6_run_12 : decode cX6_run 12 = .ok (.ireturn, 1) := by decide +kernel
theorem dX6_run_13 : decode cX6_run 13 = .ok (.iconst 0, 1) := by decide +kernel
theorem dX6_run_14 : decode cX6_run 14 = .ok (.istore_n 2, 1) := by decide +kernel
theorem dX6_run_15 : decode cX6_run 15 = .ok (.iload_n 2, 1) := by decide +kernel
theorem dX6_run_16 : decode cX6_run 16 = .ok (.iload_n 1, 1) := by decide +kernel
theorem dX6_run_17 : decode cX6_run 17 = .ok (.if_icmp .ge 21, 3) := by decide +kernel
theorem dX6_run_20 : decode cX6_run 20 = .ok (.aload_n 0, 1) := by decide +kernel
theorem dX6_run_21 : decode cX6_run 21 = .ok (.getfield 101, 3) := by decide +kernel
theorem dX6_run_24 : decode cX6_run 24 = .ok (.ifCond .le 14, 3) := by decide +kernel
theorem dX6_run_27 : decode cX6_run 27 = .ok (.aload_n 0, 1) := by decide +kernel
theorem dX6_run_28 : decode cX6_run 28 = .ok (.invokevirtual 171, 3) := by decide +kernel
theorem dX6_run_31 : decode cX6_run 31 = .ok (.istore_n 3, 1) := by decide +kernel
theorem dX6_run_32 : decode cX6_run 32 = .ok (.iinc 2 1, 3) := by decide +kernel
theorem dX6_run_35 : decode cX6_run 35 = .ok (.goto (-20), 3) := by decide +kernel
theorem dX6_run_38 : decode cX6_run 38 = .ok (.iload_n 2, 1) := by decide +kernel
theorem dX6_run_39 : decode cX6_run 39 = .ok (.ireturn, 1) := by decide +kernel
theorem dX6_isJob_0 : decode cX6_isJob 0 = .ok (.iload_n 1, 1) := by decide +kernel
theorem dX6_isJob_1 : decode cX6_isJob 1 = .ok (.ifCond .lt 24, 3) := by decide +kernel
theorem dX6_isJob_4 : decode cX6_isJob 4 = .ok (.iload_n 1, 1) := by decide +kernel
theorem dX6_isJob_5 : decode cX6_isJob 5 = .ok (.aload_n 0, 1) := by decide +kernel
theorem dX6_isJob_6 : decode cX6_isJob 6 = .ok (.getfield 89, 3) := by decide +kernel
theorem dX6_isJob_9 : decode cX6_isJob 9 = .ok (.if_icmp .ge 16, 3) := by decide +kernel
theorem dX6_isJob_12 : decode cX6_isJob 12 = .ok (.aload_n 0, 1) := by decide +kernel
theorem dX6_isJob_13 : decode cX6_isJob 13 = .ok (.getfield 35, 3) := by decide +kernel
theorem dX6_isJob_16 : decode cX6_isJob 16 = .ok (.iload_n 1, 1) := by decide +kernel
theorem dX6_isJob_17 : decode cX6_isJob 17 = .ok (.iaload, 1) := by decide +kernel
theorem dX6_isJob_18 : decode cX6_isJob 18 = .ok (.ifCond .lt 7, 3) := by decide +kernel
theorem dX6_isJob_21 : decode cX6_isJob 21 = .ok (.iconst 1, 1) := by decide +kernel
theorem dX6_isJob_22 : decode cX6_isJob 22 = .ok (.goto 4, 3) := by decide +kernel
theorem dX6_isJob_25 : decode cX6_isJob 25 = .ok (.iconst 0, 1) := by decide +kernel
theorem dX6_isJob_26 : decode cX6_isJob 26 = .ok (.ireturn, 1) := by decide +kernel
theorem dX6_jobState_0 : decode cX6_jobState 0 = .ok (.aload_n 0, 1) := by decide +kernel
theorem dX6_jobState_1 : decode cX6_jobState 1 = .ok (.iload_n 1, 1) := by decide +kernel
theorem dX6_jobState_2 : decode cX6_jobState 2 = .ok (.invokevirtual 174, 3) := by decide +kernel
theorem dX6_jobState_5 : decode cX6_jobState 5 = .ok (.ifCond .eq 12, 3) := by decide +kernel
theorem dX6_jobState_8 : decode cX6_jobState 8 = .ok (.aload_n 0, 1) := by decide +kernel
theorem dX6_jobState_9 : decode cX6_jobState 9 = .ok (.getfield 35, 3) := by decide +kernel
theorem dX6_jobState_12 : decode cX6_jobState 12 = .ok (.iload_n 1, 1) := by decide +kernel
theorem dX6_jobState_13 : decode cX6_jobState 13 = .ok (.iaload, 1) := by decide +kernel
theorem dX6_jobState_14 : decode cX6_jobState 14 = .ok (.goto 4, 3) := by decide +kernel
theorem dX6_jobState_17 : decode cX6_jobState 17 = .ok (.iconst (-1), 1) := by decide +kernel
theorem dX6_jobState_18 : decode cX6_jobState 18 = .ok (.ireturn, 1) := by decide +kernel
theorem dX6_jobResult_0 : decode cX6_jobResult 0 = .ok (.aload_n 0, 1) := by decide +kernel
theorem dX6_jobResult_1 : decode cX6_jobResult 1 = .ok (.iload_n 1, 1) := by decide +kernel
theorem dX6_jobResult_2 : decode cX6_jobResult 2 = .ok (.invokevirtual 174, 3) := by decide +kernel
theorem dX6_jobResult_5 : decode cX6_jobResult 5 = .ok (.ifCond .eq 32, 3) := by decide +kernel
theorem dX6_jobResult_8 : decode cX6_jobResult 8 = .ok (.aload_n 0, 1) := by decide +kernel
theorem dX6_jobResult_9 : decode cX6_jobResult 9 = .ok (.getfield 35, 3) := by decide +kernel
theorem dX6_jobResult_12 : decode cX6_jobResult 12 = .ok (.iload_n 1, 1) := by decide +kernel
theorem dX6_jobResult_13 : decode cX6_jobResult 13 = .ok (.iaload, 1) := by decide +kernel
theorem dX6_jobResult_14 : decode cX6_jobResult 14 = .ok (.iconst 1, 1) := by decide +kernel
theorem dX6_jobResult_15 : decode cX6_jobResult 15 = .ok (.if_icmp .eq 13, 3) := by decide +kernel
theorem dX6_jobResult_18 : decode cX6_jobResult 18 = .ok (.aload_n 0, 1) := by decide +kernel
theorem dX6_jobResult_19 : decode cX6_jobResult 19 = .ok (.getfield 35, 3) := by decide +kernel
theorem dX6_jobResult_22 : decode cX6_jobResult 22 = .ok (.iload_n 1, 1) := by decide +kernel
theorem dX6_jobResult_23 : decode cX6_jobResult 23 = .ok (.iaload, 1) := by decide +kernel
theorem dX6_jobResult_24 : decode cX6_jobResult 24 = .ok (.iconst 2, 1) := by decide +kernel
theorem dX6_jobResult_25 : decode cX6_jobResult 25 = .ok (.if_icmp .ne 12, 3) := by decide +kernel
theorem dX6_jobResult_28 : decode cX6_jobResult 28 = .ok (.aload_n 0, 1) := by decide +kernel
theorem dX6_jobResult_29 : decode cX6_jobResult 29 = .ok (.getfield 54, 3) := by decide +kernel
theorem dX6_jobResult_32 : decode cX6_jobResult 32 = .ok (.iload_n 1, 1) := by decide +kernel
theorem dX6_jobResult_33 : decode cX6_jobResult 33 = .ok (.iaload, 1) := by decide +kernel
theorem dX6_jobResult_34 : decode cX6_jobResult 34 = .ok (.goto 4, 3) := by decide +kernel
theorem dX6_jobResult_37 : decode cX6_jobResult 37 = .ok (.iconst (-1), 1) := by decide +kernel
theorem dX6_jobResult_38 : decode cX6_jobResult 38 = .ok (.ireturn, 1) := by decide +kernel
theorem dX6_workLeft_0 : decode cX6_workLeft 0 = .ok (.aload_n 0, 1) := by decide +kernel
theorem dX6_workLeft_1 : decode cX6_workLeft 1 = .ok (.iload_n 1, 1) := by decide +kernel
theorem dX6_workLeft_2 : decode cX6_workLeft 2 = .ok (.invokevirtual 174, 3) := by decide +kernel
theorem dX6_workLeft_5 : decode cX6_workLeft 5 = .ok (.ifCond .eq 26, 3) := by decide +kernel
theorem dX6_workLeft_8 : decode cX6_workLeft 8 = .ok (.aload_n 0, 1) := by decide +kernel
theorem dX6_workLeft_9 : decode cX6_workLeft 9 = .ok (.getfield 35, 3) := by decide +kernel
theorem dX6_workLeft_12 : decode cX6_workLeft 12 = .ok (.iload_n 1, 1) := by decide +kernel
theorem dX6_workLeft_13 : decode cX6_workLeft 13 = .ok (.iaload, 1) := by decide +kernel
theorem dX6_workLeft_14 : decode cX6_workLeft 14 = .ok (.iconst 1, 1) := by decide +kernel
theorem dX6_workLeft_15 : decode cX6_workLeft 15 = .ok (.if_icmp .le 7, 3) := by decide +kernel
theorem dX6_workLeft_18 : decode cX6_workLeft 18 = .ok (.lconst 0, 1) := by decide +kernel
theorem dX6_workLeft_19 : decode cX6_workLeft 19 = .ok (.goto 15, 3) := by decide +kernel
theorem dX6_workLeft_22 : decode cX6_workLeft 22 = .ok (.aload_n 0, 1) := by decide +kernel
theorem dX6_workLeft_23 : decode cX6_workLeft 23 = .ok (.getfield 50, 3) := by decide +kernel
theorem dX6_workLeft_26 : decode cX6_workLeft 26 = .ok (.iload_n 1, 1) := by decide +kernel
theorem dX6_workLeft_27 : decode cX6_workLeft 27 = .ok (.laload, 1) := by decide +kernel
theorem dX6_workLeft_28 : decode cX6_workLeft 28 = .ok (.goto 6, 3) := by decide +kernel
theorem dX6_workLeft_31 : decode cX6_workLeft 31 = .ok (.ldc2_w 177, 3) := by decide +kernel
theorem dX6_workLeft_34 : decode cX6_workLeft 34 = .ok (.lreturn, 1) := by decide +kernel
theorem dX6_cancel_0 : decode cX6_cancel 0 = .ok (.aload_n 0, 1) := by decide +kernel
theorem dX6_cancel_1 : decode cX6_cancel 1 = .ok (.iload_n 1, 1) := by decide +kernel
theorem dX6_cancel_2 : decode cX6_cancel 2 = .ok (.invokevirtual 174, 3) := by decide +kernel
theorem dX6_cancel_5 : decode cX6_cancel 5 = .ok (.ifCond .eq 13, 3) := by decide +kernel
theorem dX6_cancel_8 : decode cX6_cancel 8 = .ok (.aload_n 0, 1) := by decide +kernel
theorem dX6_cancel_9 : decode cX6_cancel 9 = .ok (.getfield 35, 3) := by decide +kernel
theorem dX6_cancel_12 : decode cX6_cancel 12 = .ok (.iload_n 1, 1) := by decide +kernel
theorem dX6_cancel_13 : decode cX6_cancel 13 = .ok (.iaload, 1) := by decide +kernel
theorem dX6_cancel_14 : decode cX6_cancel 14 = .ok (.iconst 1, 1) := by decide +kernel
theorem dX6_cancel_15 : decode cX6_cancel 15 = .ok (.if_icmp .le 5, 3) := by decide +kernel
theorem dX6_cancel_18 : decode cX6_cancel 18 = .ok (.iconst 0, 1) := by decide +kernel
theorem dX6_cancel_19 : decode cX6_cancel 19 = .ok (.ireturn, 1) := by decide +kernel
theorem dX6_cancel_20 : decode cX6_cancel 20 = .ok (.aload_n 0, 1) := by decide +kernel
theorem dX6_cancel_21 : decode cX6_cancel 21 = .ok (.iload_n 1, 1) := by decide +kernel
theorem dX6_cancel_22 : decode cX6_cancel 22 = .ok (.invokevirtual 168, 3) := by decide +kernel
theorem dX6_cancel_25 : decode cX6_cancel 25 = .ok (.aload_n 0, 1) := by decide +kernel
theorem dX6_cancel_26 : decode cX6_cancel 26 = .ok (.getfield 54, 3) := by decide +kernel
theorem dX6_cancel_29 : decode cX6_cancel 29 = .ok (.iload_n 1, 1) := by decide +kernel
theorem dX6_cancel_30 : decode cX6_cancel 30 = .ok (.iaload, 1) := by decide +kernel
theorem dX6_cancel_31 : decode cX6_cancel 31 = .ok (.istore_n 2, 1) := by decide +kernel
theorem dX6_cancel_32 : decode cX6_cancel 32 = .ok (.aload_n 0, 1) := by decide +kernel
theorem dX6_cancel_33 : decode cX6_cancel 33 = .ok (.getfield 35, 3) := by decide +kernel
theorem dX6_cancel_36 : decode cX6_cancel 36 = .ok (.iload_n 1, 1) := by decide +kernel
theorem dX6_cancel_37 : decode cX6_cancel 37 = .ok (.iconst 3, 1) := by decide +kernel
theorem dX6_cancel_38 : decode cX6_cancel 38 = .ok (.iastore, 1) := by decide +kernel
theorem dX6_cancel_39 : decode cX6_cancel 39 = .ok (.iload_n 2, 1) := by decide +kernel
theorem dX6_cancel_40 : decode cX6_cancel 40 = .ok (.ifCond .lt 15, 3) := by decide +kernel
theorem dX6_cancel_43 : decode cX6_cancel 43 = .ok (.aload_n 0, 1) := by decide +kernel
theorem dX6_cancel_44 : decode cX6_cancel 44 = .ok (.getfield 29, 3) := by decide +kernel
theorem dX6_cancel_47 : decode cX6_cancel 47 = .ok (.iload_n 2, 1) := by decide +kernel
theorem dX6_cancel_48 : decode cX6_cancel 48 = .ok (.iconst 0, 1) := by decide +kernel
theorem dX6_cancel_49 : decode cX6_cancel 49 = .ok (.iastore, 1) := by decide +kernel
theorem dX6_cancel_50 : decode cX6_cancel 50 = .ok (.aload_n 0, 1) := by decide +kernel
theorem dX6_cancel_51 : decode cX6_cancel 51 = .ok (.iload_n 2, 1) := by decide +kernel
theorem dX6_cancel_52 : decode cX6_cancel 52 = .ok (.invokevirtual 139, 3) := by decide +kernel
theorem dX6_cancel_55 : decode cX6_cancel 55 = .ok (.aload_n 0, 1) := by decide +kernel
theorem dX6_cancel_56 : decode cX6_cancel 56 = .ok (.getfield 54, 3) := by decide +kernel
theorem dX6_cancel_59 : decode cX6_cancel 59 = .ok (.iload_n 1, 1) := by decide +kernel
theorem dX6_cancel_60 : decode cX6_cancel 60 = .ok (.iconst (-1), 1) := by decide +kernel
theorem dX6_cancel_61 : decode cX6_cancel 61 = .ok (.iastore, 1) := by decide +kernel
theorem dX6_cancel_62 : decode cX6_cancel 62 = .ok (.iconst 1, 1) := by decide +kernel
theorem dX6_cancel_63 : decode cX6_cancel 63 = .ok (.ireturn, 1) := by decide +kernel
theorem dX6_forget_0 : decode cX6_forget 0 = .ok (.aload_n 0, 1) := by decide +kernel
theorem dX6_forget_1 : decode cX6_forget 1 = .ok (.iload_n 1, 1) := by decide +kernel
theorem dX6_forget_2 : decode cX6_forget 2 = .ok (.invokevirtual 174, 3) := by decide +kernel
theorem dX6_forget_5 : decode cX6_forget 5 = .ok (.ifCond .eq 13, 3) := by decide +kernel
theorem dX6_forget_8 : decode cX6_forget 8 = .ok (.aload_n 0, 1) := by decide +kernel
theorem dX6_forget_9 : decode cX6_forget 9 = .ok (.getfield 35, 3) := by decide +kernel
theorem dX6_forget_12 : decode cX6_forget 12 = .ok (.iload_n 1, 1) := by decide +kernel
theorem dX6_forget_13 : decode cX6_forget 13 = .ok (.iaload, 1) := by decide +kernel
theorem dX6_forget_14 : decode cX6_forget 14 = .ok (.iconst 2, 1) := by decide +kernel
theorem dX6_forget_15 : decode cX6_forget 15 = .ok (.if_icmp .ge 5, 3) := by decide +kernel
theorem dX6_forget_18 : decode cX6_forget 18 = .ok (.iconst 0, 1) := by decide +kernel
theorem dX6_forget_19 : decode cX6_forget 19 = .ok (.ireturn, 1) := by decide +kernel
theorem dX6_forget_20 : decode cX6_forget 20 = .ok (.aload_n 0, 1) := by decide +kernel
theorem dX6_forget_21 : decode cX6_forget 21 = .ok (.getfield 35, 3) := by decide +kernel
theorem dX6_forget_24 : decode cX6_forget 24 = .ok (.iload_n 1, 1) := by decide +kernel
theorem dX6_forget_25 : decode cX6_forget 25 = .ok (.iconst (-1), 1) := by decide +kernel
theorem dX6_forget_26 : decode cX6_forget 26 = .ok (.iastore, 1) := by decide +kernel
theorem dX6_forget_27 : decode cX6_forget 27 = .ok (.iconst 1, 1) := by decide +kernel
theorem dX6_forget_28 : decode cX6_forget 28 = .ok (.ireturn, 1) := by decide +kernel
theorem dX6_freeCells_0 : decode cX6_freeCells 0 = .ok (.iconst 0, 1) := by decide +kernel
theorem dX6_freeCells_1 : decode cX6_freeCells 1 = .ok (.istore_n 1, 1) := by decide +kernel
theorem dX6_freeCells_2 : decode cX6_freeCells 2 = .ok (.iconst 0, 1) := by decide +kernel
theorem dX6_freeCells_3 : decode cX6_freeCells 3 = .ok (.istore_n 2, 1) := by decide +kernel
theorem dX6_freeCells_4 : decode cX6_freeCells 4 = .ok (.iload_n 2, 1) := by decide +kernel
theorem dX6_freeCells_5 : decode cX6_freeCells 5 = .ok (.aload_n 0, 1) := by decide +kernel
theorem dX6_freeCells_6 : decode cX6_freeCells 6 = .ok (.invokevirtual 114, 3) := by decide +kernel
theorem dX6_freeCells_9 : decode cX6_freeCells 9 = .ok (.if_icmp .ge 33, 3) := by decide +kernel
theorem dX6_freeCells_12 : decode cX6_freeCells 12 = .ok (.iload_n 1, 1) := by decide +kernel
theorem dX6_freeCells_13 : decode cX6_freeCells 13 = .ok (.aload_n 0, 1) := by decide +kernel
theorem dX6_freeCells_14 : decode cX6_freeCells 14 = .ok (.getfield 13, 3) := by decide +kernel
theorem dX6_freeCells_17 : decode cX6_freeCells 17 = .ok (.iload_n 2, 1) := by decide +kernel
theorem dX6_freeCells_18 : decode cX6_freeCells 18 = .ok (.iaload, 1) := by decide +kernel
theorem dX6_freeCells_19 : decode cX6_freeCells 19 = .ok (.ifCond .lt 14, 3) := by decide +kernel
theorem dX6_freeCells_22 : decode cX6_freeCells 22 = .ok (.iconst 1, 1) := by decide +kernel
theorem dX6_freeCells_23 : decode cX6_freeCells 23 = .ok (.aload_n 0, 1) := by decide +kernel
theorem dX6_freeCells_24 : decode cX6_freeCells 24 = .ok (.getfield 13, 3) := by decide +kernel
theorem dX6_freeCells_27 : decode cX6_freeCells 27 = .ok (.iload_n 2, 1) := by decide +kernel
theorem dX6_freeCells_28 : decode cX6_freeCells 28 = .ok (.iaload, 1) := by decide +kernel
theorem dX6_freeCells_29 : decode cX6_freeCells 29 = .ok (.ishl, 1) := by decide +kernel
theorem dX6_freeCells_30 : decode cX6_freeCells 30 = .ok (.goto 4, 3) := by decide +kernel
theorem dX6_freeCells_33 : decode cX6_freeCells 33 = .ok (.iconst 0, 1) := by decide +kernel
theorem dX6_freeCells_34 : decode cX6_freeCells 34 = .ok (.iadd, 1) := by decide +kernel
theorem dX6_freeCells_35 : decode cX6_freeCells 35 = .ok (.istore_n 1, 1) := by decide +kernel
theorem dX6_freeCells_36 : decode cX6_freeCells 36 = .ok (.iinc 2 1, 3) := by decide +kernel
theorem dX6_freeCells_39 : decode cX6_freeCells 39 = .ok (.goto (-35), 3) := by decide +kernel
theorem dX6_freeCells_42 : decode cX6_freeCells 42 = .ok (.iload_n 1, 1) := by decide +kernel
theorem dX6_freeCells_43 : decode cX6_freeCells 43 = .ok (.ireturn, 1) := by decide +kernel
theorem dX6_freeBlock_0 : decode cX6_freeBlock 0 = .ok (.iload_n 1, 1) := by decide +kernel
theorem dX6_freeBlock_1 : decode cX6_freeBlock 1 = .ok (.ifCond .lt 16, 3) := by decide +kernel
theorem dX6_freeBlock_4 : decode cX6_freeBlock 4 = .ok (.iload_n 1, 1) := by decide +kernel
theorem dX6_freeBlock_5 : decode cX6_freeBlock 5 = .ok (.aload_n 0, 1) := by decide +kernel
theorem dX6_freeBlock_6 : decode cX6_freeBlock 6 = .ok (.getfield 85, 3) := by decide +kernel
theorem dX6_freeBlock_9 : decode cX6_freeBlock 9 = .ok (.if_icmp .gt 8, 3) := by decide +kernel
theorem dX6_freeBlock_12 : decode cX6_freeBlock 12 = .ok (.iload_n 2, 1) := by decide +kernel
theorem dX6_freeBlock_13 : decode cX6_freeBlock 13 = .ok (.iconst (-1), 1) := by decide +kernel
theorem dX6_freeBlock_14 : decode cX6_freeBlock 14 = .ok (.if_icmp .ge 5, 3) := by decide +kernel
theorem dX6_freeBlock_17 : decode cX6_freeBlock 17 = .ok (.iconst (-1), 1) := by decide +kernel
theorem dX6_freeBlock_18 : decode cX6_freeBlock 18 = .ok (.ireturn, 1) := by decide +kernel
theorem dX6_freeBlock_19 : decode cX6_freeBlock 19 = .ok (.iconst 0, 1) := by decide +kernel
theorem dX6_freeBlock_20 : decode cX6_freeBlock 20 = .ok (.istore_n 3, 1) := by decide +kernel
theorem dX6_freeBlock_21 : decode cX6_freeBlock 21 = .ok (.iconst 0, 1) := by decide +kernel
theorem dX6_freeBlock_22 : decode cX6_freeBlock 22 = .ok (.istore 4, 2) := by decide +kernel
theorem dX6_freeBlock_24 : decode cX6_freeBlock 24 = .ok (.iload 4, 2) := by decide +kernel
theorem dX6_freeBlock_26 : decode cX6_freeBlock 26 = .ok (.aload_n 0, 1) := by decide +kernel
theorem dX6_freeBlock_27 : decode cX6_freeBlock 27 = .ok (.invokevirtual 114, 3) := by decide +kernel
theorem dX6_freeBlock_30 : decode cX6_freeBlock 30 = .ok (.if_icmp .ge 31, 3) := by decide +kernel
theorem dX6_freeBlock_33 : decode cX6_freeBlock 33 = .ok (.aload_n 0, 1) := by decide +kernel
theorem dX6_freeBlock_34 : decode cX6_freeBlock 34 = .ok (.getfield 13, 3) := by decide +kernel
theorem dX6_freeBlock_37 : decode cX6_freeBlock 37 = .ok (.iload 4, 2) := by decide +kernel
theorem dX6_freeBlock_39 : decode cX6_freeBlock 39 = .ok (.iaload, 1) := by decide +kernel
theorem dX6_freeBlock_40 : decode cX6_freeBlock 40 = .ok (.iload_n 1, 1) := by decide +kernel
theorem dX6_freeBlock_41 : decode cX6_freeBlock 41 = .ok (.if_icmp .ne 14, 3) := by decide +kernel
theorem dX6_freeBlock_44 : decode cX6_freeBlock 44 = .ok (.iload_n 3, 1) := by decide +kernel
theorem dX6_freeBlock_45 : decode cX6_freeBlock 45 = .ok (.iload_n 2, 1) := by decide +kernel
theorem dX6_freeBlock_46 : decode cX6_freeBlock 46 = .ok (.if_icmp .ne 6, 3) := by decide +kernel
theorem dX6_freeBlock_49 : decode cX6_freeBlock 49 = .ok (.iload 4, 2) := by decide +kernel
theorem dX6_freeBlock_51 : decode cX6_freeBlock 51 = .ok (.ireturn, 1) := by decide +kernel
theorem dX6_freeBlock_52 : decode cX6_freeBlock 52 = .ok (.iinc 3 1, 3) := by decide +kernel
theorem dX6_freeBlock_55 : decode cX6_freeBlock 55 = .ok (.iinc 4 1, 3) := by decide +kernel
theorem dX6_freeBlock_58 : decode cX6_freeBlock 58 = .ok (.goto (-34), 3) := by decide +kernel
theorem dX6_freeBlock_61 : decode cX6_freeBlock 61 = .ok (.iload_n 2, 1) := by decide +kernel
theorem dX6_freeBlock_62 : decode cX6_freeBlock 62 = .ok (.iconst (-1), 1) := by decide +kernel
theorem dX6_freeBlock_63 : decode cX6_freeBlock 63 = .ok (.if_icmp .ne 7, 3) := by decide +kernel
theorem dX6_freeBlock_66 : decode cX6_freeBlock 66 = .ok (.iload_n 3, 1) := by decide +kernel
theorem dX6_freeBlock_67 : decode cX6_freeBlock 67 = .ok (.goto 4, 3) := by decide +kernel
theorem dX6_freeBlock_70 : decode cX6_freeBlock 70 = .ok (.iconst (-1), 1) := by decide +kernel
theorem dX6_freeBlock_71 : decode cX6_freeBlock 71 = .ok (.ireturn, 1) := by decide +kernel
theorem dX6_number_0 : decode cX6_number 0 = .ok (.aload_n 0, 1) := by decide +kernel
theorem dX6_number_1 : decode cX6_number 1 = .ok (.iload_n 1, 1) := by decide +kernel
theorem dX6_number_2 : decode cX6_number 2 = .ok (.invokevirtual 131, 3) := by decide +kernel
theorem dX6_number_5 : decode cX6_number 5 = .ok (.ifCond .eq 12, 3) := by decide +kernel
theorem dX6_number_8 : decode cX6_number 8 = .ok (.iload_n 2, 1) := by decide +kernel
theorem dX6_number_9 : decode cX6_number 9 = .ok (.ifCond .lt 8, 3) := by decide +kernel
theorem dX6_number_12 : decode cX6_number 12 = .ok (.iload_n 2, 1) := by decide +kernel
theorem dX6_number_13 : decode cX6_number 13 = .ok (.iconst 2, 1) := by decide +kernel
theorem dX6_number_14 : decode cX6_number 14 = .ok (.if_icmp .le 5, 3) := by decide +kernel
theorem dX6_number_17 : decode cX6_number 17 = .ok (.iconst (-1), 1) := by decide +kernel
theorem dX6_number_18 : decode cX6_number 18 = .ok (.ireturn, 1) := by decide +kernel
theorem dX6_number_19 : decode cX6_number 19 = .ok (.iload_n 2, 1) := by decide +kernel
theorem dX6_number_20 : decode cX6_number 20 = .ok (.ifCond .ne 12, 3) := by decide +kernel
theorem dX6_number_23 : decode cX6_number 23 = .ok (.aload_n 0, 1) := by decide +kernel
theorem dX6_number_24 : decode cX6_number 24 = .ok (.getfield 23, 3) := by decide +kernel
theorem dX6_number_27 : decode cX6_number 27 = .ok (.iload_n 1, 1) := by decide +kernel
theorem dX6_number_28 : decode cX6_number 28 = .ok (.iaload, 1) := by decide +kernel
theorem dX6_number_29 : decode cX6_number 29 = .ok (.goto 23, 3) := by decide +kernel
theorem dX6_number_32 : decode cX6_number 32 = .ok (.iload_n 2, 1) := by decide +kernel
theorem dX6_number_33 : decode cX6_number 33 = .ok (.iconst 1, 1) := by decide +kernel
theorem dX6_number_34 : decode cX6_number 34 = .ok (.if_icmp .ne 12, 3) := by decide +kernel
theorem dX6_number_37 : decode cX6_number 37 = .ok (.aload_n 0, 1) := by decide +kernel
theorem dX6_number_38 : decode cX6_number 38 = .ok (.getfield 26, 3) := by decide +kernel
theorem dX6_number_41 : decode cX6_number 41 = .ok (.iload_n 1, 1) := by decide +kernel
theorem dX6_number_42 : decode cX6_number 42 = .ok (.iaload, 1) := by decide +kernel
theorem dX6_number_43 : decode cX6_number 43 = .ok (.goto 9, 3) := by decide +kernel
theorem dX6_number_46 : decode cX6_number 46 = .ok (.aload_n 0, 1) := by decide +kernel
theorem dX6_number_47 : decode cX6_number 47 = .ok (.getfield 29, 3) := by decide +kernel
theorem dX6_number_50 : decode cX6_number 50 = .ok (.iload_n 1, 1) := by decide +kernel
theorem dX6_number_51 : decode cX6_number 51 = .ok (.iaload, 1) := by decide +kernel
theorem dX6_number_52 : decode cX6_number 52 = .ok (.ireturn, 1) := by decide +kernel
theorem dX6_count_0 : decode cX6_count 0 = .ok (.iload_n 1, 1) := by decide +kernel
theorem dX6_count_1 : decode cX6_count 1 = .ok (.tableswitch 78 0 4 #[35, 40, 45, 50, 55], 35) := by decide +kernel
theorem dX6_count_36 : decode cX6_count 36 = .ok (.aload_n 0, 1) := by decide +kernel
theorem dX6_count_37 : decode cX6_count 37 = .ok (.invokevirtual 107, 3) := by decide +kernel
theorem dX6_count_40 : decode cX6_count 40 = .ok (.ireturn, 1) := by decide +kernel
theorem dX6_count_41 : decode cX6_count 41 = .ok (.aload_n 0, 1) := by decide +kernel
theorem dX6_count_42 : decode cX6_count 42 = .ok (.invokevirtual 111, 3) := by decide +kernel
theorem dX6_count_45 : decode cX6_count 45 = .ok (.ireturn, 1) := by decide +kernel
theorem dX6_count_46 : decode cX6_count 46 = .ok (.aload_n 0, 1) := by decide +kernel
theorem dX6_count_47 : decode cX6_count 47 = .ok (.getfield 101, 3) := by decide +kernel
theorem dX6_count_50 : decode cX6_count 50 = .ok (.ireturn, 1) := by decide +kernel
theorem dX6_count_51 : decode cX6_count 51 = .ok (.aload_n 0, 1) := by decide +kernel
theorem dX6_count_52 : decode cX6_count 52 = .ok (.getfield 104, 3) := by decide +kernel
theorem dX6_count_55 : decode cX6_count 55 = .ok (.ireturn, 1) := by decide +kernel
theorem dX6_count_56 : decode cX6_count 56 = .ok (.iload_n 2, 1) := by decide +kernel
theorem dX6_count_57 : decode cX6_count 57 = .ok (.ifCond .lt 20, 3) := by decide +kernel
theorem dX6_count_60 : decode cX6_count 60 = .ok (.iload_n 2, 1) := by decide +kernel
theorem dX6_count_61 : decode cX6_count 61 = .ok (.aload_n 0, 1) := by decide +kernel
theorem dX6_count_62 : decode cX6_count 62 = .ok (.getfield 101, 3) := by decide +kernel
theorem dX6_count_65 : decode cX6_count 65 = .ok (.if_icmp .ge 12, 3) := by decide +kernel
theorem dX6_count_68 : decode cX6_count 68 = .ok (.aload_n 0, 1) := by decide +kernel
theorem dX6_count_69 : decode cX6_count 69 = .ok (.getfield 63, 3) := by decide +kernel
theorem dX6_count_72 : decode cX6_count 72 = .ok (.iload_n 2, 1) := by decide +kernel
theorem dX6_count_73 : decode cX6_count 73 = .ok (.iaload, 1) := by decide +kernel
theorem dX6_count_74 : decode cX6_count 74 = .ok (.goto 4, 3) := by decide +kernel
theorem dX6_count_77 : decode cX6_count 77 = .ok (.iconst (-1), 1) := by decide +kernel
theorem dX6_count_78 : decode cX6_count 78 = .ok (.ireturn, 1) := by decide +kernel
theorem dX6_count_79 : decode cX6_count 79 = .ok (.iconst (-1), 1) := by decide +kernel
theorem dX6_count_80 : decode cX6_count 80 = .ok (.ireturn, 1) := by decide +kernel
theorem dX6_loadU_0 : decode cX6_loadU 0 = .ok (.aload_n 0, 1) := by decide +kernel
theorem dX6_loadU_1 : decode cX6_loadU 1 = .ok (.aload_n 0, 1) := by decide +kernel
theorem dX6_loadU_2 : decode cX6_loadU 2 = .ok (.iload_n 1, 1) := by decide +kernel
theorem dX6_loadU_3 : decode cX6_loadU 3 = .ok (.invokevirtual 146, 3) := by decide +kernel
theorem dX6_loadU_6 : decode cX6_loadU 6 = .ok (.putfield 179, 3) := by decide +kernel
theorem dX6_loadU_9 : decode cX6_loadU 9 = .ok (.iconst 0, 1) := by decide +kernel
theorem dX6_loadU_10 : decode cX6_loadU 10 = .ok (.istore_n 2, 1) := by decide +kernel
theorem dX6_loadU_11 : decode cX6_loadU 11 = .ok (.iload_n 2, 1) := by decide +kernel
theorem dX6_loadU_12 : decode cX6_loadU 12 = .ok (.aload_n 0, 1) := by decide +kernel
theorem dX6_loadU_13 : decode cX6_loadU 13 = .ok (.getfield 179, 3) := by decide +kernel
theorem dX6_loadU_16 : decode cX6_loadU 16 = .ok (.if_icmp .ge 28, 3) := by decide +kernel
theorem dX6_loadU_19 : decode cX6_loadU 19 = .ok (.aload_n 0, 1) := by decide +kernel
theorem dX6_loadU_20 : decode cX6_loadU 20 = .ok (.getfield 66, 3) := by decide +kernel
theorem dX6_loadU_23 : decode cX6_loadU 23 = .ok (.iload_n 2, 1) := by decide +kernel
theorem dX6_loadU_24 : decode cX6_loadU 24 = .ok (.aload_n 0, 1) := by decide +kernel
theorem dX6_loadU_25 : decode cX6_loadU 25 = .ok (.getfield 7, 3) := by decide +kernel
theorem dX6_loadU_28 : decode cX6_loadU 28 = .ok (.aload_n 0, 1) := by decide +kernel
theorem dX6_loadU_29 : decode cX6_loadU 29 = .ok (.getfield 23, 3) := by decide +kernel
theorem dX6_loadU_32 : decode cX6_loadU 32 = .ok (.iload_n 1, 1) := by decide +kernel
theorem dX6_loadU_33 : decode cX6_loadU 33 = .ok (.iaload, 1) := by decide +kernel
theorem dX6_loadU_34 : decode cX6_loadU 34 = .ok (.iload_n 2, 1) := by decide +kernel
theorem dX6_loadU_35 : decode cX6_loadU 35 = .ok (.iadd, 1) := by decide +kernel
theorem dX6_loadU_36 : decode cX6_loadU 36 = .ok (.iaload, 1) := by decide +kernel
theorem dX6_loadU_37 : decode cX6_loadU 37 = .ok (.iastore, 1) := by decide +kernel
theorem dX6_loadU_38 : decode cX6_loadU 38 = .ok (.iinc 2 1, 3) := by decide +kernel
theorem dX6_loadU_41 : decode cX6_loadU 41 = .ok (.goto (-30), 3) := by decide +kernel
theorem dX6_loadU_44 : decode cX6_loadU 44 = .ok (.return_, 1) := by decide +kernel
theorem dX6_loadV_0 : decode cX6_loadV 0 = .ok (.aload_n 0, 1) := by decide +kernel
theorem dX6_loadV_1 : decode cX6_loadV 1 = .ok (.aload_n 0, 1) := by decide +kernel
theorem dX6_loadV_2 : decode cX6_loadV 2 = .ok (.iload_n 1, 1) := by decide +kernel
theorem dX6_loadV_3 : decode cX6_loadV 3 = .ok (.invokevirtual 146, 3) := by decide +kernel
theorem dX6_loadV_6 : decode cX6_loadV 6 = .ok (.putfield 182, 3) := by decide +kernel
theorem dX6_loadV_9 : decode cX6_loadV 9 = .ok (.iconst 0, 1) := by decide +kernel
theorem dX6_loadV_10 : decode cX6_loadV 10 = .ok (.istore_n 2, 1) := by decide +kernel
theorem dX6_loadV_11 : decode cX6_loadV 11 = .ok (.iload_n 2, 1) := by decide +kernel
theorem dX6_loadV_12 : decode cX6_loadV 12 = .ok (.aload_n 0, 1) := by decide +kernel
theorem dX6_loadV_13 : decode cX6_loadV 13 = .ok (.getfield 182, 3) := by decide +kernel
theorem dX6_loadV_16 : decode cX6_loadV 16 = .ok (.if_icmp .ge 28, 3) := by decide +kernel
theorem dX6_loadV_19 : decode cX6_loadV 19 = .ok (.aload_n 0, 1) := by decide +kernel
theorem dX6_loadV_20 : decode cX6_loadV 20 = .ok (.getfield 69, 3) := by decide +kernel
theorem dX6_loadV_23 : decode cX6_loadV 23 = .ok (.iload_n 2, 1) := by decide +kernel
theorem dX6_loadV_24 : decode cX6_loadV 24 = .ok (.aload_n 0, 1) := by decide +kernel
theorem dX6_loadV_25 : decode cX6_loadV 25 = .ok (.getfield 7, 3) := by decide +kernel
theorem dX6_loadV_28 : decode cX6_loadV 28 = .ok (.aload_n 0, 1) := by decide +kernel
theorem dX6_loadV_29 : decode cX6_loadV 29 = .ok (.getfield 23, 3) := by decide +kernel
theorem dX6_loadV_32 : decode cX6_loadV 32 = .ok (.iload_n 1, 1) := by decide +kernel
theorem dX6_loadV_33 : decode cX6_loadV 33 = .ok (.iaload, 1) := by decide +kernel
theorem dX6_loadV_34 : decode cX6_loadV 34 = .ok (.iload_n 2, 1) := by decide +kernel
theorem dX6_loadV_35 : decode cX6_loadV 35 = .ok (.iadd, 1) := by decide +kernel
theorem dX6_loadV_36 : decode cX6_loadV 36 = .ok (.iaload, 1) := by decide +kernel
theorem dX6_loadV_37 : decode cX6_loadV 37 = .ok (.iastore, 1) := by decide +kernel
theorem dX6_loadV_38 : decode cX6_loadV 38 = .ok (.iinc 2 1, 3) := by decide +kernel
theorem dX6_loadV_41 : decode cX6_loadV 41 = .ok (.goto (-30), 3) := by decide +kernel
theorem dX6_loadV_44 : decode cX6_loadV 44 = .ok (.return_, 1) := by decide +kernel
theorem dX6_shiftOfV_0 : decode cX6_shiftOfV 0 = .ok (.iconst 0, 1) := by decide +kernel
theorem dX6_shiftOfV_1 : decode cX6_shiftOfV 1 = .ok (.istore_n 1, 1) := by decide +kernel
theorem dX6_shiftOfV_2 : decode cX6_shiftOfV 2 = .ok (.aload_n 0, 1) := by decide +kernel
theorem dX6_shiftOfV_3 : decode cX6_shiftOfV 3 = .ok (.getfield 69, 3) := by decide +kernel
theorem dX6_shiftOfV_6 : decode cX6_shiftOfV 6 = .ok (.aload_n 0, 1) := by decide +kernel
theorem dX6_shiftOfV_7 : decode cX6_shiftOfV 7 = .ok (.getfield 182, 3) := by decide +kernel
theorem dX6_shiftOfV_10 : decode cX6_shiftOfV 10 = .ok (.iconst 1, 1) := by decide +kernel
theorem dX6_shiftOfV_11 : decode cX6_shiftOfV 11 = .ok (.isub, 1) := by decide +kernel
theorem dX6_shiftOfV_12 : decode cX6_shiftOfV 12 = .ok (.iaload, 1) := by decide +kernel
theorem dX6_shiftOfV_13 : decode cX6_shiftOfV 13 = .ok (.iload_n 1, 1) := by decide +kernel
theorem dX6_shiftOfV_14 : decode cX6_shiftOfV 14 = .ok (.ishl, 1) := by decide +kernel
theorem dX6_shiftOfV_15 : decode cX6_shiftOfV 15 = .ok (.ldc 185, 2) := by decide +kernel
theorem dX6_shiftOfV_17 : decode cX6_shiftOfV 17 = .ok (.iand, 1) := by decide +kernel
theorem dX6_shiftOfV_18 : decode cX6_shiftOfV 18 = .ok (.ifCond .ne 9, 3) := by decide +kernel
theorem dX6_shiftOfV_21 : decode cX6_shiftOfV 21 = .ok (.iinc 1 1, 3) := by decide +kernel
theorem dX6_shiftOfV_24 : decode cX6_shiftOfV 24 = .ok (.goto (-22), 3) := by decide +kernel
theorem dX6_shiftOfV_27 : decode cX6_shiftOfV 27 = .ok (.iload_n 1, 1) := by decide +kernel
theorem dX6_shiftOfV_28 : decode cX6_shiftOfV 28 = .ok (.ireturn, 1) := by decide +kernel
theorem dX6_divide_0 : decode cX6_divide 0 = .ok (.aload_n 0, 1) := by decide +kernel
theorem dX6_divide_1 : decode cX6_divide 1 = .ok (.getfield 179, 3) := by decide +kernel
theorem dX6_divide_4 : decode cX6_divide 4 = .ok (.aload_n 0, 1) := by decide +kernel
theorem dX6_divide_5 : decode cX6_divide 5 = .ok (.getfield 182, 3) := by decide +kernel
theorem dX6_divide_8 : decode cX6_divide 8 = .ok (.if_icmp .ge 4, 3) := by decide +kernel
theorem dX6_divide_11 : decode cX6_divide 11 = .ok (.return_, 1) := by decide +kernel
theorem dX6_divide_12 : decode cX6_divide 12 = .ok (.aload_n 0, 1) := by decide +kernel
theorem dX6_divide_13 : decode cX6_divide 13 = .ok (.invokevirtual 186, 3) := by decide +kernel
theorem dX6_divide_16 : decode cX6_divide 16 = .ok (.istore_n 1, 1) := by decide +kernel
theorem dX6_divide_17 : decode cX6_divide 17 = .ok (.aload_n 0, 1) := by decide +kernel
theorem dX6_divide_18 : decode cX6_divide 18 = .ok (.getfield 182, 3) := by decide +kernel
theorem dX6_divide_21 : decode cX6_divide 21 = .ok (.istore_n 2, 1) := by decide +kernel
theorem dX6_divide_22 : decode cX6_divide 22 = .ok (.aload_n 0, 1) := by decide +kernel
theorem dX6_divide_23 : decode cX6_divide 23 = .ok (.getfield 66, 3) := by decide +kernel
theorem dX6_divide_26 : decode cX6_divide 26 = .ok (.aload_n 0, 1) := by decide +kernel
theorem dX6_divide_27 : decode cX6_divide 27 = .ok (.getfield 179, 3) := by decide +kernel
theorem dX6_divide_30 : decode cX6_divide 30 = .ok (.iconst 0, 1) := by decide +kernel
theorem dX6_divide_31 : decode cX6_divide 31 = .ok (.iastore, 1) := by decide +kernel
theorem dX6_divide_32 : decode cX6_divide 32 = .ok (.aload_n 0, 1) := by decide +kernel
theorem dX6_divide_33 : decode cX6_divide 33 = .ok (.getfield 179, 3) := by decide +kernel
theorem dX6_divide_36 : decode cX6_divide 36 = .ok (.istore_n 3, 1) := by decide +kernel
theorem dX6_divide_37 : decode cX6_divide 37 = .ok (.iload_n 3, 1) := by decide +kernel
theorem dX6_divide_38 : decode cX6_divide 38 = .ok (.ifCond .le 51, 3) := by decide +kernel
theorem dX6_divide_41 : decode cX6_divide 41 = .ok (.aload_n 0, 1) := by decide +kernel
theorem dX6_divide_42 : decode cX6_divide 42 = .ok (.getfield 66, 3) := by decide +kernel
theorem dX6_divide_45 : decode cX6_divide 45 = .ok (.iload_n 3, 1) := by decide +kernel
theorem dX6_divide_46 : decode cX6_divide 46 = .ok (.aload_n 0, 1) := by decide +kernel
theorem dX6_divide_47 : decode cX6_divide 47 = .ok (.getfield 66, 3) := by decide +kernel
theorem dX6_divide_50 : decode cX6_divide 50 = .ok (.iload_n 3, 1) := by decide +kernel
theorem dX6_divide_51 : decode cX6_divide 51 = .ok (.iaload, 1) := by decide +kernel
theorem dX6_divide_52 : decode cX6_divide 52 = .ok (.i2l, 1) := by decide +kernel
theorem dX6_divide_53 : decode cX6_divide 53 = .ok (.iload_n 1, 1) := by decide +kernel
theorem dX6_divide_54 : decode cX6_divide 54 = .ok (.lshl, 1) := by decide +kernel
theorem dX6_divide_55 : decode cX6_divide 55 = .ok (.ldc2_w 189, 3) := by decide +kernel
theorem dX6_divide_58 : decode cX6_divide 58 = .ok (.land, 1) := by decide +kernel
theorem dX6_divide_59 : decode cX6_divide 59 = .ok (.l2i, 1) := by decide +kernel
theorem dX6_divide_60 : decode cX6_divide 60 = .ok (.iload_n 1, 1) := by decide +kernel
theorem dX6_divide_61 : decode cX6_divide 61 = .ok (.ifCond .ne 7, 3) := by decide +kernel
theorem dX6_divide_64 : decode cX6_divide 64 = .ok (.iconst 0, 1) := by decide +kernel
theorem dX6_divide_65 : decode cX6_divide 65 = .ok (.goto 16, 3) := by decide +kernel
theorem dX6_divide_68 : decode cX6_divide 68 = .ok (.aload_n 0, 1) := by decide +kernel
theorem dX6_divide_69 : decode cX6_divide 69 = .ok (.getfield 66, 3) := by decide +kernel
theorem dX6_divide_72 : decode cX6_divide 72 = .ok (.iload_n 3, 1) := by decide +kernel
theorem dX6_divide_73 : decode cX6_divide 73 = .ok (.iconst 1, 1) := by decide +kernel
theorem dX6_divide_74 : decode cX6_divide 74 = .ok (.isub, 1) := by decide +kernel
theorem dX6_divide_75 : decode cX6_divide 75 = .ok (.iaload, 1) := by decide +kernel
theorem dX6_divide_76 : decode cX6_divide 76 = .ok (.bipush 31, 2) := by decide +kernel
theorem dX6_divide_78 : decode cX6_divide 78 = .ok (.iload_n 1, 1) := by decide +kernel
theorem dX6_divide_79 : decode cX6_divide 79 = .ok (.isub, 1) := by decide +kernel
theorem dX6_divide_80 : decode cX6_divide 80 = .ok (.ishr, 1) := by decide +kernel
theorem dX6_divide_81 : decode cX6_divide 81 = .ok (.ior, 1) := by decide +kernel
theorem dX6_divide_82 : decode cX6_divide 82 = .ok (.iastore, 1) := by decide +kernel
theorem dX6_divide_83 : decode cX6_divide 83 = .ok (.iinc 3 (-1), 3) := by decide +kernel
theorem dX6_divide_86 : decode cX6_divide 86 = .ok (.goto (-49), 3) := by decide +kernel
theorem dX6_divide_89 : decode cX6_divide 89 = .ok (.aload_n 0, 1) := by decide +kernel
theorem dX6_divide_90 : decode cX6_divide 90 = .ok (.getfield 66, 3) := by decide +kernel
theorem dX6_divide_93 : decode cX6_divide 93 = .ok (.iconst 0, 1) := by decide +kernel
theorem dX6_divide_94 : decode cX6_divide 94 = .ok (.aload_n 0, 1) := by decide +kernel
theorem dX6_divide_95 : decode cX6_divide 95 = .ok (.getfield 66, 3) := by decide +kernel
theorem dX6_divide_98 : decode cX6_divide 98 = .ok (.iconst 0, 1) := by decide +kernel
theorem dX6_divide_99 : decode cX6_divide 99 = .ok (.iaload, 1) := by decide +kernel
theorem dX6_divide_100 : decode cX6_divide 100 = .ok (.i2l, 1) := by decide +kernel
theorem dX6_divide_101 : decode cX6_divide 101 = .ok (.iload_n 1, 1) := by decide +kernel
theorem dX6_divide_102 : decode cX6_divide 102 = .ok (.lshl, 1) := by decide +kernel
theorem dX6_divide_103 : decode cX6_divide 103 = .ok (.ldc2_w 189, 3) := by decide +kernel
theorem dX6_divide_106 : decode cX6_divide 106 = .ok (.land, 1) := by decide +kernel
theorem dX6_divide_107 : decode cX6_divide 107 = .ok (.l2i, 1) := by decide +kernel
theorem dX6_divide_108 : decode cX6_divide 108 = .ok (.iastore, 1) := by decide +kernel
theorem dX6_divide_109 : decode cX6_divide 109 = .ok (.iload_n 2, 1) := by decide +kernel
theorem dX6_divide_110 : decode cX6_divide 110 = .ok (.iconst 1, 1) := by decide +kernel
theorem dX6_divide_111 : decode cX6_divide 111 = .ok (.isub, 1) := by decide +kernel
theorem dX6_divide_112 : decode cX6_divide 112 = .ok (.istore_n 3, 1) := by decide +kernel
theorem dX6_divide_113 : decode cX6_divide 113 = .ok (.iload_n 3, 1) := by decide +kernel
theorem dX6_divide_114 : decode cX6_divide 114 = .ok (.ifCond .lt 55, 3) := by decide +kernel
theorem dX6_divide_117 : decode cX6_divide 117 = .ok (.aload_n 0, 1) := by decide +kernel
theorem dX6_divide_118 : decode cX6_divide 118 = .ok (.getfield 69, 3) := by decide +kernel
theorem dX6_divide_121 : decode cX6_divide 121 = .ok (.iload_n 3, 1) := by decide +kernel
theorem dX6_divide_122 : decode cX6_divide 122 = .ok (.aload_n 0, 1) := by decide +kernel
theorem dX6_divide_123 : decode cX6_divide 123 = .ok (.getfield 69, 3) := by decide +kernel
theorem dX6_divide_126 : decode cX6_divide 126 = .ok (.iload_n 3, 1) := by decide +kernel
theorem dX6_divide_127 : decode cX6_divide 127 = .ok (.iaload, 1) := by decide +kernel
theorem dX6_divide_128 : decode cX6_divide 128 = .ok (.i2l, 1) := by decide +kernel
theorem dX6_divide_129 : decode cX6_divide 129 = .ok (.iload_n 1, 1) := by decide +kernel
theorem dX6_divide_130 : decode cX6_divide 130 = .ok (.lshl, 1) := by decide +kernel
theorem dX6_divide_131 : decode cX6_divide 131 = .ok (.ldc2_w 189, 3) := by decide +kernel
theorem dX6_divide_134 : decode cX6_divide 134 = .ok (.land, 1) := by decide +kernel
theorem dX6_divide_135 : decode cX6_divide 135 = .ok (.l2i, 1) := by decide +kernel
theorem dX6_divide_136 : decode cX6_divide 136 = .ok (.iload_n 1, 1) := by decide +kernel
theorem dX6_divide_137 : decode cX6_divide 137 = .ok (.ifCond .eq 7, 3) := by decide +kernel
theorem dX6_divide_140 : decode cX6_divide 140 = .ok (.iload_n 3, 1) := by decide +kernel
theorem dX6_divide_141 : decode cX6_divide 141 = .ok (.ifCond .ne 7, 3) := by decide +kernel
theorem dX6_divide_144 : decode cX6_divide 144 = .ok (.iconst 0, 1) := by decide +kernel
theorem dX6_divide_145 : decode cX6_divide 145 = .ok (.goto 16, 3) := by decide +kernel
theorem dX6_divide_148 : decode cX6_divide 148 = .ok (.aload_n 0, 1) := by decide +kernel
theorem dX6_divide_149 : decode cX6_divide 149 = .ok (.getfield 69, 3) := by decide +kernel
theorem dX6_divide_152 : decode cX6_divide 152 = .ok (.iload_n 3, 1) := by decide +kernel
theorem dX6_divide_153 : decode cX6_divide 153 = .ok (.iconst 1, 1) := by decide +kernel
theorem dX6_divide_154 : decode cX6_divide 154 = .ok (.isub, 1) := by decide +kernel
theorem dX6_divide_155 : decode cX6_divide 155 = .ok (.iaload, 1) := by decide +kernel
theorem dX6_divide_156 : decode cX6_divide 156 = .ok (.bipush 31, 2) := by decide +kernel
theorem dX6_divide_158 : decode cX6_divide 158 = .ok (.iload_n 1, 1) := by decide +kernel
theorem dX6_divide_159 : decode cX6_divide 159 = .ok (.isub, 1) := by decide +kernel
theorem dX6_divide_160 : decode cX6_divide 160 = .ok (.ishr, 1) := by decide +kernel
theorem dX6_divide_161 : decode cX6_divide 161 = .ok (.ior, 1) := by decide +kernel
theorem dX6_divide_162 : decode cX6_divide 162 = .ok (.iastore, 1) := by decide +kernel
theorem dX6_divide_163 : decode cX6_divide 163 = .ok (.iinc 3 (-1), 3) := by decide +kernel
theorem dX6_divide_166 : decode cX6_divide 166 = .ok (.goto (-53), 3) := by decide +kernel
theorem dX6_divide_169 : decode cX6_divide 169 = .ok (.aload_n 0, 1) := by decide +kernel
theorem dX6_divide_170 : decode cX6_divide 170 = .ok (.getfield 179, 3) := by decide +kernel
theorem dX6_divide_173 : decode cX6_divide 173 = .ok (.iload_n 2, 1) := by decide +kernel
theorem dX6_divide_174 : decode cX6_divide 174 = .ok (.isub, 1) := by decide +kernel
theorem dX6_divide_175 : decode cX6_divide 175 = .ok (.istore_n 3, 1) := by decide +kernel
theorem dX6_divide_176 : decode cX6_divide 176 = .ok (.iload_n 3, 1) := by decide +kernel
theorem dX6_divide_177 : decode cX6_divide 177 = .ok (.ifCond .lt 22, 3) := by decide +kernel
theorem dX6_divide_180 : decode cX6_divide 180 = .ok (.aload_n 0, 1) := by decide +kernel
theorem dX6_divide_181 : decode cX6_divide 181 = .ok (.getfield 72, 3) := by decide +kernel
theorem dX6_divide_184 : decode cX6_divide 184 = .ok (.iload_n 3, 1) := by decide +kernel
theorem dX6_divide_185 : decode cX6_divide 185 = .ok (.aload_n 0, 1) := by decide +kernel
theorem dX6_divide_186 : decode cX6_divide 186 = .ok (.iload_n 3, 1) := by decide +kernel
theorem dX6_divide_187 : decode cX6_divide 187 = .ok (.iload_n 2, 1) := by decide +kernel
theorem dX6_divide_188 : decode cX6_divide 188 = .ok (.invokevirtual 191, 3) := by decide +kernel
theorem dX6_divide_191 : decode cX6_divide 191 = .ok (.l2i, 1) := by decide +kernel
theorem dX6_divide_192 : decode cX6_divide 192 = .ok (.iastore, 1) := by decide +kernel
theorem dX6_divide_193 : decode cX6_divide 193 = .ok (.iinc 3 (-1), 3) := by decide +kernel
theorem dX6_divide_196 : decode cX6_divide 196 = .ok (.goto (-20), 3) := by decide +kernel
theorem dX6_divide_199 : decode cX6_divide 199 = .ok (.iconst 0, 1) := by decide +kernel
theorem dX6_divide_200 : decode cX6_divide 200 = .ok (.istore_n 3, 1) := by decide +kernel
theorem dX6_divide_201 : decode cX6_divide 201 = .ok (.iload_n 3, 1) := by decide +kernel
theorem dX6_divide_202 : decode cX6_divide 202 = .ok (.iload_n 2, 1) := by decide +kernel
theorem dX6_divide_203 : decode cX6_divide 203 = .ok (.if_icmp .ge 119, 3) := by decide +kernel
theorem dX6_divide_206 : decode cX6_divide 206 = .ok (.iload_n 3, 1) := by decide +kernel
theorem dX6_divide_207 : decode cX6_divide 207 = .ok (.iconst 1, 1) := by decide +kernel
theorem dX6_divide_208 : decode cX6_divide 208 = .ok (.iadd, 1) := by decide +kernel
theorem dX6_divide_209 : decode cX6_divide 209 = .ok (.iload_n 2, 1) := by decide +kernel
theorem dX6_divide_210 : decode cX6_divide 210 = .ok (.if_icmp .ge 9, 3) := by decide +kernel
theorem dX6_divide_213 : decode cX6_divide 213 = .ok (.iload_n 3, 1) := by decide +kernel
theorem dX6_divide_214 : decode cX6_divide 214 = .ok (.iconst 1, 1) := by decide +kernel
theorem dX6_divide_215 : decode cX6_divide 215 = .ok (.iadd, 1) := by decide +kernel
theorem dX6_divide_216 : decode cX6_divide 216 = .ok (.goto 4, 3) := by decide +kernel
theorem dX6_divide_219 : decode cX6_divide 219 = .ok (.iconst (-1), 1) := by decide +kernel
theorem dX6_divide_220 : decode cX6_divide 220 = .ok (.istore 4, 2) := by decide +kernel
theorem dX6_divide_222 : decode cX6_divide 222 = .ok (.aload_n 0, 1) := by decide +kernel
theorem dX6_divide_223 : decode cX6_divide 223 = .ok (.getfield 66, 3) := by decide +kernel
theorem dX6_divide_226 : decode cX6_divide 226 = .ok (.iload_n 3, 1) := by decide +kernel
theorem dX6_divide_227 : decode cX6_divide 227 = .ok (.aload_n 0, 1) := by decide +kernel
theorem dX6_divide_228 : decode cX6_divide 228 = .ok (.getfield 66, 3) := by decide +kernel
theorem dX6_divide_231 : decode cX6_divide 231 = .ok (.iload_n 3, 1) := by decide +kernel
theorem dX6_divide_232 : decode cX6_divide 232 = .ok (.iaload, 1) := by decide +kernel
theorem dX6_divide_233 : decode cX6_divide 233 = .ok (.iload_n 1, 1) := by decide +kernel
theorem dX6_divide_234 : decode cX6_divide 234 = .ok (.ishr, 1) := by decide +kernel
theorem dX6_divide_235 : decode cX6_divide 235 = .ok (.iload_n 1, 1) := by decide +kernel
theorem dX6_divide_236 : decode cX6_divide 236 = .ok (.ifCond .eq 8, 3) := by decide +kernel
theorem dX6_divide_239 : decode cX6_divide 239 = .ok (.iload 4, 2) := by decide +kernel
theorem dX6_divide_241 : decode cX6_divide 241 = .ok (.ifCond .ge 7, 3) := by decide +kernel
theorem dX6_divide_244 : decode cX6_divide 244 = .ok (.iconst 0, 1) := by decide +kernel
theorem dX6_divide_245 : decode cX6_divide 245 = .ok (.goto 22, 3) := by decide +kernel
theorem dX6_divide_248 : decode cX6_divide 248 = .ok (.aload_n 0, 1) := by decide +kernel
theorem dX6_divide_249 : decode cX6_divide 249 = .ok (.getfield 66, 3) := by decide +kernel
theorem dX6_divide_252 : decode cX6_divide 252 = .ok (.iload_n 3, 1) := by decide +kernel
theorem dX6_divide_253 : decode cX6_divide 253 = .ok (.iconst 1, 1) := by decide +kernel
theorem dX6_divide_254 : decode cX6_divide 254 = .ok (.iadd, 1) := by decide +kernel
theorem dX6_divide_255 : decode cX6_divide 255 = .ok (.iaload, 1) := by decide +kernel
theorem dX6_divide_256 : decode cX6_divide 256 = .ok (.i2l, 1) := by decide +kernel
theorem dX6_divide_257 : decode cX6_divide 257 = .ok (.bipush 31, 2) := by decide +kernel
theorem dX6_divide_259 : decode cX6_divide 259 = .ok (.iload_n 1, 1) := by decide +kernel
theorem dX6_divide_260 : decode cX6_divide 260 = .ok (.isub, 1) := by decide +kernel
theorem dX6_divide_261 : decode cX6_divide 261 = .ok (.lshl, 1) := by decide +kernel
theorem dX6_divide_262 : decode cX6_divide 262 = .ok (.ldc2_w 189, 3) := by decide +kernel
theorem dX6_divide_265 : decode cX6_divide 265 = .ok (.land, 1) := by decide +kernel
theorem dX6_divide_266 : decode cX6_divide 266 = .ok (.l2i, 1) := by decide +kernel
theorem dX6_divide_267 : decode cX6_divide 267 = .ok (.ior, 1) := by decide +kernel
theorem dX6_divide_268 : decode cX6_divide 268 = .ok (.iastore, 1) := by decide +kernel
theorem dX6_divide_269 : decode cX6_divide 269 = .ok (.aload_n 0, 1) := by decide +kernel
theorem dX6_divide_270 : decode cX6_divide 270 = .ok (.getfield 69, 3) := by decide +kernel
theorem dX6_divide_273 : decode cX6_divide 273 = .ok (.iload_n 3, 1) := by decide +kernel
theorem dX6_divide_274 : decode cX6_divide 274 = .ok (.aload_n 0, 1) := by decide +kernel
theorem dX6_divide_275 : decode cX6_divide 275 = .ok (.getfield 69, 3) := by decide +kernel
theorem dX6_divide_278 : decode cX6_divide 278 = .ok (.iload_n 3, 1) := by decide +kernel
theorem dX6_divide_279 : decode cX6_divide 279 = .ok (.iaload, 1) := by decide +kernel
theorem dX6_divide_280 : decode cX6_divide 280 = .ok (.iload_n 1, 1) := by decide +kernel
theorem dX6_divide_281 : decode cX6_divide 281 = .ok (.ishr, 1) := by decide +kernel
theorem dX6_divide_282 : decode cX6_divide 282 = .ok (.iload_n 1, 1) := by decide +kernel
theorem dX6_divide_283 : decode cX6_divide 283 = .ok (.ifCond .eq 8, 3) := by decide +kernel
theorem dX6_divide_286 : decode cX6_divide 286 = .ok (.iload 4, 2) := by decide +kernel
theorem dX6_divide_288 : decode cX6_divide 288 = .ok (.ifCond .ge 7, 3) := by decide +kernel
theorem dX6_divide_291 : decode cX6_divide 291 = .ok (.iconst 0, 1) := by decide +kernel
theorem dX6_divide_292 : decode cX6_divide 292 = .ok (.goto 22, 3) := by decide +kernel
theorem dX6_divide_295 : decode cX6_divide 295 = .ok (.aload_n 0, 1) := by decide +kernel
theorem dX6_divide_296 : decode cX6_divide 296 = .ok (.getfield 69, 3) := by decide +kernel
theorem dX6_divide_299 : decode cX6_divide 299 = .ok (.iload_n 3, 1) := by decide +kernel
theorem dX6_divide_300 : decode cX6_divide 300 = .ok (.iconst 1, 1) := by decide +kernel
theorem dX6_divide_301 : decode cX6_divide 301 = .ok (.iadd, 1) := by decide +kernel
theorem dX6_divide_302 : decode cX6_divide 302 = .ok (.iaload, 1) := by decide +kernel
theorem dX6_divide_303 : decode cX6_divide 303 = .ok (.i2l, 1) := by decide +kernel
theorem dX6_divide_304 : decode cX6_divide 304 = .ok (.bipush 31, 2) := by decide +kernel
theorem dX6_divide_306 : decode cX6_divide 306 = .ok (.iload_n 1, 1) := by decide +kernel
theorem dX6_divide_307 : decode cX6_divide 307 = .ok (.isub, 1) := by decide +kernel
theorem dX6_divide_308 : decode cX6_divide 308 = .ok (.lshl, 1) := by decide +kernel
theorem dX6_divide_309 : decode cX6_divide 309 = .ok (.ldc2_w 189, 3) := by decide +kernel
theorem dX6_divide_312 : decode cX6_divide 312 = .ok (.land, 1) := by decide +kernel
theorem dX6_divide_313 : decode cX6_divide 313 = .ok (.l2i, 1) := by decide +kernel
theorem dX6_divide_314 : decode cX6_divide 314 = .ok (.ior, 1) := by decide +kernel
theorem dX6_divide_315 : decode cX6_divide 315 = .ok (.iastore, 1) := by decide +kernel
theorem dX6_divide_316 : decode cX6_divide 316 = .ok (.iinc 3 1, 3) := by decide +kernel
theorem dX6_divide_319 : decode cX6_divide 319 = .ok (.goto (-118), 3) := by decide +kernel
theorem dX6_divide_322 : decode cX6_divide 322 = .ok (.aload_n 0, 1) := by decide +kernel
theorem dX6_divide_323 : decode cX6_divide 323 = .ok (.iload_n 2, 1) := by decide +kernel
theorem dX6_divide_324 : decode cX6_divide 324 = .ok (.putfield 179, 3) := by decide +kernel
theorem dX6_divide_327 : decode cX6_divide 327 = .ok (.aload_n 0, 1) := by decide +kernel
theorem dX6_divide_328 : decode cX6_divide 328 = .ok (.getfield 179, 3) := by decide +kernel
theorem dX6_divide_331 : decode cX6_divide 331 = .ok (.ifCond .le 30, 3) := by decide +kernel
theorem dX6_divide_334 : decode cX6_divide 334 = .ok (.aload_n 0, 1) := by decide +kernel
theorem dX6_divide_335 : decode cX6_divide 335 = .ok (.getfield 66, 3) := by decide +kernel
theorem dX6_divide_338 : decode cX6_divide 338 = .ok (.aload_n 0, 1) := by decide +kernel
theorem dX6_divide_339 : decode cX6_divide 339 = .ok (.getfield 179, 3) := by decide +kernel
theorem dX6_divide_342 : decode cX6_divide 342 = .ok (.iconst 1, 1) := by decide +kernel
theorem dX6_divide_343 : decode cX6_divide 343 = .ok (.isub, 1) := by decide +kernel
theorem dX6_divide_344 : decode cX6_divide 344 = .ok (.iaload, 1) := by decide +kernel
theorem dX6_divide_345 : decode cX6_divide 345 = .ok (.ifCond .ne 16, 3) := by decide +kernel
theorem dX6_divide_348 : decode cX6_divide 348 = .ok (.aload_n 0, 1) := by decide +kernel
theorem dX6_divide_349 : decode cX6_divide 349 = .ok (.dup, 1) := by decide +kernel
theorem dX6_divide_350 : decode cX6_divide 350 = .ok (.getfield 179, 3) := by decide +kernel
theorem dX6_divide_353 : decode cX6_divide 353 = .ok (.iconst 1, 1) := by decide +kernel
theorem dX6_divide_354 : decode cX6_divide 354 = .ok (.isub, 1) := by decide +kernel
theorem dX6_divide_355 : decode cX6_divide 355 = .ok (.putfield 179, 3) := by decide +kernel
theorem dX6_divide_358 : decode cX6_divide 358 = .ok (.goto (-31), 3) := by decide +kernel
theorem dX6_divide_361 : decode cX6_divide 361 = .ok (.return_, 1) := by decide +kernel
theorem dX6_digit_0 : decode cX6_digit 0 = .ok (.aload_n 0, 1) := by decide +kernel
theorem dX6_digit_1 : decode cX6_digit 1 = .ok (.getfield 66, 3) := by decide +kernel
theorem dX6_digit_4 : decode cX6_digit 4 = .ok (.iload_n 1, 1) := by decide +kernel
theorem dX6_digit_5 : decode cX6_digit 5 = .ok (.iload_n 2, 1) := by decide +kernel
theorem dX6_digit_6 : decode cX6_digit 6 = .ok (.iadd, 1) := by decide +kernel
theorem dX6_digit_7 : decode cX6_digit 7 = .ok (.iaload, 1) := by decide +kernel
theorem dX6_digit_8 : decode cX6_digit 8 = .ok (.i2l, 1) := by decide +kernel
theorem dX6_digit_9 : decode cX6_digit 9 = .ok (.bipush 31, 2) := by decide +kernel
theorem dX6_digit_11 : decode cX6_digit 11 = .ok (.lshl, 1) := by decide +kernel
theorem dX6_digit_12 : decode cX6_digit 12 = .ok (.aload_n 0, 1) := by decide +kernel
theorem dX6_digit_13 : decode cX6_digit 13 = .ok (.getfield 66, 3) := by decide +kernel
theorem dX6_digit_16 : decode cX6_digit 16 = .ok (.iload_n 1, 1) := by decide +kernel
theorem dX6_digit_17 : decode cX6_digit 17 = .ok (.iload_n 2, 1) := by decide +kernel
theorem dX6_digit_18 : decode cX6_digit 18 = .ok (.iadd, 1) := by decide +kernel
theorem dX6_digit_19 : decode cX6_digit 19 = .ok (.iconst 1, 1) := by decide +kernel
theorem dX6_digit_20 : decode cX6_digit 20 = .ok (.isub, 1) := by decide +kernel
theorem dX6_digit_21 : decode cX6_digit 21 = .ok (.iaload, 1) := by decide +kernel
theorem dX6_digit_22 : decode cX6_digit 22 = .ok (.i2l, 1) := by decide +kernel
theorem dX6_digit_23 : decode cX6_digit 23 = .ok (.ladd, 1) := by decide +kernel
theorem dX6_digit_24 : decode cX6_digit 24 = .ok (.lstore_n 3, 1) := by decide +kernel
theorem dX6_digit_25 : decode cX6_digit 25 = .ok (.lload_n 3, 1) := by decide +kernel
theorem dX6_digit_26 : decode cX6_digit 26 = .ok (.aload_n 0, 1) := by decide +kernel
theorem dX6_digit_27 : decode cX6_digit 27 = .ok (.getfield 69, 3) := by decide +kernel
theorem dX6_digit_30 : decode cX6_digit 30 = .ok (.iload_n 2, 1) := by decide +kernel
theorem dX6_digit_31 : decode cX6_digit 31 = .ok (.iconst 1, 1) := by decide +kernel
theorem dX6_digit_32 : decode cX6_digit 32 = .ok (.isub, 1) := by decide +kernel
theorem dX6_digit_33 : decode cX6_digit 33 = .ok (.iaload, 1) := by decide +kernel
theorem dX6_digit_34 : decode cX6_digit 34 = .ok (.i2l, 1) := by decide +kernel
theorem dX6_digit_35 : decode cX6_digit 35 = .ok (.ldiv, 1) := by decide +kernel
theorem dX6_digit_36 : decode cX6_digit 36 = .ok (.lstore 5, 2) := by decide +kernel
theorem dX6_digit_38 : decode cX6_digit 38 = .ok (.lload_n 3, 1) := by decide +kernel
theorem dX6_digit_39 : decode cX6_digit 39 = .ok (.aload_n 0, 1) := by decide +kernel
theorem dX6_digit_40 : decode cX6_digit 40 = .ok (.getfield 69, 3) := by decide +kernel
theorem dX6_digit_43 : decode cX6_digit 43 = .ok (.iload_n 2, 1) := by decide +kernel
theorem dX6_digit_44 : decode cX6_digit 44 = .ok (.iconst 1, 1) := by decide +kernel
theorem dX6_digit_45 : decode cX6_digit 45 = .ok (.isub, 1) := by decide +kernel
theorem dX6_digit_46 : decode cX6_digit 46 = .ok (.iaload, 1) := by decide +kernel
theorem dX6_digit_47 : decode cX6_digit 47 = .ok (.i2l, 1) := by decide +kernel
theorem dX6_digit_48 : decode cX6_digit 48 = .ok (.lrem, 1) := by decide +kernel
theorem dX6_digit_49 : decode cX6_digit 49 = .ok (.lstore 7, 2) := by decide +kernel
theorem dX6_digit_51 : decode cX6_digit 51 = .ok (.iconst 1, 1) := by decide +kernel
theorem dX6_digit_52 : decode cX6_digit 52 = .ok (.istore 9, 2) := by decide +kernel
theorem dX6_digit_54 : decode cX6_digit 54 = .ok (.iload 9, 2) := by decide +kernel
theorem dX6_digit_56 : decode cX6_digit 56 = .ok (.ifCond .eq 94, 3) := by decide +kernel
theorem dX6_digit_59 : decode cX6_digit 59 = .ok (.lload 7, 2) := by decide +kernel
theorem dX6_digit_61 : decode cX6_digit 61 = .ok (.ldc2_w 195, 3) := by decide +kernel
theorem dX6_digit_64 : decode cX6_digit 64 = .ok (.lcmp, 1) := by decide +kernel
theorem dX6_digit_65 : decode cX6_digit 65 = .ok (.ifCond .ge 85, 3) := by decide +kernel
theorem dX6_digit_68 : decode cX6_digit 68 = .ok (.lload 5, 2) := by decide +kernel
theorem dX6_digit_70 : decode cX6_digit 70 = .ok (.ldc2_w 195, 3) := by decide +kernel
theorem dX6_digit_73 : decode cX6_digit 73 = .ok (.lcmp, 1) := by decide +kernel
theorem dX6_digit_74 : decode cX6_digit 74 = .ok (.ifCond .ge 41, 3) := by decide +kernel
theorem dX6_digit_77 : decode cX6_digit 77 = .ok (.iload_n 2, 1) := by decide +kernel
theorem dX6_digit_78 : decode cX6_digit 78 = .ok (.iconst 1, 1) := by decide +kernel
theorem dX6_digit_79 : decode cX6_digit 79 = .ok (.if_icmp .le 40, 3) := by decide +kernel
theorem dX6_digit_82 : decode cX6_digit 82 = .ok (.lload 5, 2) := by decide +kernel
theorem dX6_digit_84 : decode cX6_digit 84 = .ok (.aload_n 0, 1) := by decide +kernel
theorem dX6_digit_85 : decode cX6_digit 85 = .ok (.getfield 69, 3) := by decide +kernel
theorem dX6_digit_88 : decode cX6_digit 88 = .ok (.iload_n 2, 1) := by decide +kernel
theorem dX6_digit_89 : decode cX6_digit 89 = .ok (.iconst 2, 1) := by decide +kernel
theorem dX6_digit_90 : decode cX6_digit 90 = .ok (.isub, 1) := by decide +kernel
theorem dX6_digit_91 : decode cX6_digit 91 = .ok (.iaload, 1) := by decide +kernel
theorem dX6_digit_92 : decode cX6_digit 92 = .ok (.i2l, 1) := by decide +kernel
theorem dX6_digit_93 : decode cX6_digit 93 = .ok (.lmul, 1) := by decide +kernel
theorem dX6_digit_94 : decode cX6_digit 94 = .ok (.lload 7, 2) := by decide +kernel
theorem dX6_digit_96 : decode cX6_digit 96 = .ok (.bipush 31, 2) := by decide +kernel
theorem dX6_digit_98 : decode cX6_digit 98 = .ok (.lshl, 1) := by decide +kernel
theorem dX6_digit_99 : decode cX6_digit 99 = .ok (.aload_n 0, 1) := by decide +kernel
theorem dX6_digit_100 : decode cX6_digit 100 = .ok (.getfield 66, 3) := by decide +kernel
theorem dX6_digit_103 : decode cX6_digit 103 = .ok (.iload_n 1, 1) := by decide +kernel
theorem dX6_digit_104 : decode cX6_digit 104 = .ok (.iload_n 2, 1) := by decide +kernel
theorem dX6_digit_105 : decode cX6_digit 105 = .ok (.iadd, 1) := by decide +kernel
theorem dX6_digit_106 : decode cX6_digit 106 = .ok (.iconst 2, 1) := by decide +kernel
theorem dX6_digit_107 : decode cX6_digit 107 = .ok (.isub, 1) := by decide +kernel
theorem dX6_digit_108 : decode cX6_digit 108 = .ok (.iaload, 1) := by decide +kernel
theorem dX6_digit_109 : decode cX6_digit 109 = .ok (.i2l, 1) := by decide +kernel
theorem dX6_digit_110 : decode cX6_digit 110 = .ok (.ladd, 1) := by decide +kernel
theorem dX6_digit_111 : decode cX6_digit 111 = .ok (.lcmp, 1) := by decide +kernel
theorem dX6_digit_112 : decode cX6_digit 112 = .ok (.ifCond .le 7, 3) := by decide +kernel
theorem dX6_digit_115 : decode cX6_digit 115 = .ok (.iconst 1, 1) := by decide +kernel
theorem dX6_digit_116 : decode cX6_digit 116 = .ok (.goto 4, 3) := by decide +kernel
theorem dX6_digit_119 : decode cX6_digit 119 = .ok (.iconst 0, 1) := by decide +kernel
theorem dX6_digit_120 : decode cX6_digit 120 = .ok (.istore 9, 2) := by decide +kernel
theorem dX6_digit_122 : decode cX6_digit 122 = .ok (.iload 9, 2) := by decide +kernel
theorem dX6_digit_124 : decode cX6_digit 124 = .ok (.ifCond .eq (-70), 3) := by decide +kernel
theorem dX6_digit_127 : decode cX6_digit 127 = .ok (.lload 5, 2) := by decide +kernel
theorem dX6_digit_129 : decode cX6_digit 129 = .ok (.lconst 1, 1) := by decide +kernel
theorem dX6_digit_130 : decode cX6_digit 130 = .ok (.lsub, 1) := by decide +kernel
theorem dX6_digit_131 : decode cX6_digit 131 = .ok (.lstore 5, 2) := by decide +kernel
theorem dX6_digit_133 : decode cX6_digit 133 = .ok (.lload 7, 2) := by decide +kernel
theorem dX6_digit_135 : decode cX6_digit 135 = .ok (.aload_n 0, 1) := by decide +kernel
theorem dX6_digit_136 : decode cX6_digit 136 = .ok (.getfield 69, 3) := by decide +kernel
theorem dX6_digit_139 : decode cX6_digit 139 = .ok (.iload_n 2, 1) := by decide +kernel
theorem dX6_digit_140 : decode cX6_digit 140 = .ok (.iconst 1, 1) := by decide +kernel
theorem dX6_digit_141 : decode cX6_digit 141 = .ok (.isub, 1) := by decide +kernel
theorem dX6_digit_142 : decode cX6_digit 142 = .ok (.iaload, 1) := by decide +kernel
theorem dX6_digit_143 : decode cX6_digit 143 = .ok (.i2l, 1) := by decide +kernel
theorem dX6_digit_144 : decode cX6_digit 144 = .ok (.ladd, 1) := by decide +kernel
theorem dX6_digit_145 : decode cX6_digit 145 = .ok (.lstore 7, 2) := by decide +kernel
theorem dX6_digit_147 : decode cX6_digit 147 = .ok (.goto (-93), 3) := by decide +kernel
theorem dX6_digit_150 : decode cX6_digit 150 = .ok (.lconst 0, 1) := by decide +kernel
theorem dX6_digit_151 : decode cX6_digit 151 = .ok (.lstore 10, 2) := by decide +kernel
theorem dX6_digit_153 : decode cX6_digit 153 = .ok (.lconst 0, 1) := by decide +kernel
theorem dX6_digit_154 : decode cX6_digit 154 = .ok (.lstore 12, 2) := by decide +kernel
theorem dX6_digit_156 : decode cX6_digit 156 = .ok (.iconst 0, 1) := by decide +kernel
theorem dX6_digit_157 : decode cX6_digit 157 = .ok (.istore 14, 2) := by decide +kernel
theorem dX6_digit_159 : decode cX6_digit 159 = .ok (.iload 14, 2) := by decide +kernel
theorem dX6_digit_161 : decode cX6_digit 161 = .ok (.iload_n 2, 1) := by decide +kernel
theorem dX6_digit_162 : decode cX6_digit 162 = .ok (.if_icmp .ge 96, 3) := by decide +kernel
theorem dX6_digit_165 : decode cX6_digit 165 = .ok (.lload 5, 2) := by decide +kernel
theorem dX6_digit_167 : decode cX6_digit 167 = .ok (.aload_n 0, 1) := by decide +kernel
theorem dX6_digit_168 : decode cX6_digit 168 = .ok (.getfield 69, 3) := by decide +kernel
theorem dX6_digit_171 : decode cX6_digit 171 = .ok (.iload 14, 2) := by decide +kernel
theorem dX6_digit_173 : decode cX6_digit 173 = .ok (.iaload, 1) := by decide +kernel
theorem dX6_digit_174 : decode cX6_digit 174 = .ok (.i2l, 1) := by decide +kernel
theorem dX6_digit_175 : decode cX6_digit 175 = .ok (.lmul, 1) := by decide +kernel
theorem dX6_digit_176 : decode cX6_digit 176 = .ok (.lload 10, 2) := by decide +kernel
theorem dX6_digit_178 : decode cX6_digit 178 = .ok (.ladd, 1) := by decide +kernel
theorem dX6_digit_179 : decode cX6_digit 179 = .ok (.lstore 15, 2) := by decide +kernel
theorem dX6_digit_181 : decode cX6_digit 181 = .ok (.lload 15, 2) := by decide +kernel
theorem dX6_digit_183 : decode cX6_digit 183 = .ok (.bipush 31, 2) := by decide +kernel
theorem dX6_digit_185 : decode cX6_digit 185 = .ok (.lshr, 1) := by decide +kernel
theorem dX6_digit_186 : decode cX6_digit 186 = .ok (.lstore 10, 2) := by decide +kernel
theorem dX6_digit_188 : decode cX6_digit 188 = .ok (.aload_n 0, 1) := by decide +kernel
theorem dX6_digit_189 : decode cX6_digit 189 = .ok (.getfield 66, 3) := by decide +kernel
theorem dX6_digit_192 : decode cX6_digit 192 = .ok (.iload 14, 2) := by decide +kernel
theorem dX6_digit_194 : decode cX6_digit 194 = .ok (.iload_n 1, 1) := by decide +kernel
theorem dX6_digit_195 : decode cX6_digit 195 = .ok (.iadd, 1) := by decide +kernel
theorem dX6_digit_196 : decode cX6_digit 196 = .ok (.iaload, 1) := by decide +kernel
theorem dX6_digit_197 : decode cX6_digit 197 = .ok (.i2l, 1) := by decide +kernel
theorem dX6_digit_198 : decode cX6_digit 198 = .ok (.lload 15, 2) := by decide +kernel
theorem dX6_digit_200 : decode cX6_digit 200 = .ok (.ldc2_w 189, 3) := by decide +kernel
theorem dX6_digit_203 : decode cX6_digit 203 = .ok (.land, 1) := by decide +kernel
theorem dX6_digit_204 : decode cX6_digit 204 = .ok (.lsub, 1) := by decide +kernel
theorem dX6_digit_205 : decode cX6_digit 205 = .ok (.lload 12, 2) := by decide +kernel
theorem dX6_digit_207 : decode cX6_digit 207 = .ok (.lsub, 1) := by decide +kernel
theorem dX6_digit_208 : decode cX6_digit 208 = .ok (.lstore 17, 2) := by decide +kernel
theorem dX6_digit_210 : decode cX6_digit 210 = .ok (.lload 17, 2) := by decide +kernel
theorem dX6_digit_212 : decode cX6_digit 212 = .ok (.lconst 0, 1) := by decide +kernel
theorem dX6_digit_213 : decode cX6_digit 213 = .ok (.lcmp, 1) := by decide +kernel
theorem dX6_digit_214 : decode cX6_digit 214 = .ok (.ifCond .ge 7, 3) := by decide +kernel
theorem dX6_digit_217 : decode cX6_digit 217 = .ok (.lconst 1, 1) := by decide +kernel
theorem dX6_digit_218 : decode cX6_digit 218 = .ok (.goto 4, 3) := by decide +kernel
theorem dX6_digit_221 : decode cX6_digit 221 = .ok (.lconst 0, 1) := by decide +kernel
theorem dX6_digit_222 : decode cX6_digit 222 = .ok (.lstore 12, 2) := by decide +kernel
theorem dX6_digit_224 : decode cX6_digit 224 = .ok (.aload_n 0, 1) := by decide +kernel
theorem dX6_digit_225 : decode cX6_digit 225 = .ok (.getfield 66, 3) := by decide +kernel
theorem dX6_digit_228 : decode cX6_digit 228 = .ok (.iload 14, 2) := by decide +kernel
theorem dX6_digit_230 : decode cX6_digit 230 = .ok (.iload_n 1, 1) := by decide +kernel
theorem dX6_digit_231 : decode cX6_digit 231 = .ok (.iadd, 1) := by decide +kernel
theorem dX6_digit_232 : decode cX6_digit 232 = .ok (.lload 17, 2) := by decide +kernel
theorem dX6_digit_234 : decode cX6_digit 234 = .ok (.lconst 0, 1) := by decide +kernel
theorem dX6_digit_235 : decode cX6_digit 235 = .ok (.lcmp, 1) := by decide +kernel
theorem dX6_digit_236 : decode cX6_digit 236 = .ok (.ifCond .ge 12, 3) := by decide +kernel
theorem dX6_digit_239 : decode cX6_digit 239 = .ok (.lload 17, 2) := by decide +kernel
theorem dX6_digit_241 : decode cX6_digit 241 = .ok (.ldc2_w 195, 3) := by decide +kernel
theorem dX6_digit_244 : decode cX6_digit 244 = .ok (.ladd, 1) := by decide +kernel
theorem dX6_digit_245 : decode cX6_digit 245 = .ok (.goto 5, 3) := by decide +kernel
theorem dX6_digit_248 : decode cX6_digit 248 = .ok (.lload 17, 2) := by decide +kernel
theorem dX6_digit_250 : decode cX6_digit 250 = .ok (.l2i, 1) := by decide +kernel
theorem dX6_digit_251 : decode cX6_digit 251 = .ok (.iastore, 1) := by decide +kernel
theorem dX6_digit_252 : decode cX6_digit 252 = .ok (.iinc 14 1, 3) := by decide +kernel
theorem dX6_digit_255 : decode cX6_digit 255 = .ok (.goto (-96), 3) := by decide +kernel
theorem dX6_digit_258 : decode cX6_digit 258 = .ok (.aload_n 0, 1) := by decide +kernel

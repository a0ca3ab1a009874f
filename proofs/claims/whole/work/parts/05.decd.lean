theorem dX7_init_0 : decode cX7_init 0 = .ok (.aload_n 0, 1) := by decide +kernel
theorem dX7_init_1 : decode cX7_init 1 = .ok (.invokespecial 1, 3) := by decide +kernel
theorem dX7_init_4 : decode cX7_init 4 = .ok (.aload_n 0, 1) := by decide +kernel
theorem dX7_init_5 : decode cX7_init 5 = .ok (.sipush 154, 3) := by decide +kernel
theorem dX7_init_8 : decode cX7_init 8 = .ok (.newarray .int, 2) := by decide +kernel
theorem dX7_init_10 : decode cX7_init 10 = .ok (.putfield 7, 3) := by decide +kernel
theorem dX7_init_13 : decode cX7_init 13 = .ok (.aload_n 0, 1) := by decide +kernel
theorem dX7_init_14 : decode cX7_init 14 = .ok (.sipush 770, 3) := by decide +kernel
theorem dX7_init_17 : decode cX7_init 17 = .ok (.newarray .int, 2) := by decide +kernel
theorem dX7_init_19 : decode cX7_init 19 = .ok (.putfield 13, 3) := by decide +kernel
theorem dX7_init_22 : decode cX7_init 22 = .ok (.aload_n 0, 1) := by decide +kernel
theorem dX7_init_23 : decode cX7_init 23 = .ok (.sipush 154, 3) := by decide +kernel
theorem dX7_init_26 : decode cX7_init 26 = .ok (.newarray .int, 2) := by decide +kernel
theorem dX7_init_28 : decode cX7_init 28 = .ok (.putfield 16, 3) := by decide +kernel
theorem dX7_init_31 : decode cX7_init 31 = .ok (.aload_n 0, 1) := by decide +kernel
theorem dX7_init_32 : decode cX7_init 32 = .ok (.sipush 308, 3) := by decide +kernel
theorem dX7_init_35 : decode cX7_init 35 = .ok (.newarray .int, 2) := by decide +kernel
theorem dX7_init_37 : decode cX7_init 37 = .ok (.putfield 19, 3) := by decide +kernel
theorem dX7_init_40 : decode cX7_init 40 = .ok (.aload_n 0, 1) := by decide +kernel
theorem dX7_init_41 : decode cX7_init 41 = .ok (.iconst 2, 1) := by decide +kernel
theorem dX7_init_42 : decode cX7_init 42 = .ok (.newarray .boolean, 2) := by decide +kernel
theorem dX7_init_44 : decode cX7_init 44 = .ok (.putfield 22, 3) := by decide +kernel
theorem dX7_init_47 : decode cX7_init 47 = .ok (.aload_n 0, 1) := by decide +kernel
theorem dX7_init_48 : decode cX7_init 48 = .ok (.bipush 80, 2) := by decide +kernel
theorem dX7_init_50 : decode cX7_init 50 = .ok (.newarray .int, 2) := by decide +kernel
theorem dX7_init_52 : decode cX7_init 52 = .ok (.putfield 26, 3) := by decide +kernel
theorem dX7_init_55 : decode cX7_init 55 = .ok (.aload_n 0, 1) := by decide +kernel
theorem dX7_init_56 : decode cX7_init 56 = .ok (.iconst 4, 1) := by decide +kernel
theorem dX7_init_57 : decode cX7_init 57 = .ok (.newarray .int, 2) := by decide +kernel
theorem dX7_init_59 : decode cX7_init 59 = .ok (.putfield 29, 3) := by decide +kernel
theorem dX7_init_62 : decode cX7_init 62 = .ok (.aload_n 0, 1) := by decide +kernel
theorem dX7_init_63 : decode cX7_init 63 = .ok (.iconst 3, 1) := by decide +kernel
theorem dX7_init_64 : decode cX7_init 64 = .ok (.newarray .int, 2) := by decide +kernel
theorem dX7_init_66 : decode cX7_init 66 = .ok (.dup, 1) := by decide +kernel
theorem dX7_init_67 : decode cX7_init 67 = .ok (.iconst 0, 1) := by decide +kernel
theorem dX7_init_68 : decode cX7_init 68 = .ok (.iconst 4, 1) := by decide +kernel
theorem dX7_init_69 : decode cX7_init 69 = .ok (.iastore, 1) := by decide +kernel
theorem dX7_init_70 : decode cX7_init 70 = .ok (.dup, 1) := by decide +kernel
theorem dX7_init_71 : decode cX7_init 71 = .ok (.iconst 1, 1) := by decide +kernel
theorem dX7_init_72 : decode cX7_init 72 = .ok (.bipush 9, 2) := by decide +kernel
theorem dX7_init_74 : decode cX7_init 74 = .ok (.iastore, 1) := by decide +kernel
theorem dX7_init_75 : decode cX7_init 75 = .ok (.dup, 1) := by decide +kernel
theorem dX7_init_76 : decode cX7_init 76 = .ok (.iconst 2, 1) := by decide +kernel
theorem dX7_init_77 : decode cX7_init 77 = .ok (.bipush 18, 2) := by decide +kernel
theorem dX7_init_79 : decode cX7_init 79 = .ok (.iastore, 1) := by decide +kernel
theorem dX7_init_80 : decode cX7_init 80 = .ok (.putfield 32, 3) := by decide +kernel
theorem dX7_init_83 : decode cX7_init 83 = .ok (.aload_n 0, 1) := by decide +kernel
theorem dX7_init_84 : decode cX7_init 84 = .ok (.iconst 3, 1) := by decide +kernel
theorem dX7_init_85 : decode cX7_init 85 = .ok (.newarray .int, 2) := by decide +kernel
theorem dX7_init_87 : decode cX7_init 87 = .ok (.dup, 1) := by decide +kernel
theorem dX7_init_88 : decode cX7_init 88 = .ok (.iconst 0, 1) := by decide +kernel
theorem dX7_init_89 : decode cX7_init 89 = .ok (.bipush 40, 2) := by decide +kernel
theorem dX7_init_91 : decode cX7_init 91 = .ok (.iastore, 1) := by decide +kernel
theorem dX7_init_92 : decode cX7_init 92 = .ok (.dup, 1) := by decide +kernel
theorem dX7_init_93 : decode cX7_init 93 = .ok (.iconst 1, 1) := by decide +kernel
theorem dX7_init_94 : decode cX7_init 94 = .ok (.bipush 100, 2) := by decide +kernel
theorem dX7_init_96 : decode cX7_init 96 = .ok (.iastore, 1) := by decide +kernel
theorem dX7_init_97 : decode cX7_init 97 = .ok (.dup, 1) := by decide +kernel
theorem dX7_init_98 : decode cX7_init 98 = .ok (.iconst 2, 1) := by decide +kernel
theorem dX7_init_99 : decode cX7_init 99 = .ok (.sipush 220, 3) := by decide +kernel
theorem dX7_init_102 : decode cX7_init 102 = .ok (.iastore, 1) := by decide +kernel
theorem dX7_init_103 : decode cX7_init 103 = .ok (.putfield 35, 3) := by decide +kernel
theorem dX7_init_106 : decode cX7_init 106 = .ok (.aload_n 0, 1) := by decide +kernel
theorem dX7_init_107 : decode cX7_init 107 = .ok (.iconst 3, 1) := by decide +kernel
theorem dX7_init_108 : decode cX7_init 108 = .ok (.newarray .int, 2) := by decide +kernel
theorem dX7_init_110 : decode cX7_init 110 = .ok (.dup, 1) := by decide +kernel
theorem dX7_init_111 : decode cX7_init 111 = .ok (.iconst 0, 1) := by decide +kernel
theorem dX7_init_112 : decode cX7_init 112 = .ok (.iconst 2, 1) := by decide +kernel
theorem dX7_init_113 : decode cX7_init 113 = .ok (.iastore, 1) := by decide +kernel
theorem dX7_init_114 : decode cX7_init 114 = .ok (.dup, 1) := by decide +kernel
theorem dX7_init_115 : decode cX7_init 115 = .ok (.iconst 1, 1) := by decide +kernel
theorem dX7_init_116 : decode cX7_init 116 = .ok (.iconst 3, 1) := by decide +kernel
theorem dX7_init_117 : decode cX7_init 117 = .ok (.iastore, 1) := by decide +kernel
theorem dX7_init_118 : decode cX7_init 118 = .ok (.dup, 1) := by decide +kernel
theorem dX7_init_119 : decode cX7_init 119 = .ok (.iconst 2, 1) := by decide +kernel
theorem dX7_init_120 : decode cX7_init 120 = .ok (.iconst 4, 1) := by decide +kernel
theorem dX7_init_121 : decode cX7_init 121 = .ok (.iastore, 1) := by decide +kernel
theorem dX7_init_122 : decode cX7_init 122 = .ok (.putfield 38, 3) := by decide +kernel
theorem dX7_init_125 : decode cX7_init 125 = .ok (.aload_n 0, 1) := by decide +kernel
theorem dX7_init_126 : decode cX7_init 126 = .ok (.getfield 7, 3) := by decide +kernel
theorem dX7_init_129 : decode cX7_init 129 = .ok (.iconst 1, 1) := by decide +kernel
theorem dX7_init_130 : decode cX7_init 130 = .ok (.bipush 10, 2) := by decide +kernel
theorem dX7_init_132 : decode cX7_init 132 = .ok (.iastore, 1) := by decide +kernel
theorem dX7_init_133 : decode cX7_init 133 = .ok (.aload_n 0, 1) := by decide +kernel
theorem dX7_init_134 : decode cX7_init 134 = .ok (.getfield 7, 3) := by decide +kernel
theorem dX7_init_137 : decode cX7_init 137 = .ok (.iconst 2, 1) := by decide +kernel
theorem dX7_init_138 : decode cX7_init 138 = .ok (.iconst 4, 1) := by decide +kernel
theorem dX7_init_139 : decode cX7_init 139 = .ok (.iastore, 1) := by decide +kernel
theorem dX7_init_140 : decode cX7_init 140 = .ok (.aload_n 0, 1) := by decide +kernel
theorem dX7_init_141 : decode cX7_init 141 = .ok (.getfield 7, 3) := by decide +kernel
theorem dX7_init_144 : decode cX7_init 144 = .ok (.iconst 5, 1) := by decide +kernel
theorem dX7_init_145 : decode cX7_init 145 = .ok (.iconst 1, 1) := by decide +kernel
theorem dX7_init_146 : decode cX7_init 146 = .ok (.iastore, 1) := by decide +kernel
theorem dX7_init_147 : decode cX7_init 147 = .ok (.aload_n 0, 1) := by decide +kernel
theorem dX7_init_148 : decode cX7_init 148 = .ok (.getfield 7, 3) := by decide +kernel
theorem dX7_init_151 : decode cX7_init 151 = .ok (.bipush 6, 2) := by decide +kernel
theorem dX7_init_153 : decode cX7_init 153 = .ok (.iconst 1, 1) := by decide +kernel
theorem dX7_init_154 : decode cX7_init 154 = .ok (.iastore, 1) := by decide +kernel
theorem dX7_init_155 : decode cX7_init 155 = .ok (.aload_n 0, 1) := by decide +kernel
theorem dX7_init_156 : decode cX7_init 156 = .ok (.getfield 7, 3) := by decide +kernel
theorem dX7_init_159 : decode cX7_init 159 = .ok (.bipush 7, 2) := by decide +kernel
theorem dX7_init_161 : decode cX7_init 161 = .ok (.bipush 16, 2) := by decide +kernel
theorem dX7_init_163 : decode cX7_init 163 = .ok (.iastore, 1) := by decide +kernel
theorem dX7_init_164 : decode cX7_init 164 = .ok (.return_, 1) := by decide +kernel
theorem dX7_in_0 : decode cX7_in 0 = .ok (.iload_n 0, 1) := by decide +kernel
theorem dX7_in_1 : decode cX7_in 1 = .ok (.iload_n 1, 1) := by decide +kernel
theorem dX7_in_2 : decode cX7_in 2 = .ok (.if_icmp .lt 12, 3) := by decide +kernel
theorem dX7_in_5 : decode cX7_in 5 = .ok (.iload_n 0, 1) := by decide +kernel
theorem dX7_in_6 : decode cX7_in 6 = .ok (.iload_n 2, 1) := by decide +kernel
theorem dX7_in_7 : decode cX7_in 7 = .ok (.if_icmp .gt 7, 3) := by decide +kernel
theorem dX7_in_10 : decode cX7_in 10 = .ok (.iconst 1, 1) := by decide +kernel
theorem dX7_in_11 : decode cX7_in 11 = .ok (.goto 4, 3) := by decide +kernel
theorem dX7_in_14 : decode cX7_in 14 = .ok (.iconst 0, 1) := by decide +kernel
theorem dX7_in_15 : decode cX7_in 15 = .ok (.ireturn, 1) := by decide +kernel
theorem dX7_at_0 : decode cX7_at 0 = .ok (.bipush 14, 2) := by decide +kernel
theorem dX7_at_2 : decode cX7_at 2 = .ok (.bipush 7, 2) := by decide +kernel
theorem dX7_at_4 : decode cX7_at 4 = .ok (.iload_n 0, 1) := by decide +kernel
theorem dX7_at_5 : decode cX7_at 5 = .ok (.imul, 1) := by decide +kernel
theorem dX7_at_6 : decode cX7_at 6 = .ok (.iadd, 1) := by decide +kernel
theorem dX7_at_7 : decode cX7_at 7 = .ok (.ireturn, 1) := by decide +kernel
theorem dX7_isLevel_0 : decode cX7_isLevel 0 = .ok (.iload_n 1, 1) := by decide +kernel
theorem dX7_isLevel_1 : decode cX7_isLevel 1 = .ok (.iconst 0, 1) := by decide +kernel
theorem dX7_isLevel_2 : decode cX7_isLevel 2 = .ok (.aload_n 0, 1) := by decide +kernel
theorem dX7_isLevel_3 : decode cX7_isLevel 3 = .ok (.getfield 7, 3) := by decide +kernel
theorem dX7_isLevel_6 : decode cX7_isLevel 6 = .ok (.iconst 1, 1) := by decide +kernel
theorem dX7_isLevel_7 : decode cX7_isLevel 7 = .ok (.iaload, 1) := by decide +kernel
theorem dX7_isLevel_8 : decode cX7_isLevel 8 = .ok (.iconst 1, 1) := by decide +kernel
theorem dX7_isLevel_9 : decode cX7_isLevel 9 = .ok (.isub, 1) := by decide +kernel
theorem dX7_isLevel_10 : decode cX7_isLevel 10 = .ok (.invokestatic 41, 3) := by decide +kernel
theorem dX7_isLevel_13 : decode cX7_isLevel 13 = .ok (.ireturn, 1) := by decide +kernel
theorem dX7_isCraft_0 : decode cX7_isCraft 0 = .ok (.iload_n 1, 1) := by decide +kernel
theorem dX7_isCraft_1 : decode cX7_isCraft 1 = .ok (.iconst 0, 1) := by decide +kernel
theorem dX7_isCraft_2 : decode cX7_isCraft 2 = .ok (.aload_n 0, 1) := by decide +kernel
theorem dX7_isCraft_3 : decode cX7_isCraft 3 = .ok (.getfield 7, 3) := by decide +kernel
theorem dX7_isCraft_6 : decode cX7_isCraft 6 = .ok (.iconst 3, 1) := by decide +kernel
theorem dX7_isCraft_7 : decode cX7_isCraft 7 = .ok (.iaload, 1) := by decide +kernel
theorem dX7_isCraft_8 : decode cX7_isCraft 8 = .ok (.iconst 1, 1) := by decide +kernel
theorem dX7_isCraft_9 : decode cX7_isCraft 9 = .ok (.isub, 1) := by decide +kernel
theorem dX7_isCraft_10 : decode cX7_isCraft 10 = .ok (.invokestatic 41, 3) := by decide +kernel
theorem dX7_isCraft_13 : decode cX7_isCraft 13 = .ok (.ireturn, 1) := by decide +kernel
theorem dX7_puts_0 : decode cX7_puts 0 = .ok (.aload_n 0, 1) := by decide +kernel
theorem dX7_puts_1 : decode cX7_puts 1 = .ok (.getfield 7, 3) := by decide +kernel
theorem dX7_puts_4 : decode cX7_puts 4 = .ok (.iload_n 1, 1) := by decide +kernel
theorem dX7_puts_5 : decode cX7_puts 5 = .ok (.iaload, 1) := by decide +kernel
theorem dX7_puts_6 : decode cX7_puts 6 = .ok (.istore_n 3, 1) := by decide +kernel
theorem dX7_puts_7 : decode cX7_puts 7 = .ok (.aload_n 0, 1) := by decide +kernel
theorem dX7_puts_8 : decode cX7_puts 8 = .ok (.getfield 7, 3) := by decide +kernel
theorem dX7_puts_11 : decode cX7_puts 11 = .ok (.iload_n 1, 1) := by decide +kernel
theorem dX7_puts_12 : decode cX7_puts 12 = .ok (.iload_n 2, 1) := by decide +kernel
theorem dX7_puts_13 : decode cX7_puts 13 = .ok (.iastore, 1) := by decide +kernel
theorem dX7_puts_14 : decode cX7_puts 14 = .ok (.iload_n 3, 1) := by decide +kernel
theorem dX7_puts_15 : decode cX7_puts 15 = .ok (.ireturn, 1) := by decide +kernel
theorem dX7_records_0 : decode cX7_records 0 = .ok (.aload_n 0, 1) := by decide +kernel
theorem dX7_records_1 : decode cX7_records 1 = .ok (.getfield 45, 3) := by decide +kernel
theorem dX7_records_4 : decode cX7_records 4 = .ok (.iconst 5, 1) := by decide +kernel
theorem dX7_records_5 : decode cX7_records 5 = .ok (.if_icmp .ne 39, 3) := by decide +kernel
theorem dX7_records_8 : decode cX7_records 8 = .ok (.iconst 0, 1) := by decide +kernel
theorem dX7_records_9 : decode cX7_records 9 = .ok (.istore_n 1, 1) := by decide +kernel
theorem dX7_records_10 : decode cX7_records 10 = .ok (.iload_n 1, 1) := by decide +kernel
theorem dX7_records_11 : decode cX7_records 11 = .ok (.sipush 616, 3) := by decide +kernel
theorem dX7_records_14 : decode cX7_records 14 = .ok (.if_icmp .ge 25, 3) := by decide +kernel
theorem dX7_records_17 : decode cX7_records 17 = .ok (.aload_n 0, 1) := by decide +kernel
theorem dX7_records_18 : decode cX7_records 18 = .ok (.getfield 13, 3) := by decide +kernel
theorem dX7_records_21 : decode cX7_records 21 = .ok (.iload_n 1, 1) := by decide +kernel
theorem dX7_records_22 : decode cX7_records 22 = .ok (.aload_n 0, 1) := by decide +kernel
theorem dX7_records_23 : decode cX7_records 23 = .ok (.getfield 13, 3) := by decide +kernel
theorem dX7_records_26 : decode cX7_records 26 = .ok (.iload_n 1, 1) := by decide +kernel
theorem dX7_records_27 : decode cX7_records 27 = .ok (.sipush 154, 3) := by decide +kernel
theorem dX7_records_30 : decode cX7_records 30 = .ok (.iadd, 1) := by decide +kernel
theorem dX7_records_31 : decode cX7_records 31 = .ok (.iaload, 1) := by decide +kernel
theorem dX7_records_32 : decode cX7_records 32 = .ok (.iastore, 1) := by decide +kernel
theorem dX7_records_33 : decode cX7_records 33 = .ok (.iinc 1 1, 3) := by decide +kernel
theorem dX7_records_36 : decode cX7_records 36 = .ok (.goto (-26), 3) := by decide +kernel
theorem dX7_records_39 : decode cX7_records 39 = .ok (.aload_n 0, 1) := by decide +kernel
theorem dX7_records_40 : decode cX7_records 40 = .ok (.iconst 4, 1) := by decide +kernel
theorem dX7_records_41 : decode cX7_records 41 = .ok (.putfield 45, 3) := by decide +kernel
theorem dX7_records_44 : decode cX7_records 44 = .ok (.iconst 0, 1) := by decide +kernel
theorem dX7_records_45 : decode cX7_records 45 = .ok (.istore_n 1, 1) := by decide +kernel
theorem dX7_records_46 : decode cX7_records 46 = .ok (.iload_n 1, 1) := by decide +kernel
theorem dX7_records_47 : decode cX7_records 47 = .ok (.sipush 154, 3) := by decide +kernel
theorem dX7_records_50 : decode cX7_records 50 = .ok (.if_icmp .ge 30, 3) := by decide +kernel
theorem dX7_records_53 : decode cX7_records 53 = .ok (.aload_n 0, 1) := by decide +kernel
theorem dX7_records_54 : decode cX7_records 54 = .ok (.getfield 13, 3) := by decide +kernel
theorem dX7_records_57 : decode cX7_records 57 = .ok (.sipush 154, 3) := by decide +kernel
theorem dX7_records_60 : decode cX7_records 60 = .ok (.aload_n 0, 1) := by decide +kernel
theorem dX7_records_61 : decode cX7_records 61 = .ok (.getfield 45, 3) := by decide +kernel
theorem dX7_records_64 : decode cX7_records 64 = .ok (.imul, 1) := by decide +kernel
theorem dX7_records_65 : decode cX7_records 65 = .ok (.iload_n 1, 1) := by decide +kernel
theorem dX7_records_66 : decode cX7_records 66 = .ok (.iadd, 1) := by decide +kernel
theorem dX7_records_67 : decode cX7_records 67 = .ok (.aload_n 0, 1) := by decide +kernel
theorem dX7_records_68 : decode cX7_records 68 = .ok (.getfield 7, 3) := by decide +kernel
theorem dX7_records_71 : decode cX7_records 71 = .ok (.iload_n 1, 1) := by decide +kernel
theorem dX7_records_72 : decode cX7_records 72 = .ok (.iaload, 1) := by decide +kernel
theorem dX7_records_73 : decode cX7_records 73 = .ok (.iastore, 1) := by decide +kernel
theorem dX7_records_74 : decode cX7_records 74 = .ok (.iinc 1 1, 3) := by decide +kernel
theorem dX7_records_77 : decode cX7_records 77 = .ok (.goto (-31), 3) := by decide +kernel
theorem dX7_records_80 : decode cX7_records 80 = .ok (.aload_n 0, 1) := by decide +kernel
theorem dX7_records_81 : decode cX7_records 81 = .ok (.dup, 1) := by decide +kernel
theorem dX7_records_82 : decode cX7_records 82 = .ok (.getfield 45, 3) := by decide +kernel
theorem dX7_records_85 : decode cX7_records 85 = .ok (.iconst 1, 1) := by decide +kernel
theorem dX7_records_86 : decode cX7_records 86 = .ok (.iadd, 1) := by decide +kernel
theorem dX7_records_87 : decode cX7_records 87 = .ok (.putfield 45, 3) := by decide +kernel
theorem dX7_records_90 : decode cX7_records 90 = .ok (.return_, 1) := by decide +kernel
theorem dX7_begin_0 : decode cX7_begin 0 = .ok (.iload_n 1, 1) := by decide +kernel
theorem dX7_begin_1 : decode cX7_begin 1 = .ok (.iconst 4, 1) := by decide +kernel
theorem dX7_begin_2 : decode cX7_begin 2 = .ok (.bipush 16, 2) := by decide +kernel
theorem dX7_begin_4 : decode cX7_begin 4 = .ok (.invokestatic 41, 3) := by decide +kernel
theorem dX7_begin_7 : decode cX7_begin 7 = .ok (.ifCond .ne 6, 3) := by decide +kernel
theorem dX7_begin_10 : decode cX7_begin 10 = .ok (.bipush (-2), 2) := by decide +kernel
theorem dX7_begin_12 : decode cX7_begin 12 = .ok (.ireturn, 1) := by decide +kernel
theorem dX7_begin_13 : decode cX7_begin 13 = .ok (.aload_n 0, 1) := by decide +kernel
theorem dX7_begin_14 : decode cX7_begin 14 = .ok (.invokevirtual 49, 3) := by decide +kernel
theorem dX7_begin_17 : decode cX7_begin 17 = .ok (.aload_n 0, 1) := by decide +kernel
theorem dX7_begin_18 : decode cX7_begin 18 = .ok (.getfield 7, 3) := by decide +kernel
theorem dX7_begin_21 : decode cX7_begin 21 = .ok (.iconst 1, 1) := by decide +kernel
theorem dX7_begin_22 : decode cX7_begin 22 = .ok (.iaload, 1) := by decide +kernel
theorem dX7_begin_23 : decode cX7_begin 23 = .ok (.istore_n 2, 1) := by decide +kernel
theorem dX7_begin_24 : decode cX7_begin 24 = .ok (.aload_n 0, 1) := by decide +kernel
theorem dX7_begin_25 : decode cX7_begin 25 = .ok (.getfield 7, 3) := by decide +kernel
theorem dX7_begin_28 : decode cX7_begin 28 = .ok (.iconst 0, 1) := by decide +kernel
theorem dX7_begin_29 : decode cX7_begin 29 = .ok (.iconst 0, 1) := by decide +kernel
theorem dX7_begin_30 : decode cX7_begin 30 = .ok (.iastore, 1) := by decide +kernel
theorem dX7_begin_31 : decode cX7_begin 31 = .ok (.aload_n 0, 1) := by decide +kernel
theorem dX7_begin_32 : decode cX7_begin 32 = .ok (.getfield 7, 3) := by decide +kernel
theorem dX7_begin_35 : decode cX7_begin 35 = .ok (.iconst 3, 1) := by decide +kernel
theorem dX7_begin_36 : decode cX7_begin 36 = .ok (.iconst 0, 1) := by decide +kernel
theorem dX7_begin_37 : decode cX7_begin 37 = .ok (.iastore, 1) := by decide +kernel
theorem dX7_begin_38 : decode cX7_begin 38 = .ok (.aload_n 0, 1) := by decide +kernel
theorem dX7_begin_39 : decode cX7_begin 39 = .ok (.getfield 7, 3) := by decide +kernel
theorem dX7_begin_42 : decode cX7_begin 42 = .ok (.iconst 4, 1) := by decide +kernel
theorem dX7_begin_43 : decode cX7_begin 43 = .ok (.iconst 0, 1) := by decide +kernel
theorem dX7_begin_44 : decode cX7_begin 44 = .ok (.iastore, 1) := by decide +kernel
theorem dX7_begin_45 : decode cX7_begin 45 = .ok (.bipush 8, 2) := by decide +kernel
theorem dX7_begin_47 : decode cX7_begin 47 = .ok (.istore_n 3, 1) := by decide +kernel
theorem dX7_begin_48 : decode cX7_begin 48 = .ok (.iload_n 3, 1) := by decide +kernel
theorem dX7_begin_49 : decode cX7_begin 49 = .ok (.sipush 154, 3) := by decide +kernel
theorem dX7_begin_52 : decode cX7_begin 52 = .ok (.if_icmp .ge 16, 3) := by decide +kernel
theorem dX7_begin_55 : decode cX7_begin 55 = .ok (.aload_n 0, 1) := by decide +kernel
theorem dX7_begin_56 : decode cX7_begin 56 = .ok (.getfield 7, 3) := by decide +kernel
theorem dX7_begin_59 : decode cX7_begin 59 = .ok (.iload_n 3, 1) := by decide +kernel
theorem dX7_begin_60 : decode cX7_begin 60 = .ok (.iconst 0, 1) := by decide +kernel
theorem dX7_begin_61 : decode cX7_begin 61 = .ok (.iastore, 1) := by decide +kernel
theorem dX7_begin_62 : decode cX7_begin 62 = .ok (.iinc 3 1, 3) := by decide +kernel
theorem dX7_begin_65 : decode cX7_begin 65 = .ok (.goto (-17), 3) := by decide +kernel
theorem dX7_begin_68 : decode cX7_begin 68 = .ok (.aload_n 0, 1) := by decide +kernel
theorem dX7_begin_69 : decode cX7_begin 69 = .ok (.getfield 7, 3) := by decide +kernel
theorem dX7_begin_72 : decode cX7_begin 72 = .ok (.iconst 1, 1) := by decide +kernel
theorem dX7_begin_73 : decode cX7_begin 73 = .ok (.iload_n 1, 1) := by decide +kernel
theorem dX7_begin_74 : decode cX7_begin 74 = .ok (.iastore, 1) := by decide +kernel
theorem dX7_begin_75 : decode cX7_begin 75 = .ok (.iload_n 2, 1) := by decide +kernel
theorem dX7_begin_76 : decode cX7_begin 76 = .ok (.ireturn, 1) := by decide +kernel
theorem dX7_setLap_0 : decode cX7_setLap 0 = .ok (.iload_n 1, 1) := by decide +kernel
theorem dX7_setLap_1 : decode cX7_setLap 1 = .ok (.iconst 2, 1) := by decide +kernel
theorem dX7_setLap_2 : decode cX7_setLap 2 = .ok (.bipush 8, 2) := by decide +kernel
theorem dX7_setLap_4 : decode cX7_setLap 4 = .ok (.invokestatic 41, 3) := by decide +kernel
theorem dX7_setLap_7 : decode cX7_setLap 7 = .ok (.ifCond .ne 6, 3) := by decide +kernel
theorem dX7_setLap_10 : decode cX7_setLap 10 = .ok (.bipush (-2), 2) := by decide +kernel
theorem dX7_setLap_12 : decode cX7_setLap 12 = .ok (.ireturn, 1) := by decide +kernel
theorem dX7_setLap_13 : decode cX7_setLap 13 = .ok (.aload_n 0, 1) := by decide +kernel
theorem dX7_setLap_14 : decode cX7_setLap 14 = .ok (.invokevirtual 49, 3) := by decide +kernel
theorem dX7_setLap_17 : decode cX7_setLap 17 = .ok (.iconst 0, 1) := by decide +kernel
theorem dX7_setLap_18 : decode cX7_setLap 18 = .ok (.istore_n 2, 1) := by decide +kernel
theorem dX7_setLap_19 : decode cX7_setLap 19 = .ok (.iload_n 2, 1) := by decide +kernel
theorem dX7_setLap_20 : decode cX7_setLap 20 = .ok (.aload_n 0, 1) := by decide +kernel
theorem dX7_setLap_21 : decode cX7_setLap 21 = .ok (.getfield 7, 3) := by decide +kernel
theorem dX7_setLap_24 : decode cX7_setLap 24 = .ok (.iconst 3, 1) := by decide +kernel
theorem dX7_setLap_25 : decode cX7_setLap 25 = .ok (.iaload, 1) := by decide +kernel
theorem dX7_setLap_26 : decode cX7_setLap 26 = .ok (.if_icmp .ge 50, 3) := by decide +kernel
theorem dX7_setLap_29 : decode cX7_setLap 29 = .ok (.aload_n 0, 1) := by decide +kernel
theorem dX7_setLap_30 : decode cX7_setLap 30 = .ok (.getfield 7, 3) := by decide +kernel
theorem dX7_setLap_33 : decode cX7_setLap 33 = .ok (.iload_n 2, 1) := by decide +kernel
theorem dX7_setLap_34 : decode cX7_setLap 34 = .ok (.invokestatic 52, 3) := by decide +kernel
theorem dX7_setLap_37 : decode cX7_setLap 37 = .ok (.iconst 4, 1) := by decide +kernel
theorem dX7_setLap_38 : decode cX7_setLap 38 = .ok (.iadd, 1) := by decide +kernel
theorem dX7_setLap_39 : decode cX7_setLap 39 = .ok (.aload_n 0, 1) := by decide +kernel
theorem dX7_setLap_40 : decode cX7_setLap 40 = .ok (.getfield 7, 3) := by decide +kernel
theorem dX7_setLap_43 : decode cX7_setLap 43 = .ok (.iload_n 2, 1) := by decide +kernel
theorem dX7_setLap_44 : decode cX7_setLap 44 = .ok (.invokestatic 52, 3) := by decide +kernel
theorem dX7_setLap_47 : decode cX7_setLap 47 = .ok (.iconst 4, 1) := by decide +kernel
theorem dX7_setLap_48 : decode cX7_setLap 48 = .ok (.iadd, 1) := by decide +kernel
theorem dX7_setLap_49 : decode cX7_setLap 49 = .ok (.iaload, 1) := by decide +kernel
theorem dX7_setLap_50 : decode cX7_setLap 50 = .ok (.iload_n 1, 1) := by decide +kernel
theorem dX7_setLap_51 : decode cX7_setLap 51 = .ok (.if_icmp .ge 17, 3) := by decide +kernel
theorem dX7_setLap_54 : decode cX7_setLap 54 = .ok (.aload_n 0, 1) := by decide +kernel
theorem dX7_setLap_55 : decode cX7_setLap 55 = .ok (.getfield 7, 3) := by decide +kernel
theorem dX7_setLap_58 : decode cX7_setLap 58 = .ok (.iload_n 2, 1) := by decide +kernel
theorem dX7_setLap_59 : decode cX7_setLap 59 = .ok (.invokestatic 52, 3) := by decide +kernel
theorem dX7_setLap_62 : decode cX7_setLap 62 = .ok (.iconst 4, 1) := by decide +kernel
theorem dX7_setLap_63 : decode cX7_setLap 63 = .ok (.iadd, 1) := by decide +kernel
theorem dX7_setLap_64 : decode cX7_setLap 64 = .ok (.iaload, 1) := by decide +kernel
theorem dX7_setLap_65 : decode cX7_setLap 65 = .ok (.goto 4, 3) := by decide +kernel
theorem dX7_setLap_68 : decode cX7_setLap 68 = .ok (.iconst 0, 1) := by decide +kernel
theorem dX7_setLap_69 : decode cX7_setLap 69 = .ok (.iastore, 1) := by decide +kernel
theorem dX7_setLap_70 : decode cX7_setLap 70 = .ok (.iinc 2 1, 3) := by decide +kernel
theorem dX7_setLap_73 : decode cX7_setLap 73 = .ok (.goto (-54), 3) := by decide +kernel
theorem dX7_setLap_76 : decode cX7_setLap 76 = .ok (.aload_n 0, 1) := by decide +kernel
theorem dX7_setLap_77 : decode cX7_setLap 77 = .ok (.iconst 2, 1) := by decide +kernel
theorem dX7_setLap_78 : decode cX7_setLap 78 = .ok (.iload_n 1, 1) := by decide +kernel
theorem dX7_setLap_79 : decode cX7_setLap 79 = .ok (.invokevirtual 56, 3) := by decide +kernel
theorem dX7_setLap_82 : decode cX7_setLap 82 = .ok (.ireturn, 1) := by decide +kernel
theorem dX7_setLimit_0 : decode cX7_setLimit 0 = .ok (.iload_n 1, 1) := by decide +kernel
theorem dX7_setLimit_1 : decode cX7_setLimit 1 = .ok (.iconst 1, 1) := by decide +kernel
theorem dX7_setLimit_2 : decode cX7_setLimit 2 = .ok (.bipush 16, 2) := by decide +kernel
theorem dX7_setLimit_4 : decode cX7_setLimit 4 = .ok (.invokestatic 41, 3) := by decide +kernel
theorem dX7_setLimit_7 : decode cX7_setLimit 7 = .ok (.ifCond .ne 6, 3) := by decide +kernel
theorem dX7_setLimit_10 : decode cX7_setLimit 10 = .ok (.bipush (-2), 2) := by decide +kernel
theorem dX7_setLimit_12 : decode cX7_setLimit 12 = .ok (.ireturn, 1) := by decide +kernel
theorem dX7_setLimit_13 : decode cX7_setLimit 13 = .ok (.aload_n 0, 1) := by decide +kernel
theorem dX7_setLimit_14 : decode cX7_setLimit 14 = .ok (.invokevirtual 49, 3) := by decide +kernel
theorem dX7_setLimit_17 : decode cX7_setLimit 17 = .ok (.aload_n 0, 1) := by decide +kernel
theorem dX7_setLimit_18 : decode cX7_setLimit 18 = .ok (.bipush 7, 2) := by decide +kernel
theorem dX7_setLimit_20 : decode cX7_setLimit 20 = .ok (.iload_n 1, 1) := by decide +kernel
theorem dX7_setLimit_21 : decode cX7_setLimit 21 = .ok (.invokevirtual 56, 3) := by decide +kernel
theorem dX7_setLimit_24 : decode cX7_setLimit 24 = .ok (.ireturn, 1) := by decide +kernel
theorem dX7_opens_0 : decode cX7_opens 0 = .ok (.aload_n 0, 1) := by decide +kernel
theorem dX7_opens_1 : decode cX7_opens 1 = .ok (.iconst 5, 1) := by decide +kernel
theorem dX7_opens_2 : decode cX7_opens 2 = .ok (.iload_n 1, 1) := by decide +kernel
theorem dX7_opens_3 : decode cX7_opens 3 = .ok (.ifCond .eq 7, 3) := by decide +kernel
theorem dX7_opens_6 : decode cX7_opens 6 = .ok (.iconst 1, 1) := by decide +kernel
theorem dX7_opens_7 : decode cX7_opens 7 = .ok (.goto 4, 3) := by decide +kernel
theorem dX7_opens_10 : decode cX7_opens 10 = .ok (.iconst 0, 1) := by decide +kernel
theorem dX7_opens_11 : decode cX7_opens 11 = .ok (.invokevirtual 56, 3) := by decide +kernel
theorem dX7_opens_14 : decode cX7_opens 14 = .ok (.ireturn, 1) := by decide +kernel
theorem dX7_setRunway_0 : decode cX7_setRunway 0 = .ok (.aload_n 0, 1) := by decide +kernel
theorem dX7_setRunway_1 : decode cX7_setRunway 1 = .ok (.invokevirtual 49, 3) := by decide +kernel
theorem dX7_setRunway_4 : decode cX7_setRunway 4 = .ok (.aload_n 0, 1) := by decide +kernel
theorem dX7_setRunway_5 : decode cX7_setRunway 5 = .ok (.iload_n 1, 1) := by decide +kernel
theorem dX7_setRunway_6 : decode cX7_setRunway 6 = .ok (.invokevirtual 60, 3) := by decide +kernel
theorem dX7_setRunway_9 : decode cX7_setRunway 9 = .ok (.ireturn, 1) := by decide +kernel
theorem dX7_setLadder_0 : decode cX7_setLadder 0 = .ok (.aload_n 0, 1) := by decide +kernel
theorem dX7_setLadder_1 : decode cX7_setLadder 1 = .ok (.invokevirtual 49, 3) := by decide +kernel
theorem dX7_setLadder_4 : decode cX7_setLadder 4 = .ok (.aload_n 0, 1) := by decide +kernel
theorem dX7_setLadder_5 : decode cX7_setLadder 5 = .ok (.bipush 6, 2) := by decide +kernel
theorem dX7_setLadder_7 : decode cX7_setLadder 7 = .ok (.iload_n 1, 1) := by decide +kernel
theorem dX7_setLadder_8 : decode cX7_setLadder 8 = .ok (.ifCond .eq 7, 3) := by decide +kernel
theorem dX7_setLadder_11 : decode cX7_setLadder 11 = .ok (.iconst 1, 1) := by decide +kernel
theorem dX7_setLadder_12 : decode cX7_setLadder 12 = .ok (.goto 4, 3) := by decide +kernel
theorem dX7_setLadder_15 : decode cX7_setLadder 15 = .ok (.iconst 0, 1) := by decide +kernel
theorem dX7_setLadder_16 : decode cX7_setLadder 16 = .ok (.invokevirtual 56, 3) := by decide +kernel
theorem dX7_setLadder_19 : decode cX7_setLadder 19 = .ok (.ireturn, 1) := by decide +kernel
theorem dX7_on_0 : decode cX7_on 0 = .ok (.iconst 0, 1) := by decide +kernel
theorem dX7_on_1 : decode cX7_on 1 = .ok (.istore_n 2, 1) := by decide +kernel
theorem dX7_on_2 : decode cX7_on 2 = .ok (.iload_n 2, 1) := by decide +kernel
theorem dX7_on_3 : decode cX7_on 3 = .ok (.aload_n 0, 1) := by decide +kernel
theorem dX7_on_4 : decode cX7_on 4 = .ok (.getfield 7, 3) := by decide +kernel
theorem dX7_on_7 : decode cX7_on 7 = .ok (.iconst 3, 1) := by decide +kernel
theorem dX7_on_8 : decode cX7_on 8 = .ok (.iaload, 1) := by decide +kernel
theorem dX7_on_9 : decode cX7_on 9 = .ok (.if_icmp .ge 40, 3) := by decide +kernel
theorem dX7_on_12 : decode cX7_on 12 = .ok (.aload_n 0, 1) := by decide +kernel
theorem dX7_on_13 : decode cX7_on 13 = .ok (.getfield 7, 3) := by decide +kernel
theorem dX7_on_16 : decode cX7_on 16 = .ok (.iload_n 2, 1) := by decide +kernel
theorem dX7_on_17 : decode cX7_on 17 = .ok (.invokestatic 52, 3) := by decide +kernel
theorem dX7_on_20 : decode cX7_on 20 = .ok (.iconst 2, 1) := by decide +kernel
theorem dX7_on_21 : decode cX7_on 21 = .ok (.iadd, 1) := by decide +kernel
theorem dX7_on_22 : decode cX7_on 22 = .ok (.iaload, 1) := by decide +kernel
theorem dX7_on_23 : decode cX7_on 23 = .ok (.ifCond .ne 20, 3) := by decide +kernel
theorem dX7_on_26 : decode cX7_on 26 = .ok (.aload_n 0, 1) := by decide +kernel
theorem dX7_on_27 : decode cX7_on 27 = .ok (.getfield 7, 3) := by decide +kernel
theorem dX7_on_30 : decode cX7_on 30 = .ok (.iload_n 2, 1) := by decide +kernel
theorem dX7_on_31 : decode cX7_on 31 = .ok (.invokestatic 52, 3) := by decide +kernel
theorem dX7_on_34 : decode cX7_on 34 = .ok (.iconst 3, 1) := by decide +kernel
theorem dX7_on_35 : decode cX7_on 35 = .ok (.iadd, 1) := by decide +kernel
theorem dX7_on_36 : decode cX7_on 36 = .ok (.iaload, 1) := by decide +kernel
theorem dX7_on_37 : decode cX7_on 37 = .ok (.iload_n 1, 1) := by decide +kernel
theorem dX7_on_38 : decode cX7_on 38 = .ok (.if_icmp .ne 5, 3) := by decide +kernel
theorem dX7_on_41 : decode cX7_on 41 = .ok (.iload_n 2, 1) := by decide +kernel
theorem dX7_on_42 : decode cX7_on 42 = .ok (.ireturn, 1) := by decide +kernel
theorem dX7_on_43 : decode cX7_on 43 = .ok (.iinc 2 1, 3) := by decide +kernel
theorem dX7_on_46 : decode cX7_on 46 = .ok (.goto (-44), 3) := by decide +kernel
theorem dX7_on_49 : decode cX7_on 49 = .ok (.bipush (-6), 2) := by decide +kernel
theorem dX7_on_51 : decode cX7_on 51 = .ok (.ireturn, 1) := by decide +kernel
theorem dX7_holding_0 : decode cX7_holding 0 = .ok (.iconst 0, 1) := by decide +kernel
theorem dX7_holding_1 : decode cX7_holding 1 = .ok (.istore_n 1, 1) := by decide +kernel
theorem dX7_holding_2 : decode cX7_holding 2 = .ok (.iconst 0, 1) := by decide +kernel
theorem dX7_holding_3 : decode cX7_holding 3 = .ok (.istore_n 2, 1) := by decide +kernel
theorem dX7_holding_4 : decode cX7_holding 4 = .ok (.iload_n 2, 1) := by decide +kernel
theorem dX7_holding_5 : decode cX7_holding 5 = .ok (.aload_n 0, 1) := by decide +kernel
theorem dX7_holding_6 : decode cX7_holding 6 = .ok (.getfield 7, 3) := by decide +kernel
theorem dX7_holding_9 : decode cX7_holding 9 = .ok (.iconst 3, 1) := by decide +kernel
theorem dX7_holding_10 : decode cX7_holding 10 = .ok (.iaload, 1) := by decide +kernel
theorem dX7_holding_11 : decode cX7_holding 11 = .ok (.if_icmp .ge 31, 3) := by decide +kernel
theorem dX7_holding_14 : decode cX7_holding 14 = .ok (.iload_n 1, 1) := by decide +kernel
theorem dX7_holding_15 : decode cX7_holding 15 = .ok (.aload_n 0, 1) := by decide +kernel
theorem dX7_holding_16 : decode cX7_holding 16 = .ok (.getfield 7, 3) := by decide +kernel
theorem dX7_holding_19 : decode cX7_holding 19 = .ok (.iload_n 2, 1) := by decide +kernel
theorem dX7_holding_20 : decode cX7_holding 20 = .ok (.invokestatic 52, 3) := by decide +kernel
theorem dX7_holding_23 : decode cX7_holding 23 = .ok (.iconst 2, 1) := by decide +kernel
theorem dX7_holding_24 : decode cX7_holding 24 = .ok (.iadd, 1) := by decide +kernel
theorem dX7_holding_25 : decode cX7_holding 25 = .ok (.iaload, 1) := by decide +kernel
theorem dX7_holding_26 : decode cX7_holding 26 = .ok (.ifCond .ne 7, 3) := by decide +kernel
theorem dX7_holding_29 : decode cX7_holding 29 = .ok (.iconst 1, 1) := by decide +kernel
theorem dX7_holding_30 : decode cX7_holding 30 = .ok (.goto 4, 3) := by decide +kernel
theorem dX7_holding_33 : decode cX7_holding 33 = .ok (.iconst 0, 1) := by decide +kernel
theorem dX7_holding_34 : decode cX7_holding 34 = .ok (.iadd, 1) := by decide +kernel
theorem dX7_holding_35 : decode cX7_holding 35 = .ok (.istore_n 1, 1) := by decide +kernel
theorem dX7_holding_36 : decode cX7_holding 36 = .ok (.iinc 2 1, 3) := by decide +kernel
theorem dX7_holding_39 : decode cX7_holding 39 = .ok (.goto (-35), 3) := by decide +kernel
theorem dX7_holding_42 : decode cX7_holding 42 = .ok (.iload_n 1, 1) := by decide +kernel
theorem dX7_holding_43 : decode cX7_holding 43 = .ok (.ireturn, 1) := by decide +kernel
theorem dX7_enterWrong_0 : decode cX7_enterWrong 0 = .ok (.iload_n 1, 1) := by decide +kernel
theorem dX7_enterWrong_1 : decode cX7_enterWrong 1 = .ok (.iconst 0, 1) := by decide +kernel
theorem dX7_enterWrong_2 : decode cX7_enterWrong 2 = .ok (.iconst 2, 1) := by decide +kernel
theorem dX7_enterWrong_3 : decode cX7_enterWrong 3 = .ok (.invokestatic 41, 3) := by decide +kernel
theorem dX7_enterWrong_6 : decode cX7_enterWrong 6 = .ok (.ifCond .eq 11, 3) := by decide +kernel
theorem dX7_enterWrong_9 : decode cX7_enterWrong 9 = .ok (.aload_n 0, 1) := by decide +kernel
theorem dX7_enterWrong_10 : decode cX7_enterWrong 10 = .ok (.iload_n 3, 1) := by decide +kernel
theorem dX7_enterWrong_11 : decode cX7_enterWrong 11 = .ok (.invokevirtual 64, 3) := by decide +kernel
theorem dX7_enterWrong_14 : decode cX7_enterWrong 14 = .ok (.ifCond .ne 5, 3) := by decide +kernel
theorem dX7_enterWrong_17 : decode cX7_enterWrong 17 = .ok (.iconst (-1), 1) := by decide +kernel
theorem dX7_enterWrong_18 : decode cX7_enterWrong 18 = .ok (.ireturn, 1) := by decide +kernel
theorem dX7_enterWrong_19 : decode cX7_enterWrong 19 = .ok (.iload_n 2, 1) := by decide +kernel
theorem dX7_enterWrong_20 : decode cX7_enterWrong 20 = .ok (.iconst 1, 1) := by decide +kernel
theorem dX7_enterWrong_21 : decode cX7_enterWrong 21 = .ok (.sipush 9999, 3) := by decide +kernel
theorem dX7_enterWrong_24 : decode cX7_enterWrong 24 = .ok (.invokestatic 41, 3) := by decide +kernel
theorem dX7_enterWrong_27 : decode cX7_enterWrong 27 = .ok (.ifCond .ne 8, 3) := by decide +kernel
theorem dX7_enterWrong_30 : decode cX7_enterWrong 30 = .ok (.bipush (-2), 2) := by decide +kernel
theorem dX7_enterWrong_32 : decode cX7_enterWrong 32 = .ok (.goto 20, 3) := by decide +kernel
theorem dX7_enterWrong_35 : decode cX7_enterWrong 35 = .ok (.aload_n 0, 1) := by decide +kernel
theorem dX7_enterWrong_36 : decode cX7_enterWrong 36 = .ok (.getfield 7, 3) := by decide +kernel
theorem dX7_enterWrong_39 : decode cX7_enterWrong 39 = .ok (.iconst 3, 1) := by decide +kernel
theorem dX7_enterWrong_40 : decode cX7_enterWrong 40 = .ok (.iaload, 1) := by decide +kernel
theorem dX7_enterWrong_41 : decode cX7_enterWrong 41 = .ok (.bipush 20, 2) := by decide +kernel
theorem dX7_enterWrong_43 : decode cX7_enterWrong 43 = .ok (.if_icmp .ne 8, 3) := by decide +kernel
theorem dX7_enterWrong_46 : decode cX7_enterWrong 46 = .ok (.bipush (-4), 2) := by decide +kernel
theorem dX7_enterWrong_48 : decode cX7_enterWrong 48 = .ok (.goto 4, 3) := by decide +kernel
theorem dX7_enterWrong_51 : decode cX7_enterWrong 51 = .ok (.iconst 0, 1) := by decide +kernel
theorem dX7_enterWrong_52 : decode cX7_enterWrong 52 = .ok (.ireturn, 1) := by decide +kernel
theorem dX7_refusal_0 : decode cX7_refusal 0 = .ok (.aload_n 0, 1) := by decide +kernel
theorem dX7_refusal_1 : decode cX7_refusal 1 = .ok (.iload_n 3, 1) := by decide +kernel
theorem dX7_refusal_2 : decode cX7_refusal 2 = .ok (.invokevirtual 68, 3) := by decide +kernel
theorem dX7_refusal_5 : decode cX7_refusal 5 = .ok (.bipush (-6), 2) := by decide +kernel
theorem dX7_refusal_7 : decode cX7_refusal 7 = .ok (.if_icmp .eq 5, 3) := by decide +kernel
theorem dX7_refusal_10 : decode cX7_refusal 10 = .ok (.iconst 1, 1) := by decide +kernel
theorem dX7_refusal_11 : decode cX7_refusal 11 = .ok (.ireturn, 1) := by decide +kernel
theorem dX7_refusal_12 : decode cX7_refusal 12 = .ok (.iload_n 2, 1) := by decide +kernel
theorem dX7_refusal_13 : decode cX7_refusal 13 = .ok (.aload_n 0, 1) := by decide +kernel
theorem dX7_refusal_14 : decode cX7_refusal 14 = .ok (.getfield 35, 3) := by decide +kernel
theorem dX7_refusal_17 : decode cX7_refusal 17 = .ok (.iload_n 1, 1) := by decide +kernel
theorem dX7_refusal_18 : decode cX7_refusal 18 = .ok (.iaload, 1) := by decide +kernel
theorem dX7_refusal_19 : decode cX7_refusal 19 = .ok (.if_icmp .gt 7, 3) := by decide +kernel
theorem dX7_refusal_22 : decode cX7_refusal 22 = .ok (.iconst 2, 1) := by decide +kernel
theorem dX7_refusal_23 : decode cX7_refusal 23 = .ok (.goto 22, 3) := by decide +kernel
theorem dX7_refusal_26 : decode cX7_refusal 26 = .ok (.aload_n 0, 1) := by decide +kernel
theorem dX7_refusal_27 : decode cX7_refusal 27 = .ok (.invokevirtual 71, 3) := by decide +kernel
theorem dX7_refusal_30 : decode cX7_refusal 30 = .ok (.aload_n 0, 1) := by decide +kernel
theorem dX7_refusal_31 : decode cX7_refusal 31 = .ok (.getfield 7, 3) := by decide +kernel
theorem dX7_refusal_34 : decode cX7_refusal 34 = .ok (.bipush 7, 2) := by decide +kernel
theorem dX7_refusal_36 : decode cX7_refusal 36 = .ok (.iaload, 1) := by decide +kernel
theorem dX7_refusal_37 : decode cX7_refusal 37 = .ok (.if_icmp .lt 7, 3) := by decide +kernel
theorem dX7_refusal_40 : decode cX7_refusal 40 = .ok (.iconst 3, 1) := by decide +kernel
theorem dX7_refusal_41 : decode cX7_refusal 41 = .ok (.goto 4, 3) := by decide +kernel
theorem dX7_refusal_44 : decode cX7_refusal 44 = .ok (.iconst 0, 1) := by decide +kernel
theorem dX7_refusal_45 : decode cX7_refusal 45 = .ok (.ireturn, 1) := by decide +kernel
theorem dX7_enters_0 : decode cX7_enters 0 = .ok (.aload_n 0, 1) := by decide +kernel
theorem dX7_enters_1 : decode cX7_enters 1 = .ok (.getfield 7, 3) := by decide +kernel
theorem dX7_enters_4 : decode cX7_enters 4 = .ok (.iconst 3, 1) := by decide +kernel
theorem dX7_enters_5 : decode cX7_enters 5 = .ok (.iaload, 1) := by decide +kernel
theorem dX7_enters_6 : decode cX7_enters 6 = .ok (.istore 4, 2) := by decide +kernel
theorem dX7_enters_8 : decode cX7_enters 8 = .ok (.aload_n 0, 1) := by decide +kernel
theorem dX7_enters_9 : decode cX7_enters 9 = .ok (.getfield 7, 3) := by decide +kernel
theorem dX7_enters_12 : decode cX7_enters 12 = .ok (.iload 4, 2) := by decide +kernel
theorem dX7_enters_14 : decode cX7_enters 14 = .ok (.invokestatic 52, 3) := by decide +kernel
theorem dX7_enters_17 : decode cX7_enters 17 = .ok (.iload_n 1, 1) := by decide +kernel
theorem dX7_enters_18 : decode cX7_enters 18 = .ok (.iastore, 1) := by decide +kernel
theorem dX7_enters_19 : decode cX7_enters 19 = .ok (.aload_n 0, 1) := by decide +kernel
theorem dX7_enters_20 : decode cX7_enters 20 = .ok (.getfield 7, 3) := by decide +kernel
theorem dX7_enters_23 : decode cX7_enters 23 = .ok (.iload 4, 2) := by decide +kernel
theorem dX7_enters_25 : decode cX7_enters 25 = .ok (.invokestatic 52, 3) := by decide +kernel
theorem dX7_enters_28 : decode cX7_enters 28 = .ok (.iconst 1, 1) := by decide +kernel
theorem dX7_enters_29 : decode cX7_enters 29 = .ok (.iadd, 1) := by decide +kernel
theorem dX7_enters_30 : decode cX7_enters 30 = .ok (.iload_n 2, 1) := by decide +kernel
theorem dX7_enters_31 : decode cX7_enters 31 = .ok (.iastore, 1) := by decide +kernel
theorem dX7_enters_32 : decode cX7_enters 32 = .ok (.aload_n 0, 1) := by decide +kernel
theorem dX7_enters_33 : decode cX7_enters 33 = .ok (.getfield 7, 3) := by decide +kernel
theorem dX7_enters_36 : decode cX7_enters 36 = .ok (.iload 4, 2) := by decide +kernel
theorem dX7_enters_38 : decode cX7_enters 38 = .ok (.invokestatic 52, 3) := by decide +kernel
theorem dX7_enters_41 : decode cX7_enters 41 = .ok (.iconst 2, 1) := by decide +kernel
theorem dX7_enters_42 : decode cX7_enters 42 = .ok (.iadd, 1) := by decide +kernel
theorem dX7_enters_43 : decode cX7_enters 43 = .ok (.iconst 0, 1) := by decide +kernel
theorem dX7_enters_44 : decode cX7_enters 44 = .ok (.iastore, 1) := by decide +kernel
theorem dX7_enters_45 : decode cX7_enters 45 = .ok (.aload_n 0, 1) := by decide +kernel
theorem dX7_enters_46 : decode cX7_enters 46 = .ok (.getfield 7, 3) := by decide +kernel
theorem dX7_enters_49 : decode cX7_enters 49 = .ok (.iload 4, 2) := by decide +kernel
theorem dX7_enters_51 : decode cX7_enters 51 = .ok (.invokestatic 52, 3) := by decide +kernel
theorem dX7_enters_54 : decode cX7_enters 54 = .ok (.iconst 3, 1) := by decide +kernel
theorem dX7_enters_55 : decode cX7_enters 55 = .ok (.iadd, 1) := by decide +kernel
theorem dX7_enters_56 : decode cX7_enters 56 = .ok (.iload_n 3, 1) := by decide +kernel
theorem dX7_enters_57 : decode cX7_enters 57 = .ok (.iastore, 1) := by decide +kernel
theorem dX7_enters_58 : decode cX7_enters 58 = .ok (.aload_n 0, 1) := by decide +kernel
theorem dX7_enters_59 : decode cX7_enters 59 = .ok (.getfield 7, 3) := by decide +kernel
theorem dX7_enters_62 : decode cX7_enters 62 = .ok (.iload 4, 2) := by decide +kernel
theorem dX7_enters_64 : decode cX7_enters 64 = .ok (.invokestatic 52, 3) := by decide +kernel
theorem dX7_enters_67 : decode cX7_enters 67 = .ok (.iconst 4, 1) := by decide +kernel
theorem dX7_enters_68 : decode cX7_enters 68 = .ok (.iadd, 1) := by decide +kernel
theorem dX7_enters_69 : decode cX7_enters 69 = .ok (.iconst 1, 1) := by decide +kernel
theorem dX7_enters_70 : decode cX7_enters 70 = .ok (.iastore, 1) := by decide +kernel
theorem dX7_enters_71 : decode cX7_enters 71 = .ok (.aload_n 0, 1) := by decide +kernel
theorem dX7_enters_72 : decode cX7_enters 72 = .ok (.getfield 7, 3) := by decide +kernel
theorem dX7_enters_75 : decode cX7_enters 75 = .ok (.iload 4, 2) := by decide +kernel
theorem dX7_enters_77 : decode cX7_enters 77 = .ok (.invokestatic 52, 3) := by decide +kernel
theorem dX7_enters_80 : decode cX7_enters 80 = .ok (.iconst 5, 1) := by decide +kernel
theorem dX7_enters_81 : decode cX7_enters 81 = .ok (.iadd, 1) := by decide +kernel
theorem dX7_enters_82 : decode cX7_enters 82 = .ok (.iconst 0, 1) := by decide +kernel
theorem dX7_enters_83 : decode cX7_enters 83 = .ok (.iastore, 1) := by decide +kernel
theorem dX7_enters_84 : decode cX7_enters 84 = .ok (.aload_n 0, 1) := by decide +kernel
theorem dX7_enters_85 : decode cX7_enters 85 = .ok (.getfield 7, 3) := by decide +kernel
theorem dX7_enters_88 : decode cX7_enters 88 = .ok (.iload 4, 2) := by decide +kernel
theorem dX7_enters_90 : decode cX7_enters 90 = .ok (.invokestatic 52, 3) := by decide +kernel
theorem dX7_enters_93 : decode cX7_enters 93 = .ok (.bipush 6, 2) := by decide +kernel
theorem dX7_enters_95 : decode cX7_enters 95 = .ok (.iadd, 1) := by decide +kernel
theorem dX7_enters_96 : decode cX7_enters 96 = .ok (.iconst 0, 1) := by decide +kernel
theorem dX7_enters_97 : decode cX7_enters 97 = .ok (.iastore, 1) := by decide +kernel
theorem dX7_enters_98 : decode cX7_enters 98 = .ok (.aload_n 0, 1) := by decide +kernel
theorem dX7_enters_99 : decode cX7_enters 99 = .ok (.getfield 7, 3) := by decide +kernel
theorem dX7_enters_102 : decode cX7_enters 102 = .ok (.iconst 3, 1) := by decide +kernel
theorem dX7_enters_103 : decode cX7_enters 103 = .ok (.dup2, 1) := by decide +kernel
theorem dX7_enters_104 : decode cX7_enters 104 = .ok (.iaload, 1) := by decide +kernel
theorem dX7_enters_105 : decode cX7_enters 105 = .ok (.iconst 1, 1) := by decide +kernel
theorem dX7_enters_106 : decode cX7_enters 106 = .ok (.iadd, 1) := by decide +kernel
theorem dX7_enters_107 : decode cX7_enters 107 = .ok (.iastore, 1) := by decide +kernel
theorem dX7_enters_108 : decode cX7_enters 108 = .ok (.aload_n 0, 1) := by decide +kernel
theorem dX7_enters_109 : decode cX7_enters 109 = .ok (.getfield 7, 3) := by decide +kernel
theorem dX7_enters_112 : decode cX7_enters 112 = .ok (.bipush 9, 2) := by decide +kernel
theorem dX7_enters_114 : decode cX7_enters 114 = .ok (.dup2, 1) := by decide +kernel
theorem dX7_enters_115 : decode cX7_enters 115 = .ok (.iaload, 1) := by decide +kernel
theorem dX7_enters_116 : decode cX7_enters 116 = .ok (.iload_n 2, 1) := by decide +kernel
theorem dX7_enters_117 : decode cX7_enters 117 = .ok (.iadd, 1) := by decide +kernel
theorem dX7_enters_118 : decode cX7_enters 118 = .ok (.iastore, 1) := by decide +kernel
theorem dX7_enters_119 : decode cX7_enters 119 = .ok (.aload_n 0, 1) := by decide +kernel
theorem dX7_enters_120 : decode cX7_enters 120 = .ok (.getfield 7, 3) := by decide +kernel
theorem dX7_enters_123 : decode cX7_enters 123 = .ok (.bipush 13, 2) := by decide +kernel
theorem dX7_enters_125 : decode cX7_enters 125 = .ok (.iconst 0, 1) := by decide +kernel
theorem dX7_enters_126 : decode cX7_enters 126 = .ok (.iastore, 1) := by decide +kernel
theorem dX7_enters_127 : decode cX7_enters 127 = .ok (.iload 4, 2) := by decide +kernel
theorem dX7_enters_129 : decode cX7_enters 129 = .ok (.ireturn, 1) := by decide +kernel
theorem dX7_enter_0 : decode cX7_enter 0 = .ok (.aload_n 0, 1) := by decide +kernel
theorem dX7_enter_1 : decode cX7_enter 1 = .ok (.iload_n 1, 1) := by decide +kernel
theorem dX7_enter_2 : decode cX7_enter 2 = .ok (.iload_n 2, 1) := by decide +kernel
theorem dX7_enter_3 : decode cX7_enter 3 = .ok (.iload_n 3, 1) := by decide +kernel
theorem dX7_enter_4 : decode cX7_enter 4 = .ok (.invokevirtual 75, 3) := by decide +kernel
theorem dX7_enter_7 : decode cX7_enter 7 = .ok (.istore 4, 2) := by decide +kernel
theorem dX7_enter_9 : decode cX7_enter 9 = .ok (.iload 4, 2) := by decide +kernel
theorem dX7_enter_11 : decode cX7_enter 11 = .ok (.ifCond .ge 6, 3) := by decide +kernel
theorem dX7_enter_14 : decode cX7_enter 14 = .ok (.iload 4, 2) := by decide +kernel
theorem dX7_enter_16 : decode cX7_enter 16 = .ok (.ireturn, 1) := by decide +kernel
theorem dX7_enter_17 : decode cX7_enter 17 = .ok (.aload_n 0, 1) := by decide +kernel
theorem dX7_enter_18 : decode cX7_enter 18 = .ok (.iload_n 1, 1) := by decide +kernel
theorem dX7_enter_19 : decode cX7_enter 19 = .ok (.iload_n 2, 1) := by decide +kernel
theorem dX7_enter_20 : decode cX7_enter 20 = .ok (.iload_n 3, 1) := by decide +kernel
theorem dX7_enter_21 : decode cX7_enter 21 = .ok (.invokevirtual 79, 3) := by decide +kernel
theorem dX7_enter_24 : decode cX7_enter 24 = .ok (.istore 5, 2) := by decide +kernel
theorem dX7_enter_26 : decode cX7_enter 26 = .ok (.iload 5, 2) := by decide +kernel
theorem dX7_enter_28 : decode cX7_enter 28 = .ok (.ifCond .le 15, 3) := by decide +kernel
theorem dX7_enter_31 : decode cX7_enter 31 = .ok (.aload_n 0, 1) := by decide +kernel
theorem dX7_enter_32 : decode cX7_enter 32 = .ok (.getfield 7, 3) := by decide +kernel
theorem dX7_enter_35 : decode cX7_enter 35 = .ok (.bipush 13, 2) := by decide +kernel
theorem dX7_enter_37 : decode cX7_enter 37 = .ok (.iload 5, 2) := by decide +kernel
theorem dX7_enter_39 : decode cX7_enter 39 = .ok (.iastore, 1) := by decide +kernel
theorem dX7_enter_40 : decode cX7_enter 40 = .ok (.bipush (-5), 2) := by decide +kernel
theorem dX7_enter_42 : decode cX7_enter 42 = .ok (.ireturn, 1) := by decide +kernel
theorem dX7_enter_43 : decode cX7_enter 43 = .ok (.aload_n 0, 1) := by decide +kernel
theorem dX7_enter_44 : decode cX7_enter 44 = .ok (.invokevirtual 49, 3) := by decide +kernel
theorem dX7_enter_47 : decode cX7_enter 47 = .ok (.aload_n 0, 1) := by decide +kernel
theorem dX7_enter_48 : decode cX7_enter 48 = .ok (.iload_n 1, 1) := by decide +kernel
theorem dX7_enter_49 : decode cX7_enter 49 = .ok (.iload_n 2, 1) := by decide +kernel
theorem dX7_enter_50 : decode cX7_enter 50 = .ok (.iload_n 3, 1) := by decide +kernel
theorem dX7_enter_51 : decode cX7_enter 51 = .ok (.invokevirtual 82, 3) := by decide +kernel
theorem dX7_enter_54 : decode cX7_enter 54 = .ok (.ireturn, 1) := by decide +kernel
theorem dX7_callWrong_0 : decode cX7_callWrong 0 = .ok (.aload_n 0, 1) := by decide +kernel
theorem dX7_callWrong_1 : decode cX7_callWrong 1 = .ok (.iload_n 1, 1) := by decide +kernel
theorem dX7_callWrong_2 : decode cX7_callWrong 2 = .ok (.invokevirtual 85, 3) := by decide +kernel
theorem dX7_callWrong_5 : decode cX7_callWrong 5 = .ok (.ifCond .ne 5, 3) := by decide +kernel
theorem dX7_callWrong_8 : decode cX7_callWrong 8 = .ok (.iconst (-1), 1) := by decide +kernel
theorem dX7_callWrong_9 : decode cX7_callWrong 9 = .ok (.ireturn, 1) := by decide +kernel
theorem dX7_callWrong_10 : decode cX7_callWrong 10 = .ok (.aload_n 0, 1) := by decide +kernel
theorem dX7_callWrong_11 : decode cX7_callWrong 11 = .ok (.getfield 7, 3) := by decide +kernel
theorem dX7_callWrong_14 : decode cX7_callWrong 14 = .ok (.iload_n 1, 1) := by decide +kernel
theorem dX7_callWrong_15 : decode cX7_callWrong 15 = .ok (.invokestatic 52, 3) := by decide +kernel
theorem dX7_callWrong_18 : decode cX7_callWrong 18 = .ok (.iconst 2, 1) := by decide +kernel
theorem dX7_callWrong_19 : decode cX7_callWrong 19 = .ok (.iadd, 1) := by decide +kernel
theorem dX7_callWrong_20 : decode cX7_callWrong 20 = .ok (.iaload, 1) := by decide +kernel
theorem dX7_callWrong_21 : decode cX7_callWrong 21 = .ok (.ifCond .ne 32, 3) := by decide +kernel
theorem dX7_callWrong_24 : decode cX7_callWrong 24 = .ok (.aload_n 0, 1) := by decide +kernel
theorem dX7_callWrong_25 : decode cX7_callWrong 25 = .ok (.getfield 7, 3) := by decide +kernel
theorem dX7_callWrong_28 : decode cX7_callWrong 28 = .ok (.iload_n 1, 1) := by decide +kernel
theorem dX7_callWrong_29 : decode cX7_callWrong 29 = .ok (.invokestatic 52, 3) := by decide +kernel
theorem dX7_callWrong_32 : decode cX7_callWrong 32 = .ok (.iconst 3, 1) := by decide +kernel
theorem dX7_callWrong_33 : decode cX7_callWrong 33 = .ok (.iadd, 1) := by decide +kernel
theorem dX7_callWrong_34 : decode cX7_callWrong 34 = .ok (.iaload, 1) := by decide +kernel
theorem dX7_callWrong_35 : decode cX7_callWrong 35 = .ok (.ifCond .eq 18, 3) := by decide +kernel
theorem dX7_callWrong_38 : decode cX7_callWrong 38 = .ok (.aload_n 0, 1) := by decide +kernel
theorem dX7_callWrong_39 : decode cX7_callWrong 39 = .ok (.getfield 7, 3) := by decide +kernel
theorem dX7_callWrong_42 : decode cX7_callWrong 42 = .ok (.iload_n 1, 1) := by decide +kernel
theorem dX7_callWrong_43 : decode cX7_callWrong 43 = .ok (.invokestatic 52, 3) := by decide +kernel
theorem dX7_callWrong_46 : decode cX7_callWrong 46 = .ok (.iconst 5, 1) := by decide +kernel
theorem dX7_callWrong_47 : decode cX7_callWrong 47 = .ok (.iadd, 1) := by decide +kernel
theorem dX7_callWrong_48 : decode cX7_callWrong 48 = .ok (.iaload, 1) := by decide +kernel
theorem dX7_callWrong_49 : decode cX7_callWrong 49 = .ok (.iconst 1, 1) := by decide +kernel
theorem dX7_callWrong_50 : decode cX7_callWrong 50 = .ok (.if_icmp .ne 8, 3) := by decide +kernel
theorem dX7_callWrong_53 : decode cX7_callWrong 53 = .ok (.bipush (-3), 2) := by decide +kernel
theorem dX7_callWrong_55 : decode cX7_callWrong 55 = .ok (.goto 4, 3) := by decide +kernel
theorem dX7_callWrong_58 : decode cX7_callWrong 58 = .ok (.iconst 0, 1) := by decide +kernel
theorem dX7_callWrong_59 : decode cX7_callWrong 59 = .ok (.ireturn, 1) := by decide +kernel
theorem dX7_call_0 : decode cX7_call 0 = .ok (.aload_n 0, 1) := by decide +kernel
theorem dX7_call_1 : decode cX7_call 1 = .ok (.iload_n 1, 1) := by decide +kernel
theorem dX7_call_2 : decode cX7_call 2 = .ok (.invokevirtual 88, 3) := by decide +kernel
theorem dX7_call_5 : decode cX7_call 5 = .ok (.istore_n 2, 1) := by decide +kernel
theorem dX7_call_6 : decode cX7_call 6 = .ok (.iload_n 2, 1) := by decide +kernel
theorem dX7_call_7 : decode cX7_call 7 = .ok (.ifCond .ge 5, 3) := by decide +kernel
theorem dX7_call_10 : decode cX7_call 10 = .ok (.iload_n 2, 1) := by decide +kernel
theorem dX7_call_11 : decode cX7_call 11 = .ok (.ireturn, 1) := by decide +kernel
theorem dX7_call_12 : decode cX7_call 12 = .ok (.aload_n 0, 1) := by decide +kernel
theorem dX7_call_13 : decode cX7_call 13 = .ok (.invokevirtual 49, 3) := by decide +kernel
theorem dX7_call_16 : decode cX7_call 16 = .ok (.aload_n 0, 1) := by decide +kernel
theorem dX7_call_17 : decode cX7_call 17 = .ok (.getfield 7, 3) := by decide +kernel
theorem dX7_call_20 : decode cX7_call 20 = .ok (.iload_n 1, 1) := by decide +kernel
theorem dX7_call_21 : decode cX7_call 21 = .ok (.invokestatic 52, 3) := by decide +kernel
theorem dX7_call_24 : decode cX7_call 24 = .ok (.iconst 5, 1) := by decide +kernel
theorem dX7_call_25 : decode cX7_call 25 = .ok (.iadd, 1) := by decide +kernel
theorem dX7_call_26 : decode cX7_call 26 = .ok (.iconst 1, 1) := by decide +kernel
theorem dX7_call_27 : decode cX7_call 27 = .ok (.iastore, 1) := by decide +kernel
theorem dX7_call_28 : decode cX7_call 28 = .ok (.aload_n 0, 1) := by decide +kernel
theorem dX7_call_29 : decode cX7_call 29 = .ok (.getfield 7, 3) := by decide +kernel
theorem dX7_call_32 : decode cX7_call 32 = .ok (.iload_n 1, 1) := by decide +kernel
theorem dX7_call_33 : decode cX7_call 33 = .ok (.invokestatic 52, 3) := by decide +kernel
theorem dX7_call_36 : decode cX7_call 36 = .ok (.iconst 3, 1) := by decide +kernel
theorem dX7_call_37 : decode cX7_call 37 = .ok (.iadd, 1) := by decide +kernel
theorem dX7_call_38 : decode cX7_call 38 = .ok (.iaload, 1) := by decide +kernel
theorem dX7_call_39 : decode cX7_call 39 = .ok (.ireturn, 1) := by decide +kernel
theorem dX7_burn_0 : decode cX7_burn 0 = .ok (.aload_n 0, 1) := by decide +kernel
theorem dX7_burn_1 : decode cX7_burn 1 = .ok (.getfield 32, 3) := by decide +kernel
theorem dX7_burn_4 : decode cX7_burn 4 = .ok (.aload_n 0, 1) := by decide +kernel
theorem dX7_burn_5 : decode cX7_burn 5 = .ok (.getfield 7, 3) := by decide +kernel
theorem dX7_burn_8 : decode cX7_burn 8 = .ok (.iload_n 1, 1) := by decide +kernel
theorem dX7_burn_9 : decode cX7_burn 9 = .ok (.invokestatic 52, 3) := by decide +kernel
theorem dX7_burn_12 : decode cX7_burn 12 = .ok (.iaload, 1) := by decide +kernel
theorem dX7_burn_13 : decode cX7_burn 13 = .ok (.iaload, 1) := by decide +kernel
theorem dX7_burn_14 : decode cX7_burn 14 = .ok (.istore_n 3, 1) := by decide +kernel
theorem dX7_burn_15 : decode cX7_burn 15 = .ok (.iload_n 3, 1) := by decide +kernel
theorem dX7_burn_16 : decode cX7_burn 16 = .ok (.iload_n 3, 1) := by decide +kernel
theorem dX7_burn_17 : decode cX7_burn 17 = .ok (.iload_n 2, 1) := by decide +kernel
theorem dX7_burn_18 : decode cX7_burn 18 = .ok (.imul, 1) := by decide +kernel
theorem dX7_burn_19 : decode cX7_burn 19 = .ok (.bipush 40, 2) := by decide +kernel
theorem dX7_burn_21 : decode cX7_burn 21 = .ok (.idiv, 1) := by decide +kernel
theorem dX7_burn_22 : decode cX7_burn 22 = .ok (.isub, 1) := by decide +kernel
theorem dX7_burn_23 : decode cX7_burn 23 = .ok (.ireturn, 1) := by decide +kernel
theorem dX7_isShort_0 : decode cX7_isShort 0 = .ok (.aload_n 0, 1) := by decide +kernel
theorem dX7_isShort_1 : decode cX7_isShort 1 = .ok (.getfield 7, 3) := by decide +kernel
theorem dX7_isShort_4 : decode cX7_isShort 4 = .ok (.iload_n 1, 1) := by decide +kernel
theorem dX7_isShort_5 : decode cX7_isShort 5 = .ok (.invokestatic 52, 3) := by decide +kernel
theorem dX7_isShort_8 : decode cX7_isShort 8 = .ok (.iconst 1, 1) := by decide +kernel
theorem dX7_isShort_9 : decode cX7_isShort 9 = .ok (.iadd, 1) := by decide +kernel
theorem dX7_isShort_10 : decode cX7_isShort 10 = .ok (.iaload, 1) := by decide +kernel
theorem dX7_isShort_11 : decode cX7_isShort 11 = .ok (.aload_n 0, 1) := by decide +kernel
theorem dX7_isShort_12 : decode cX7_isShort 12 = .ok (.getfield 35, 3) := by decide +kernel
theorem dX7_isShort_15 : decode cX7_isShort 15 = .ok (.aload_n 0, 1) := by decide +kernel
theorem dX7_isShort_16 : decode cX7_isShort 16 = .ok (.getfield 7, 3) := by decide +kernel
theorem dX7_isShort_19 : decode cX7_isShort 19 = .ok (.iload_n 1, 1) := by decide +kernel
theorem dX7_isShort_20 : decode cX7_isShort 20 = .ok (.invokestatic 52, 3) := by decide +kernel
theorem dX7_isShort_23 : decode cX7_isShort 23 = .ok (.iaload, 1) := by decide +kernel
theorem dX7_isShort_24 : decode cX7_isShort 24 = .ok (.iaload, 1) := by decide +kernel
theorem dX7_isShort_25 : decode cX7_isShort 25 = .ok (.if_icmp .gt 7, 3) := by decide +kernel
theorem dX7_isShort_28 : decode cX7_isShort 28 = .ok (.iconst 1, 1) := by decide +kernel
theorem dX7_isShort_29 : decode cX7_isShort 29 = .ok (.goto 4, 3) := by decide +kernel
theorem dX7_isShort_32 : decode cX7_isShort 32 = .ok (.iconst 0, 1) := by decide +kernel
theorem dX7_isShort_33 : decode cX7_isShort 33 = .ok (.ireturn, 1) := by decide +kernel
theorem dX7_isOver_0 : decode cX7_isOver 0 = .ok (.aload_n 0, 1) := by decide +kernel
theorem dX7_isOver_1 : decode cX7_isOver 1 = .ok (.getfield 7, 3) := by decide +kernel
theorem dX7_isOver_4 : decode cX7_isOver 4 = .ok (.iload_n 1, 1) := by decide +kernel
theorem dX7_isOver_5 : decode cX7_isOver 5 = .ok (.invokestatic 52, 3) := by decide +kernel
theorem dX7_isOver_8 : decode cX7_isOver 8 = .ok (.iconst 2, 1) := by decide +kernel
theorem dX7_isOver_9 : decode cX7_isOver 9 = .ok (.iadd, 1) := by decide +kernel
theorem dX7_isOver_10 : decode cX7_isOver 10 = .ok (.iaload, 1) := by decide +kernel
theorem dX7_isOver_11 : decode cX7_isOver 11 = .ok (.ifCond .ne 21, 3) := by decide +kernel
theorem dX7_isOver_14 : decode cX7_isOver 14 = .ok (.aload_n 0, 1) := by decide +kernel
theorem dX7_isOver_15 : decode cX7_isOver 15 = .ok (.getfield 7, 3) := by decide +kernel
theorem dX7_isOver_18 : decode cX7_isOver 18 = .ok (.iload_n 1, 1) := by decide +kernel
theorem dX7_isOver_19 : decode cX7_isOver 19 = .ok (.invokestatic 52, 3) := by decide +kernel
theorem dX7_isOver_22 : decode cX7_isOver 22 = .ok (.iconst 4, 1) := by decide +kernel
theorem dX7_isOver_23 : decode cX7_isOver 23 = .ok (.iadd, 1) := by decide +kernel
theorem dX7_isOver_24 : decode cX7_isOver 24 = .ok (.iaload, 1) := by decide +kernel
theorem dX7_isOver_25 : decode cX7_isOver 25 = .ok (.ifCond .ne 7, 3) := by decide +kernel
theorem dX7_isOver_28 : decode cX7_isOver 28 = .ok (.iconst 1, 1) := by decide +kernel
theorem dX7_isOver_29 : decode cX7_isOver 29 = .ok (.goto 4, 3) := by decide +kernel
theorem dX7_isOver_32 : decode cX7_isOver 32 = .ok (.iconst 0, 1) := by decide +kernel
theorem dX7_isOver_33 : decode cX7_isOver 33 = .ok (.ireturn, 1) := by decide +kernel
theorem dX7_leaves_0 : decode cX7_leaves 0 = .ok (.aload_n 0, 1) := by decide +kernel
theorem dX7_leaves_1 : decode cX7_leaves 1 = .ok (.getfield 7, 3) := by decide +kernel
theorem dX7_leaves_4 : decode cX7_leaves 4 = .ok (.iload_n 1, 1) := by decide +kernel
theorem dX7_leaves_5 : decode cX7_leaves 5 = .ok (.invokestatic 52, 3) := by decide +kernel
theorem dX7_leaves_8 : decode cX7_leaves 8 = .ok (.iconst 2, 1) := by decide +kernel
theorem dX7_leaves_9 : decode cX7_leaves 9 = .ok (.iadd, 1) := by decide +kernel
theorem dX7_leaves_10 : decode cX7_leaves 10 = .ok (.iload_n 2, 1) := by decide +kernel
theorem dX7_leaves_11 : decode cX7_leaves 11 = .ok (.iastore, 1) := by decide +kernel
theorem dX7_leaves_12 : decode cX7_leaves 12 = .ok (.aload_n 0, 1) := by decide +kernel
theorem dX7_leaves_13 : decode cX7_leaves 13 = .ok (.getfield 7, 3) := by decide +kernel
theorem dX7_leaves_16 : decode cX7_leaves 16 = .ok (.iload_n 1, 1) := by decide +kernel
theorem dX7_leaves_17 : decode cX7_leaves 17 = .ok (.invokestatic 52, 3) := by decide +kernel
theorem dX7_leaves_20 : decode cX7_leaves 20 = .ok (.bipush 6, 2) := by decide +kernel
theorem dX7_leaves_22 : decode cX7_leaves 22 = .ok (.iadd, 1) := by decide +kernel
theorem dX7_leaves_23 : decode cX7_leaves 23 = .ok (.aload_n 0, 1) := by decide +kernel
theorem dX7_leaves_24 : decode cX7_leaves 24 = .ok (.getfield 7, 3) := by decide +kernel
theorem dX7_leaves_27 : decode cX7_leaves 27 = .ok (.iconst 0, 1) := by decide +kernel
theorem dX7_leaves_28 : decode cX7_leaves 28 = .ok (.iaload, 1) := by decide +kernel
theorem dX7_leaves_29 : decode cX7_leaves 29 = .ok (.iastore, 1) := by decide +kernel
theorem dX7_leaves_30 : decode cX7_leaves 30 = .ok (.aload_n 0, 1) := by decide +kernel
theorem dX7_leaves_31 : decode cX7_leaves 31 = .ok (.getfield 7, 3) := by decide +kernel
theorem dX7_leaves_34 : decode cX7_leaves 34 = .ok (.iload_n 2, 1) := by decide +kernel
theorem dX7_leaves_35 : decode cX7_leaves 35 = .ok (.iconst 1, 1) := by decide +kernel
theorem dX7_leaves_36 : decode cX7_leaves 36 = .ok (.if_icmp .ne 8, 3) := by decide +kernel
theorem dX7_leaves_39 : decode cX7_leaves 39 = .ok (.bipush 11, 2) := by decide +kernel
theorem dX7_leaves_41 : decode cX7_leaves 41 = .ok (.goto 5, 3) := by decide +kernel
theorem dX7_leaves_44 : decode cX7_leaves 44 = .ok (.bipush 12, 2) := by decide +kernel
theorem dX7_leaves_46 : decode cX7_leaves 46 = .ok (.dup2, 1) := by decide +kernel
theorem dX7_leaves_47 : decode cX7_leaves 47 = .ok (.iaload, 1) := by decide +kernel
theorem dX7_leaves_48 : decode cX7_leaves 48 = .ok (.aload_n 0, 1) := by decide +kernel
theorem dX7_leaves_49 : decode cX7_leaves 49 = .ok (.getfield 7, 3) := by decide +kernel
theorem dX7_leaves_52 : decode cX7_leaves 52 = .ok (.iload_n 1, 1) := by decide +kernel
theorem dX7_leaves_53 : decode cX7_leaves 53 = .ok (.invokestatic 52, 3) := by decide +kernel
theorem dX7_leaves_56 : decode cX7_leaves 56 = .ok (.iconst 1, 1) := by decide +kernel
theorem dX7_leaves_57 : decode cX7_leaves 57 = .ok (.iadd, 1) := by decide +kernel
theorem dX7_leaves_58 : decode cX7_leaves 58 = .ok (.iaload, 1) := by decide +kernel
theorem dX7_leaves_59 : decode cX7_leaves 59 = .ok (.iadd, 1) := by decide +kernel
theorem dX7_leaves_60 : decode cX7_leaves 60 = .ok (.iastore, 1) := by decide +kernel
theorem dX7_leaves_61 : decode cX7_leaves 61 = .ok (.return_, 1) := by decide +kernel
theorem dX7_burns_0 : decode cX7_burns 0 = .ok (.iconst 0, 1) := by decide +kernel
theorem dX7_burns_1 : decode cX7_burns 1 = .ok (.istore_n 1, 1) := by decide +kernel
theorem dX7_burns_2 : decode cX7_burns 2 = .ok (.iload_n 1, 1) := by decide +kernel
theorem dX7_burns_3 : decode cX7_burns 3 = .ok (.aload_n 0, 1) := by decide +kernel
theorem dX7_burns_4 : decode cX7_burns 4 = .ok (.getfield 7, 3) := by decide +kernel
theorem dX7_burns_7 : decode cX7_burns 7 = .ok (.iconst 3, 1) := by decide +kernel
theorem dX7_burns_8 : decode cX7_burns 8 = .ok (.iaload, 1) := by decide +kernel
theorem dX7_burns_9 : decode cX7_burns 9 = .ok (.if_icmp .ge 128, 3) := by decide +kernel
theorem dX7_burns_12 : decode cX7_burns 12 = .ok (.iload_n 1, 1) := by decide +kernel
theorem dX7_burns_13 : decode cX7_burns 13 = .ok (.invokestatic 52, 3) := by decide +kernel
theorem dX7_burns_16 : decode cX7_burns 16 = .ok (.istore_n 2, 1) := by decide +kernel
theorem dX7_burns_17 : decode cX7_burns 17 = .ok (.aload_n 0, 1) := by decide +kernel
theorem dX7_burns_18 : decode cX7_burns 18 = .ok (.getfield 7, 3) := by decide +kernel
theorem dX7_burns_21 : decode cX7_burns 21 = .ok (.iload_n 2, 1) := by decide +kernel
theorem dX7_burns_22 : decode cX7_burns 22 = .ok (.iconst 2, 1) := by decide +kernel
theorem dX7_burns_23 : decode cX7_burns 23 = .ok (.iadd, 1) := by decide +kernel
theorem dX7_burns_24 : decode cX7_burns 24 = .ok (.iaload, 1) := by decide +kernel
theorem dX7_burns_25 : decode cX7_burns 25 = .ok (.ifCond .ne 106, 3) := by decide +kernel
theorem dX7_burns_28 : decode cX7_burns 28 = .ok (.aload_n 0, 1) := by decide +kernel
theorem dX7_burns_29 : decode cX7_burns 29 = .ok (.iload_n 1, 1) := by decide +kernel
theorem dX7_burns_30 : decode cX7_burns 30 = .ok (.aload_n 0, 1) := by decide +kernel
theorem dX7_burns_31 : decode cX7_burns 31 = .ok (.getfield 7, 3) := by decide +kernel
theorem dX7_burns_34 : decode cX7_burns 34 = .ok (.iload_n 2, 1) := by decide +kernel
theorem dX7_burns_35 : decode cX7_burns 35 = .ok (.iconst 3, 1) := by decide +kernel
theorem dX7_burns_36 : decode cX7_burns 36 = .ok (.iadd, 1) := by decide +kernel
theorem dX7_burns_37 : decode cX7_burns 37 = .ok (.iaload, 1) := by decide +kernel
theorem dX7_burns_38 : decode cX7_burns 38 = .ok (.invokevirtual 91, 3) := by decide +kernel
theorem dX7_burns_41 : decode cX7_burns 41 = .ok (.istore_n 3, 1) := by decide +kernel
theorem dX7_burns_42 : decode cX7_burns 42 = .ok (.iload_n 3, 1) := by decide +kernel
theorem dX7_burns_43 : decode cX7_burns 43 = .ok (.aload_n 0, 1) := by decide +kernel
theorem dX7_burns_44 : decode cX7_burns 44 = .ok (.getfield 7, 3) := by decide +kernel
theorem dX7_burns_47 : decode cX7_burns 47 = .ok (.iload_n 2, 1) := by decide +kernel
theorem dX7_burns_48 : decode cX7_burns 48 = .ok (.iconst 1, 1) := by decide +kernel
theorem dX7_burns_49 : decode cX7_burns 49 = .ok (.iadd, 1) := by decide +kernel
theorem dX7_burns_50 : decode cX7_burns 50 = .ok (.iaload, 1) := by decide +kernel
theorem dX7_burns_51 : decode cX7_burns 51 = .ok (.if_icmp .ge 7, 3) := by decide +kernel
theorem dX7_burns_54 : decode cX7_burns 54 = .ok (.iload_n 3, 1) := by decide +kernel
theorem dX7_burns_55 : decode cX7_burns 55 = .ok (.goto 11, 3) := by decide +kernel
theorem dX7_burns_58 : decode cX7_burns 58 = .ok (.aload_n 0, 1) := by decide +kernel
theorem dX7_burns_59 : decode cX7_burns 59 = .ok (.getfield 7, 3) := by decide +kernel
theorem dX7_burns_62 : decode cX7_burns 62 = .ok (.iload_n 2, 1) := by decide +kernel
theorem dX7_burns_63 : decode cX7_burns 63 = .ok (.iconst 1, 1) := by decide +kernel
theorem dX7_burns_64 : decode cX7_burns 64 = .ok (.iadd, 1) := by decide +kernel
theorem dX7_burns_65 : decode cX7_burns 65 = .ok (.iaload, 1) := by decide +kernel
theorem dX7_burns_66 : decode cX7_burns 66 = .ok (.istore_n 3, 1) := by decide +kernel
theorem dX7_burns_67 : decode cX7_burns 67 = .ok (.aload_n 0, 1) := by decide +kernel
theorem dX7_burns_68 : decode cX7_burns 68 = .ok (.getfield 7, 3) := by decide +kernel
theorem dX7_burns_71 : decode cX7_burns 71 = .ok (.iload_n 2, 1) := by decide +kernel
theorem dX7_burns_72 : decode cX7_burns 72 = .ok (.iconst 1, 1) := by decide +kernel
theorem dX7_burns_73 : decode cX7_burns 73 = .ok (.iadd, 1) := by decide +kernel
theorem dX7_burns_74 : decode cX7_burns 74 = .ok (.dup2, 1) := by decide +kernel
theorem dX7_burns_75 : decode cX7_burns 75 = .ok (.iaload, 1) := by decide +kernel
theorem dX7_burns_76 : decode cX7_burns 76 = .ok (.iload_n 3, 1) := by decide +kernel
theorem dX7_burns_77 : decode cX7_burns 77 = .ok (.isub, 1) := by decide +kernel
theorem dX7_burns_78 : decode cX7_burns 78 = .ok (.iastore, 1) := by decide +kernel
theorem dX7_burns_79 : decode cX7_burns 79 = .ok (.aload_n 0, 1) := by decide +kernel
theorem dX7_burns_80 : decode cX7_burns 80 = .ok (.getfield 7, 3) := by decide +kernel
theorem dX7_burns_83 : decode cX7_burns 83 = .ok (.bipush 10, 2) := by decide +kernel
theorem dX7_burns_85 : decode cX7_burns 85 = .ok (.dup2, 1) := by decide +kernel
theorem dX7_burns_86 : decode cX7_burns 86 = .ok (.iaload, 1) := by decide +kernel
theorem dX7_burns_87 : decode cX7_burns 87 = .ok (.iload_n 3, 1) := by decide +kernel
theorem dX7_burns_88 : decode cX7_burns 88 = .ok (.iadd, 1) := by decide +kernel
theorem dX7_burns_89 : decode cX7_burns 89 = .ok (.iastore, 1) := by decide +kernel
theorem dX7_burns_90 : decode cX7_burns 90 = .ok (.aload_n 0, 1) := by decide +kernel
theorem dX7_burns_91 : decode cX7_burns 91 = .ok (.getfield 7, 3) := by decide +kernel
theorem dX7_burns_94 : decode cX7_burns 94 = .ok (.iload_n 2, 1) := by decide +kernel
theorem dX7_burns_95 : decode cX7_burns 95 = .ok (.iconst 4, 1) := by decide +kernel
theorem dX7_burns_96 : decode cX7_burns 96 = .ok (.iadd, 1) := by decide +kernel
theorem dX7_burns_97 : decode cX7_burns 97 = .ok (.aload_n 0, 1) := by decide +kernel
theorem dX7_burns_98 : decode cX7_burns 98 = .ok (.getfield 7, 3) := by decide +kernel
theorem dX7_burns_101 : decode cX7_burns 101 = .ok (.iload_n 2, 1) := by decide +kernel
theorem dX7_burns_102 : decode cX7_burns 102 = .ok (.iconst 4, 1) := by decide +kernel
theorem dX7_burns_103 : decode cX7_burns 103 = .ok (.iadd, 1) := by decide +kernel
theorem dX7_burns_104 : decode cX7_burns 104 = .ok (.iaload, 1) := by decide +kernel
theorem dX7_burns_105 : decode cX7_burns 105 = .ok (.iconst 1, 1) := by decide +kernel
theorem dX7_burns_106 : decode cX7_burns 106 = .ok (.iadd, 1) := by decide +kernel
theorem dX7_burns_107 : decode cX7_burns 107 = .ok (.aload_n 0, 1) := by decide +kernel
theorem dX7_burns_108 : decode cX7_burns 108 = .ok (.getfield 7, 3) := by decide +kernel
theorem dX7_burns_111 : decode cX7_burns 111 = .ok (.iconst 2, 1) := by decide +kernel
theorem dX7_burns_112 : decode cX7_burns 112 = .ok (.iaload, 1) := by decide +kernel
theorem dX7_burns_113 : decode cX7_burns 113 = .ok (.if_icmp .ne 7, 3) := by decide +kernel
theorem dX7_burns_116 : decode cX7_burns 116 = .ok (.iconst 0, 1) := by decide +kernel
theorem dX7_burns_117 : decode cX7_burns 117 = .ok (.goto 13, 3) := by decide +kernel
theorem dX7_burns_120 : decode cX7_burns 120 = .ok (.aload_n 0, 1) := by decide +kernel
theorem dX7_burns_121 : decode cX7_burns 121 = .ok (.getfield 7, 3) := by decide +kernel
theorem dX7_burns_124 : decode cX7_burns 124 = .ok (.iload_n 2, 1) := by decide +kernel
theorem dX7_burns_125 : decode cX7_burns 125 = .ok (.iconst 4, 1) := by decide +kernel
theorem dX7_burns_126 : decode cX7_burns 126 = .ok (.iadd, 1) := by decide +kernel
theorem dX7_burns_127 : decode cX7_burns 127 = .ok (.iaload, 1) := by decide +kernel
theorem dX7_burns_128 : decode cX7_burns 128 = .ok (.iconst 1, 1) := by decide +kernel
theorem dX7_burns_129 : decode cX7_burns 129 = .ok (.iadd, 1) := by decide +kernel
theorem dX7_burns_130 : decode cX7_burns 130 = .ok (.iastore, 1) := by decide +kernel
theorem dX7_burns_131 : decode cX7_burns 131 = .ok (.iinc 1 1, 3) := by decide +kernel
theorem dX7_burns_134 : decode cX7_burns 134 = .ok (.goto (-132), 3) := by decide +kernel
theorem dX7_burns_137 : decode cX7_burns 137 = .ok (.iconst 0, 1) := by decide +kernel
theorem dX7_burns_138 : decode cX7_burns 138 = .ok (.istore_n 1, 1) := by decide +kernel
theorem dX7_burns_139 : decode cX7_burns 139 = .ok (.iload_n 1, 1) := by decide +kernel
theorem dX7_burns_140 : decode cX7_burns 140 = .ok (.aload_n 0, 1) := by decide +kernel
theorem dX7_burns_141 : decode cX7_burns 141 = .ok (.getfield 7, 3) := by decide +kernel
theorem dX7_burns_144 : decode cX7_burns 144 = .ok (.iconst 3, 1) := by decide +kernel
theorem dX7_burns_145 : decode cX7_burns 145 = .ok (.iaload, 1) := by decide +kernel
theorem dX7_burns_146 : decode cX7_burns 146 = .ok (.if_icmp .ge 59, 3) := by decide +kernel
theorem dX7_burns_149 : decode cX7_burns 149 = .ok (.aload_n 0, 1) := by decide +kernel
theorem dX7_burns_150 : decode cX7_burns 150 = .ok (.getfield 7, 3) := by decide +kernel
theorem dX7_burns_153 : decode cX7_burns 153 = .ok (.iload_n 1, 1) := by decide +kernel
theorem dX7_burns_154 : decode cX7_burns 154 = .ok (.invokestatic 52, 3) := by decide +kernel
theorem dX7_burns_157 : decode cX7_burns 157 = .ok (.iconst 2, 1) := by decide +kernel
theorem dX7_burns_158 : decode cX7_burns 158 = .ok (.iadd, 1) := by decide +kernel
theorem dX7_burns_159 : decode cX7_burns 159 = .ok (.iaload, 1) := by decide +kernel
theorem dX7_burns_160 : decode cX7_burns 160 = .ok (.ifCond .ne 39, 3) := by decide +kernel
theorem dX7_burns_163 : decode cX7_burns 163 = .ok (.iconst 2, 1) := by decide +kernel
theorem dX7_burns_164 : decode cX7_burns 164 = .ok (.aload_n 0, 1) := by decide +kernel
theorem dX7_burns_165 : decode cX7_burns 165 = .ok (.getfield 7, 3) := by decide +kernel
theorem dX7_burns_168 : decode cX7_burns 168 = .ok (.iload_n 1, 1) := by decide +kernel
theorem dX7_burns_169 : decode cX7_burns 169 = .ok (.invokestatic 52, 3) := by decide +kernel
theorem dX7_burns_172 : decode cX7_burns 172 = .ok (.iconst 1, 1) := by decide +kernel
theorem dX7_burns_173 : decode cX7_burns 173 = .ok (.iadd, 1) := by decide +kernel
theorem dX7_burns_174 : decode cX7_burns 174 = .ok (.iaload, 1) := by decide +kernel
theorem dX7_burns_175 : decode cX7_burns 175 = .ok (.imul, 1) := by decide +kernel
theorem dX7_burns_176 : decode cX7_burns 176 = .ok (.aload_n 0, 1) := by decide +kernel
theorem dX7_burns_177 : decode cX7_burns 177 = .ok (.getfield 35, 3) := by decide +kernel
theorem dX7_burns_180 : decode cX7_burns 180 = .ok (.aload_n 0, 1) := by decide +kernel
theorem dX7_burns_181 : decode cX7_burns 181 = .ok (.getfield 7, 3) := by decide +kernel
theorem dX7_burns_184 : decode cX7_burns 184 = .ok (.iload_n 1, 1) := by decide +kernel
theorem dX7_burns_185 : decode cX7_burns 185 = .ok (.invokestatic 52, 3) := by decide +kernel
theorem dX7_burns_188 : decode cX7_burns 188 = .ok (.iaload, 1) := by decide +kernel
theorem dX7_burns_189 : decode cX7_burns 189 = .ok (.iaload, 1) := by decide +kernel
theorem dX7_burns_190 : decode cX7_burns 190 = .ok (.if_icmp .ge 9, 3) := by decide +kernel
theorem dX7_burns_193 : decode cX7_burns 193 = .ok (.aload_n 0, 1) := by decide +kernel
theorem dX7_burns_194 : decode cX7_burns 194 = .ok (.iload_n 1, 1) := by decide +kernel
theorem dX7_burns_195 : decode cX7_burns 195 = .ok (.iconst 2, 1) := by decide +kernel
theorem dX7_burns_196 : decode cX7_burns 196 = .ok (.invokevirtual 94, 3) := by decide +kernel
theorem dX7_burns_199 : decode cX7_burns 199 = .ok (.iinc 1 1, 3) := by decide +kernel
theorem dX7_burns_202 : decode cX7_burns 202 = .ok (.goto (-63), 3) := by decide +kernel
theorem dX7_burns_205 : decode cX7_burns 205 = .ok (.return_, 1) := by decide +kernel
theorem dX7_lander_0 : decode cX7_lander 0 = .ok (.bipush (-6), 2) := by decide +kernel
theorem dX7_lander_2 : decode cX7_lander 2 = .ok (.istore_n 1, 1) := by decide +kernel
theorem dX7_lander_3 : decode cX7_lander 3 = .ok (.iconst 0, 1) := by decide +kernel
theorem dX7_lander_4 : decode cX7_lander 4 = .ok (.istore_n 2, 1) := by decide +kernel
theorem dX7_lander_5 : decode cX7_lander 5 = .ok (.iload_n 2, 1) := by decide +kernel
theorem dX7_lander_6 : decode cX7_lander 6 = .ok (.aload_n 0, 1) := by decide +kernel
theorem dX7_lander_7 : decode cX7_lander 7 = .ok (.getfield 7, 3) := by decide +kernel
theorem dX7_lander_10 : decode cX7_lander 10 = .ok (.iconst 3, 1) := by decide +kernel
theorem dX7_lander_11 : decode cX7_lander 11 = .ok (.iaload, 1) := by decide +kernel
theorem dX7_lander_12 : decode cX7_lander 12 = .ok (.if_icmp .ge 96, 3) := by decide +kernel
theorem dX7_lander_15 : decode cX7_lander 15 = .ok (.aload_n 0, 1) := by decide +kernel
theorem dX7_lander_16 : decode cX7_lander 16 = .ok (.iload_n 2, 1) := by decide +kernel
theorem dX7_lander_17 : decode cX7_lander 17 = .ok (.invokevirtual 98, 3) := by decide +kernel
theorem dX7_lander_20 : decode cX7_lander 20 = .ok (.ifCond .eq 82, 3) := by decide +kernel
theorem dX7_lander_23 : decode cX7_lander 23 = .ok (.aload_n 0, 1) := by decide +kernel
theorem dX7_lander_24 : decode cX7_lander 24 = .ok (.iload_n 2, 1) := by decide +kernel
theorem dX7_lander_25 : decode cX7_lander 25 = .ok (.invokevirtual 101, 3) := by decide +kernel
theorem dX7_lander_28 : decode cX7_lander 28 = .ok (.ifCond .eq 74, 3) := by decide +kernel
theorem dX7_lander_31 : decode cX7_lander 31 = .ok (.iload_n 1, 1) := by decide +kernel
theorem dX7_lander_32 : decode cX7_lander 32 = .ok (.ifCond .ge 7, 3) := by decide +kernel
theorem dX7_lander_35 : decode cX7_lander 35 = .ok (.iconst (-1), 1) := by decide +kernel
theorem dX7_lander_36 : decode cX7_lander 36 = .ok (.goto 26, 3) := by decide +kernel
theorem dX7_lander_39 : decode cX7_lander 39 = .ok (.aload_n 0, 1) := by decide +kernel
theorem dX7_lander_40 : decode cX7_lander 40 = .ok (.getfield 7, 3) := by decide +kernel
theorem dX7_lander_43 : decode cX7_lander 43 = .ok (.iload_n 2, 1) := by decide +kernel
theorem dX7_lander_44 : decode cX7_lander 44 = .ok (.invokestatic 52, 3) := by decide +kernel
theorem dX7_lander_47 : decode cX7_lander 47 = .ok (.iconst 1, 1) := by decide +kernel
theorem dX7_lander_48 : decode cX7_lander 48 = .ok (.iadd, 1) := by decide +kernel
theorem dX7_lander_49 : decode cX7_lander 49 = .ok (.iaload, 1) := by decide +kernel
theorem dX7_lander_50 : decode cX7_lander 50 = .ok (.aload_n 0, 1) := by decide +kernel
theorem dX7_lander_51 : decode cX7_lander 51 = .ok (.getfield 7, 3) := by decide +kernel
theorem dX7_lander_54 : decode cX7_lander 54 = .ok (.iload_n 1, 1) := by decide +kernel
theorem dX7_lander_55 : decode cX7_lander 55 = .ok (.invokestatic 52, 3) := by decide +kernel
theorem dX7_lander_58 : decode cX7_lander 58 = .ok (.iconst 1, 1) := by decide +kernel
theorem dX7_lander_59 : decode cX7_lander 59 = .ok (.iadd, 1) := by decide +kernel
theorem dX7_lander_60 : decode cX7_lander 60 = .ok (.iaload, 1) := by decide +kernel
theorem dX7_lander_61 : decode cX7_lander 61 = .ok (.isub, 1) := by decide +kernel
theorem dX7_lander_62 : decode cX7_lander 62 = .ok (.istore_n 3, 1) := by decide +kernel
theorem dX7_lander_63 : decode cX7_lander 63 = .ok (.iload_n 3, 1) := by decide +kernel
theorem dX7_lander_64 : decode cX7_lander 64 = .ok (.ifCond .lt 32, 3) := by decide +kernel
theorem dX7_lander_67 : decode cX7_lander 67 = .ok (.iload_n 3, 1) := by decide +kernel
theorem dX7_lander_68 : decode cX7_lander 68 = .ok (.ifCond .ne 32, 3) := by decide +kernel
theorem dX7_lander_71 : decode cX7_lander 71 = .ok (.aload_n 0, 1) := by decide +kernel
theorem dX7_lander_72 : decode cX7_lander 72 = .ok (.getfield 7, 3) := by decide +kernel
theorem dX7_lander_75 : decode cX7_lander 75 = .ok (.iload_n 2, 1) := by decide +kernel
theorem dX7_lander_76 : decode cX7_lander 76 = .ok (.invokestatic 52, 3) := by decide +kernel
theorem dX7_lander_79 : decode cX7_lander 79 = .ok (.iconst 3, 1) := by decide +kernel
theorem dX7_lander_80 : decode cX7_lander 80 = .ok (.iadd, 1) := by decide +kernel
theorem dX7_lander_81 : decode cX7_lander 81 = .ok (.iaload, 1) := by decide +kernel
theorem dX7_lander_82 : decode cX7_lander 82 = .ok (.aload_n 0, 1) := by decide +kernel
theorem dX7_lander_83 : decode cX7_lander 83 = .ok (.getfield 7, 3) := by decide +kernel
theorem dX7_lander_86 : decode cX7_lander 86 = .ok (.iload_n 1, 1) := by decide +kernel
theorem dX7_lander_87 : decode cX7_lander 87 = .ok (.invokestatic 52, 3) := by decide +kernel
theorem dX7_lander_90 : decode cX7_lander 90 = .ok (.iconst 3, 1) := by decide +kernel
theorem dX7_lander_91 : decode cX7_lander 91 = .ok (.iadd, 1) := by decide +kernel
theorem dX7_lander_92 : decode cX7_lander 92 = .ok (.iaload, 1) := by decide +kernel
theorem dX7_lander_93 : decode cX7_lander 93 = .ok (.if_icmp .ge 7, 3) := by decide +kernel
theorem dX7_lander_96 : decode cX7_lander 96 = .ok (.iload_n 2, 1) := by decide +kernel
theorem dX7_lander_97 : decode cX7_lander 97 = .ok (.goto 4, 3) := by decide +kernel
theorem dX7_lander_100 : decode cX7_lander 100 = .ok (.iload_n 1, 1) := by decide +kernel
theorem dX7_lander_101 : decode cX7_lander 101 = .ok (.istore_n 1, 1) := by decide +kernel
theorem dX7_lander_102 : decode cX7_lander 102 = .ok (.iinc 2 1, 3) := by decide +kernel
theorem dX7_lander_105 : decode cX7_lander 105 = .ok (.goto (-100), 3) := by decide +kernel
theorem dX7_lander_108 : decode cX7_lander 108 = .ok (.aload_n 0, 1) := by decide +kernel
theorem dX7_lander_109 : decode cX7_lander 109 = .ok (.iconst 0, 1) := by decide +kernel
theorem dX7_lander_110 : decode cX7_lander 110 = .ok (.invokevirtual 68, 3) := by decide +kernel
theorem dX7_lander_113 : decode cX7_lander 113 = .ok (.istore_n 2, 1) := by decide +kernel
theorem dX7_lander_114 : decode cX7_lander 114 = .ok (.iload_n 1, 1) := by decide +kernel
theorem dX7_lander_115 : decode cX7_lander 115 = .ok (.ifCond .lt 7, 3) := by decide +kernel
theorem dX7_lander_118 : decode cX7_lander 118 = .ok (.iload_n 1, 1) := by decide +kernel
theorem dX7_lander_119 : decode cX7_lander 119 = .ok (.goto 21, 3) := by decide +kernel
theorem dX7_lander_122 : decode cX7_lander 122 = .ok (.iload_n 2, 1) := by decide +kernel
theorem dX7_lander_123 : decode cX7_lander 123 = .ok (.ifCond .lt 15, 3) := by decide +kernel
theorem dX7_lander_126 : decode cX7_lander 126 = .ok (.aload_n 0, 1) := by decide +kernel
theorem dX7_lander_127 : decode cX7_lander 127 = .ok (.iload_n 2, 1) := by decide +kernel
theorem dX7_lander_128 : decode cX7_lander 128 = .ok (.invokevirtual 98, 3) := by decide +kernel
theorem dX7_lander_131 : decode cX7_lander 131 = .ok (.ifCond .eq 7, 3) := by decide +kernel
theorem dX7_lander_134 : decode cX7_lander 134 = .ok (.iload_n 2, 1) := by decide +kernel
theorem dX7_lander_135 : decode cX7_lander 135 = .ok (.goto 5, 3) := by decide +kernel
theorem dX7_lander_138 : decode cX7_lander 138 = .ok (.bipush (-6), 2) := by decide +kernel
theorem dX7_lander_140 : decode cX7_lander 140 = .ok (.ireturn, 1) := by decide +kernel
theorem dX7_passes_0 : decode cX7_passes 0 = .ok (.aload_n 0, 1) := by decide +kernel
theorem dX7_passes_1 : decode cX7_passes 1 = .ok (.invokevirtual 104, 3) := by decide +kernel
theorem dX7_passes_4 : decode cX7_passes 4 = .ok (.aload_n 0, 1) := by decide +kernel
theorem dX7_passes_5 : decode cX7_passes 5 = .ok (.getfield 7, 3) := by decide +kernel
theorem dX7_passes_8 : decode cX7_passes 8 = .ok (.iconst 4, 1) := by decide +kernel
theorem dX7_passes_9 : decode cX7_passes 9 = .ok (.dup2, 1) := by decide +kernel
theorem dX7_passes_10 : decode cX7_passes 10 = .ok (.iaload, 1) := by decide +kernel
theorem dX7_passes_11 : decode cX7_passes 11 = .ok (.aload_n 0, 1) := by decide +kernel
theorem dX7_passes_12 : decode cX7_passes 12 = .ok (.getfield 7, 3) := by decide +kernel
theorem dX7_passes_15 : decode cX7_passes 15 = .ok (.iconst 4, 1) := by decide +kernel
theorem dX7_passes_16 : decode cX7_passes 16 = .ok (.iaload, 1) := by decide +kernel
theorem dX7_passes_17 : decode cX7_passes 17 = .ok (.ifCond .le 7, 3) := by decide +kernel
theorem dX7_passes_20 : decode cX7_passes 20 = .ok (.iconst 1, 1) := by decide +kernel
theorem dX7_passes_21 : decode cX7_passes 21 = .ok (.goto 4, 3) := by decide +kernel
theorem dX7_passes_24 : decode cX7_passes 24 = .ok (.iconst 0, 1) := by decide +kernel
theorem dX7_passes_25 : decode cX7_passes 25 = .ok (.isub, 1) := by decide +kernel
theorem dX7_passes_26 : decode cX7_passes 26 = .ok (.iastore, 1) := by decide +kernel
theorem dX7_passes_27 : decode cX7_passes 27 = .ok (.aload_n 0, 1) := by decide +kernel
theorem dX7_passes_28 : decode cX7_passes 28 = .ok (.getfield 7, 3) := by decide +kernel
theorem dX7_passes_31 : decode cX7_passes 31 = .ok (.iconst 5, 1) := by decide +kernel
theorem dX7_passes_32 : decode cX7_passes 32 = .ok (.iaload, 1) := by decide +kernel
theorem dX7_passes_33 : decode cX7_passes 33 = .ok (.iconst 1, 1) := by decide +kernel
theorem dX7_passes_34 : decode cX7_passes 34 = .ok (.if_icmp .ne 19, 3) := by decide +kernel
theorem dX7_passes_37 : decode cX7_passes 37 = .ok (.aload_n 0, 1) := by decide +kernel
theorem dX7_passes_38 : decode cX7_passes 38 = .ok (.getfield 7, 3) := by decide +kernel
theorem dX7_passes_41 : decode cX7_passes 41 = .ok (.iconst 4, 1) := by decide +kernel
theorem dX7_passes_42 : decode cX7_passes 42 = .ok (.iaload, 1) := by decide +kernel
theorem dX7_passes_43 : decode cX7_passes 43 = .ok (.ifCond .ne 10, 3) := by decide +kernel
theorem dX7_passes_46 : decode cX7_passes 46 = .ok (.aload_n 0, 1) := by decide +kernel
theorem dX7_passes_47 : decode cX7_passes 47 = .ok (.invokevirtual 107, 3) := by decide +kernel
theorem dX7_passes_50 : decode cX7_passes 50 = .ok (.goto 5, 3) := by decide +kernel
theorem dX7_passes_53 : decode cX7_passes 53 = .ok (.bipush (-6), 2) := by decide +kernel
theorem dX7_passes_55 : decode cX7_passes 55 = .ok (.istore_n 1, 1) := by decide +kernel
theorem dX7_passes_56 : decode cX7_passes 56 = .ok (.iload_n 1, 1) := by decide +kernel
theorem dX7_passes_57 : decode cX7_passes 57 = .ok (.ifCond .lt 29, 3) := by decide +kernel
theorem dX7_passes_60 : decode cX7_passes 60 = .ok (.aload_n 0, 1) := by decide +kernel
theorem dX7_passes_61 : decode cX7_passes 61 = .ok (.iload_n 1, 1) := by decide +kernel
theorem dX7_passes_62 : decode cX7_passes 62 = .ok (.iconst 1, 1) := by decide +kernel
theorem dX7_passes_63 : decode cX7_passes 63 = .ok (.invokevirtual 94, 3) := by decide +kernel
theorem dX7_passes_66 : decode cX7_passes 66 = .ok (.aload_n 0, 1) := by decide +kernel
theorem dX7_passes_67 : decode cX7_passes 67 = .ok (.getfield 7, 3) := by decide +kernel
theorem dX7_passes_70 : decode cX7_passes 70 = .ok (.iconst 4, 1) := by decide +kernel
theorem dX7_passes_71 : decode cX7_passes 71 = .ok (.aload_n 0, 1) := by decide +kernel
theorem dX7_passes_72 : decode cX7_passes 72 = .ok (.getfield 38, 3) := by decide +kernel
theorem dX7_passes_75 : decode cX7_passes 75 = .ok (.aload_n 0, 1) := by decide +kernel
theorem dX7_passes_76 : decode cX7_passes 76 = .ok (.getfield 7, 3) := by decide +kernel
theorem dX7_passes_79 : decode cX7_passes 79 = .ok (.iload_n 1, 1) := by decide +kernel
theorem dX7_passes_80 : decode cX7_passes 80 = .ok (.invokestatic 52, 3) := by decide +kernel
theorem dX7_passes_83 : decode cX7_passes 83 = .ok (.iaload, 1) := by decide +kernel
theorem dX7_passes_84 : decode cX7_passes 84 = .ok (.iaload, 1) := by decide +kernel
theorem dX7_passes_85 : decode cX7_passes 85 = .ok (.iastore, 1) := by decide +kernel
theorem dX7_passes_86 : decode cX7_passes 86 = .ok (.iconst 1, 1) := by decide +kernel
theorem dX7_passes_87 : decode cX7_passes 87 = .ok (.istore_n 2, 1) := by decide +kernel
theorem dX7_passes_88 : decode cX7_passes 88 = .ok (.iload_n 2, 1) := by decide +kernel
theorem dX7_passes_89 : decode cX7_passes 89 = .ok (.aload_n 0, 1) := by decide +kernel
theorem dX7_passes_90 : decode cX7_passes 90 = .ok (.getfield 7, 3) := by decide +kernel
theorem dX7_passes_93 : decode cX7_passes 93 = .ok (.iconst 1, 1) := by decide +kernel
theorem dX7_passes_94 : decode cX7_passes 94 = .ok (.iaload, 1) := by decide +kernel
theorem dX7_passes_95 : decode cX7_passes 95 = .ok (.if_icmp .ge 102, 3) := by decide +kernel
theorem dX7_passes_98 : decode cX7_passes 98 = .ok (.aload_n 0, 1) := by decide +kernel
theorem dX7_passes_99 : decode cX7_passes 99 = .ok (.iload_n 2, 1) := by decide +kernel
theorem dX7_passes_100 : decode cX7_passes 100 = .ok (.invokevirtual 68, 3) := by decide +kernel
theorem dX7_passes_103 : decode cX7_passes 103 = .ok (.istore_n 3, 1) := by decide +kernel
theorem dX7_passes_104 : decode cX7_passes 104 = .ok (.iload_n 3, 1) := by decide +kernel
theorem dX7_passes_105 : decode cX7_passes 105 = .ok (.ifCond .lt 86, 3) := by decide +kernel
theorem dX7_passes_108 : decode cX7_passes 108 = .ok (.aload_n 0, 1) := by decide +kernel
theorem dX7_passes_109 : decode cX7_passes 109 = .ok (.iload_n 3, 1) := by decide +kernel
theorem dX7_passes_110 : decode cX7_passes 110 = .ok (.invokevirtual 98, 3) := by decide +kernel
theorem dX7_passes_113 : decode cX7_passes 113 = .ok (.ifCond .eq 78, 3) := by decide +kernel
theorem dX7_passes_116 : decode cX7_passes 116 = .ok (.aload_n 0, 1) := by decide +kernel
theorem dX7_passes_117 : decode cX7_passes 117 = .ok (.iload_n 2, 1) := by decide +kernel
theorem dX7_passes_118 : decode cX7_passes 118 = .ok (.iconst 1, 1) := by decide +kernel
theorem dX7_passes_119 : decode cX7_passes 119 = .ok (.isub, 1) := by decide +kernel
theorem dX7_passes_120 : decode cX7_passes 120 = .ok (.invokevirtual 68, 3) := by decide +kernel
theorem dX7_passes_123 : decode cX7_passes 123 = .ok (.bipush (-6), 2) := by decide +kernel
theorem dX7_passes_125 : decode cX7_passes 125 = .ok (.if_icmp .ne 66, 3) := by decide +kernel
theorem dX7_passes_128 : decode cX7_passes 128 = .ok (.aload_n 0, 1) := by decide +kernel
theorem dX7_passes_129 : decode cX7_passes 129 = .ok (.getfield 7, 3) := by decide +kernel
theorem dX7_passes_132 : decode cX7_passes 132 = .ok (.bipush 6, 2) := by decide +kernel
theorem dX7_passes_134 : decode cX7_passes 134 = .ok (.iaload, 1) := by decide +kernel
theorem dX7_passes_135 : decode cX7_passes 135 = .ok (.iconst 1, 1) := by decide +kernel
theorem dX7_passes_136 : decode cX7_passes 136 = .ok (.if_icmp .eq 18, 3) := by decide +kernel
theorem dX7_passes_139 : decode cX7_passes 139 = .ok (.aload_n 0, 1) := by decide +kernel
theorem dX7_passes_140 : decode cX7_passes 140 = .ok (.getfield 7, 3) := by decide +kernel
theorem dX7_passes_143 : decode cX7_passes 143 = .ok (.iload_n 3, 1) := by decide +kernel
theorem dX7_passes_144 : decode cX7_passes 144 = .ok (.invokestatic 52, 3) := by decide +kernel
theorem dX7_passes_147 : decode cX7_passes 147 = .ok (.iconst 5, 1) := by decide +kernel
theorem dX7_passes_148 : decode cX7_passes 148 = .ok (.iadd, 1) := by decide +kernel
theorem dX7_passes_149 : decode cX7_passes 149 = .ok (.iaload, 1) := by decide +kernel
theorem dX7_passes_150 : decode cX7_passes 150 = .ok (.iconst 1, 1) := by decide +kernel
theorem dX7_passes_151 : decode cX7_passes 151 = .ok (.if_icmp .ne 40, 3) := by decide +kernel
theorem dX7_passes_154 : decode cX7_passes 154 = .ok (.aload_n 0, 1) := by decide +kernel
theorem dX7_passes_155 : decode cX7_passes 155 = .ok (.getfield 7, 3) := by decide +kernel
theorem dX7_passes_158 : decode cX7_passes 158 = .ok (.iload_n 3, 1) := by decide +kernel
theorem dX7_passes_159 : decode cX7_passes 159 = .ok (.invokestatic 52, 3) := by decide +kernel
theorem dX7_passes_162 : decode cX7_passes 162 = .ok (.iconst 3, 1) := by decide +kernel
theorem dX7_passes_163 : decode cX7_passes 163 = .ok (.iadd, 1) := by decide +kernel
theorem dX7_passes_164 : decode cX7_passes 164 = .ok (.iload_n 2, 1) := by decide +kernel
theorem dX7_passes_165 : decode cX7_passes 165 = .ok (.iconst 1, 1) := by decide +kernel
theorem dX7_passes_166 : decode cX7_passes 166 = .ok (.isub, 1) := by decide +kernel
theorem dX7_passes_167 : decode cX7_passes 167 = .ok (.iastore, 1) := by decide +kernel
theorem dX7_passes_168 : decode cX7_passes 168 = .ok (.aload_n 0, 1) := by decide +kernel
theorem dX7_passes_169 : decode cX7_passes 169 = .ok (.getfield 7, 3) := by decide +kernel
theorem dX7_passes_172 : decode cX7_passes 172 = .ok (.iload_n 3, 1) := by decide +kernel
theorem dX7_passes_173 : decode cX7_passes 173 = .ok (.invokestatic 52, 3) := by decide +kernel
theorem dX7_passes_176 : decode cX7_passes 176 = .ok (.iconst 5, 1) := by decide +kernel
theorem dX7_passes_177 : decode cX7_passes 177 = .ok (.iadd, 1) := by decide +kernel
theorem dX7_passes_178 : decode cX7_passes 178 = .ok (.iconst 0, 1) := by decide +kernel
theorem dX7_passes_179 : decode cX7_passes 179 = .ok (.iastore, 1) := by decide +kernel
theorem dX7_passes_180 : decode cX7_passes 180 = .ok (.aload_n 0, 1) := by decide +kernel
theorem dX7_passes_181 : decode cX7_passes 181 = .ok (.getfield 7, 3) := by decide +kernel
theorem dX7_passes_184 : decode cX7_passes 184 = .ok (.bipush 8, 2) := by decide +kernel
theorem dX7_passes_186 : decode cX7_passes 186 = .ok (.dup2, 1) := by decide +kernel
theorem dX7_passes_187 : decode cX7_passes 187 = .ok (.iaload, 1) := by decide +kernel
theorem dX7_passes_188 : decode cX7_passes 188 = .ok (.iconst 1, 1) := by decide +kernel
theorem dX7_passes_189 : decode cX7_passes 189 = .ok (.iadd, 1) := by decide +kernel
theorem dX7_passes_190 : decode cX7_passes 190 = .ok (.iastore, 1) := by decide +kernel
theorem dX7_passes_191 : decode cX7_passes 191 = .ok (.iinc 2 1, 3) := by decide +kernel
theorem dX7_passes_194 : decode cX7_passes 194 = .ok (.goto (-106), 3) := by decide +kernel
theorem dX7_passes_197 : decode cX7_passes 197 = .ok (.aload_n 0, 1) := by decide +kernel
theorem dX7_passes_198 : decode cX7_passes 198 = .ok (.getfield 7, 3) := by decide +kernel
theorem dX7_passes_201 : decode cX7_passes 201 = .ok (.iconst 0, 1) := by decide +kernel
theorem dX7_passes_202 : decode cX7_passes 202 = .ok (.dup2, 1) := by decide +kernel
theorem dX7_passes_203 : decode cX7_passes 203 = .ok (.iaload, 1) := by decide +kernel
theorem dX7_passes_204 : decode cX7_passes 204 = .ok (.iconst 1, 1) := by decide +kernel
theorem dX7_passes_205 : decode cX7_passes 205 = .ok (.iadd, 1) := by decide +kernel
theorem dX7_passes_206 : decode cX7_passes 206 = .ok (.iastore, 1) := by decide +kernel
theorem dX7_passes_207 : decode cX7_passes 207 = .ok (.iload_n 1, 1) := by decide +kernel
theorem dX7_passes_208 : decode cX7_passes 208 = .ok (.ireturn, 1) := by decide +kernel
theorem dX7_minutesPass_0 : decode cX7_minutesPass 0 = .ok (.iconst 0, 1) := by decide +kernel
theorem dX7_minutesPass_1 : decode cX7_minutesPass 1 = .ok (.istore_n 2, 1) := by decide +kernel
theorem dX7_minutesPass_2 : decode cX7_minutesPass 2 = .ok (.iconst 0, 1) := by decide +kernel
theorem dX7_minutesPass_3 : decode cX7_minutesPass 3 = .ok (.istore_n 3, 1) := by decide +kernel
theorem dX7_minutesPass_4 : decode cX7_minutesPass 4 = .ok (.iload_n 3, 1) := by decide +kernel
theorem dX7_minutesPass_5 : decode cX7_minutesPass 5 = .ok (.iload_n 1, 1) := by decide +kernel
theorem dX7_minutesPass_6 : decode cX7_minutesPass 6 = .ok (.if_icmp .ge 24, 3) := by decide +kernel
theorem dX7_minutesPass_9 : decode cX7_minutesPass 9 = .ok (.iload_n 2, 1) := by decide +kernel
theorem dX7_minutesPass_10 : decode cX7_minutesPass 10 = .ok (.aload_n 0, 1) := by decide +kernel
theorem dX7_minutesPass_11 : decode cX7_minutesPass 11 = .ok (.invokevirtual 110, 3) := by decide +kernel
theorem dX7_minutesPass_14 : decode cX7_minutesPass 14 = .ok (.ifCond .lt 7, 3) := by decide +kernel
theorem dX7_minutesPass_17 : decode cX7_minutesPass 17 = .ok (.iconst 1, 1) := by decide +kernel
theorem dX7_minutesPass_18 : decode cX7_minutesPass 18 = .ok (.goto 4, 3) := by decide +kernel
theorem dX7_minutesPass_21 : decode cX7_minutesPass 21 = .ok (.iconst 0, 1) := by decide +kernel
theorem dX7_minutesPass_22 : decode cX7_minutesPass 22 = .ok (.iadd, 1) := by decide +kernel
theorem dX7_minutesPass_23 : decode cX7_minutesPass 23 = .ok (.istore_n 2, 1) := by decide +kernel
theorem dX7_minutesPass_24 : decode cX7_minutesPass 24 = .ok (.iinc 3 1, 3) := by decide +kernel
theorem dX7_minutesPass_27 : decode cX7_minutesPass 27 = .ok (.goto (-23), 3) := by decide +kernel
theorem dX7_minutesPass_30 : decode cX7_minutesPass 30 = .ok (.iload_n 2, 1) := by decide +kernel
theorem dX7_minutesPass_31 : decode cX7_minutesPass 31 = .ok (.ireturn, 1) := by decide +kernel
theorem dX7_pass_0 : decode cX7_pass 0 = .ok (.iload_n 1, 1) := by decide +kernel
theorem dX7_pass_1 : decode cX7_pass 1 = .ok (.iconst 1, 1) := by decide +kernel
theorem dX7_pass_2 : decode cX7_pass 2 = .ok (.bipush 99, 2) := by decide +kernel
theorem dX7_pass_4 : decode cX7_pass 4 = .ok (.invokestatic 41, 3) := by decide +kernel
theorem dX7_pass_7 : decode cX7_pass 7 = .ok (.ifCond .ne 6, 3) := by decide +kernel
theorem dX7_pass_10 : decode cX7_pass 10 = .ok (.bipush (-2), 2) := by decide +kernel
theorem dX7_pass_12 : decode cX7_pass 12 = .ok (.ireturn, 1) := by decide +kernel
theorem dX7_pass_13 : decode cX7_pass 13 = .ok (.aload_n 0, 1) := by decide +kernel
theorem dX7_pass_14 : decode cX7_pass 14 = .ok (.invokevirtual 49, 3) := by decide +kernel
theorem dX7_pass_17 : decode cX7_pass 17 = .ok (.aload_n 0, 1) := by decide +kernel
theorem dX7_pass_18 : decode cX7_pass 18 = .ok (.iload_n 1, 1) := by decide +kernel
theorem dX7_pass_19 : decode cX7_pass 19 = .ok (.invokevirtual 113, 3) := by decide +kernel
theorem dX7_pass_22 : decode cX7_pass 22 = .ok (.ireturn, 1) := by decide +kernel
theorem dX7_level_0 : decode cX7_level 0 = .ok (.aload_n 0, 1) := by decide +kernel
theorem dX7_level_1 : decode cX7_level 1 = .ok (.iload_n 1, 1) := by decide +kernel
theorem dX7_level_2 : decode cX7_level 2 = .ok (.invokevirtual 64, 3) := by decide +kernel
theorem dX7_level_5 : decode cX7_level 5 = .ok (.ifCond .eq 11, 3) := by decide +kernel
theorem dX7_level_8 : decode cX7_level 8 = .ok (.aload_n 0, 1) := by decide +kernel
theorem dX7_level_9 : decode cX7_level 9 = .ok (.iload_n 1, 1) := by decide +kernel
theorem dX7_level_10 : decode cX7_level 10 = .ok (.invokevirtual 68, 3) := by decide +kernel
theorem dX7_level_13 : decode cX7_level 13 = .ok (.goto 4, 3) := by decide +kernel
theorem dX7_level_16 : decode cX7_level 16 = .ok (.iconst (-1), 1) := by decide +kernel
theorem dX7_level_17 : decode cX7_level 17 = .ok (.ireturn, 1) := by decide +kernel
theorem dX7_craftTells_0 : decode cX7_craftTells 0 = .ok (.iload_n 1, 1) := by decide +kernel
theorem dX7_craftTells_1 : decode cX7_craftTells 1 = .ok (.invokestatic 52, 3) := by decide +kernel
theorem dX7_craftTells_4 : decode cX7_craftTells 4 = .ok (.istore_n 3, 1) := by decide +kernel
theorem dX7_craftTells_5 : decode cX7_craftTells 5 = .ok (.aload_n 0, 1) := by decide +kernel
theorem dX7_craftTells_6 : decode cX7_craftTells 6 = .ok (.getfield 7, 3) := by decide +kernel
theorem dX7_craftTells_9 : decode cX7_craftTells 9 = .ok (.iload_n 3, 1) := by decide +kernel
theorem dX7_craftTells_10 : decode cX7_craftTells 10 = .ok (.iconst 2, 1) := by decide +kernel
theorem dX7_craftTells_11 : decode cX7_craftTells 11 = .ok (.iadd, 1) := by decide +kernel
theorem dX7_craftTells_12 : decode cX7_craftTells 12 = .ok (.iaload, 1) := by decide +kernel
theorem dX7_craftTells_13 : decode cX7_craftTells 13 = .ok (.ifCond .ne 7, 3) := by decide +kernel
theorem dX7_craftTells_16 : decode cX7_craftTells 16 = .ok (.iconst 1, 1) := by decide +kernel
theorem dX7_craftTells_17 : decode cX7_craftTells 17 = .ok (.goto 4, 3) := by decide +kernel
theorem dX7_craftTells_20 : decode cX7_craftTells 20 = .ok (.iconst 0, 1) := by decide +kernel
theorem dX7_craftTells_21 : decode cX7_craftTells 21 = .ok (.istore 4, 2) := by decide +kernel
theorem dX7_craftTells_23 : decode cX7_craftTells 23 = .ok (.iload_n 2, 1) := by decide +kernel
theorem dX7_craftTells_24 : decode cX7_craftTells 24 = .ok (.iconst 3, 1) := by decide +kernel
theorem dX7_craftTells_25 : decode cX7_craftTells 25 = .ok (.if_icmp .ge 12, 3) := by decide +kernel
theorem dX7_craftTells_28 : decode cX7_craftTells 28 = .ok (.aload_n 0, 1) := by decide +kernel
theorem dX7_craftTells_29 : decode cX7_craftTells 29 = .ok (.getfield 7, 3) := by decide +kernel
theorem dX7_craftTells_32 : decode cX7_craftTells 32 = .ok (.iload_n 3, 1) := by decide +kernel
theorem dX7_craftTells_33 : decode cX7_craftTells 33 = .ok (.iload_n 2, 1) := by decide +kernel
theorem dX7_craftTells_34 : decode cX7_craftTells 34 = .ok (.iadd, 1) := by decide +kernel
theorem dX7_craftTells_35 : decode cX7_craftTells 35 = .ok (.iaload, 1) := by decide +kernel
theorem dX7_craftTells_36 : decode cX7_craftTells 36 = .ok (.ireturn, 1) := by decide +kernel
theorem dX7_craftTells_37 : decode cX7_craftTells 37 = .ok (.iload_n 2, 1) := by decide +kernel
theorem dX7_craftTells_38 : decode cX7_craftTells 38 = .ok (.bipush 6, 2) := by decide +kernel
theorem dX7_craftTells_40 : decode cX7_craftTells 40 = .ok (.if_icmp .ne 17, 3) := by decide +kernel
theorem dX7_craftTells_43 : decode cX7_craftTells 43 = .ok (.aload_n 0, 1) := by decide +kernel
theorem dX7_craftTells_44 : decode cX7_craftTells 44 = .ok (.iload_n 1, 1) := by decide +kernel
theorem dX7_craftTells_45 : decode cX7_craftTells 45 = .ok (.invokevirtual 101, 3) := by decide +kernel
theorem dX7_craftTells_48 : decode cX7_craftTells 48 = .ok (.ifCond .eq 7, 3) := by decide +kernel
theorem dX7_craftTells_51 : decode cX7_craftTells 51 = .ok (.iconst 1, 1) := by decide +kernel
theorem dX7_craftTells_52 : decode cX7_craftTells 52 = .ok (.goto 4, 3) := by decide +kernel
theorem dX7_craftTells_55 : decode cX7_craftTells 55 = .ok (.iconst 0, 1) := by decide +kernel
theorem dX7_craftTells_56 : decode cX7_craftTells 56 = .ok (.ireturn, 1) := by decide +kernel
theorem dX7_craftTells_57 : decode cX7_craftTells 57 = .ok (.iload_n 2, 1) := by decide +kernel
theorem dX7_craftTells_58 : decode cX7_craftTells 58 = .ok (.bipush 7, 2) := by decide +kernel

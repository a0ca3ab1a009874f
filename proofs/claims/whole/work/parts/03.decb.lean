theorem dX4_init_0 : decode cX4_init 0 = .ok (.aload_n 0, 1) := by decide +kernel
theorem dX4_init_1 : decode cX4_init 1 = .ok (.invokespecial 3, 3) := by decide +kernel
theorem dX4_init_4 : decode cX4_init 4 = .ok (.aload_n 0, 1) := by decide +kernel
theorem dX4_init_5 : decode cX4_init 5 = .ok (.bipush 20, 2) := by decide +kernel
theorem dX4_init_7 : decode cX4_init 7 = .ok (.anewarray 9, 3) := by decide +kernel
theorem dX4_init_10 : decode cX4_init 10 = .ok (.putfield 11, 3) := by decide +kernel
theorem dX4_init_13 : decode cX4_init 13 = .ok (.aload_n 0, 1) := by decide +kernel
theorem dX4_init_14 : decode cX4_init 14 = .ok (.bipush 16, 2) := by decide +kernel
theorem dX4_init_16 : decode cX4_init 16 = .ok (.newarray .int, 2) := by decide +kernel
theorem dX4_init_18 : decode cX4_init 18 = .ok (.putfield 17, 3) := by decide +kernel
theorem dX4_init_21 : decode cX4_init 21 = .ok (.aload_n 0, 1) := by decide +kernel
theorem dX4_init_22 : decode cX4_init 22 = .ok (.bipush 10, 2) := by decide +kernel
theorem dX4_init_24 : decode cX4_init 24 = .ok (.putfield 21, 3) := by decide +kernel
theorem dX4_init_27 : decode cX4_init 27 = .ok (.aload_n 0, 1) := by decide +kernel
theorem dX4_init_28 : decode cX4_init 28 = .ok (.iconst 4, 1) := by decide +kernel
theorem dX4_init_29 : decode cX4_init 29 = .ok (.putfield 25, 3) := by decide +kernel
theorem dX4_init_32 : decode cX4_init 32 = .ok (.aload_n 0, 1) := by decide +kernel
theorem dX4_init_33 : decode cX4_init 33 = .ok (.bipush 16, 2) := by decide +kernel
theorem dX4_init_35 : decode cX4_init 35 = .ok (.putfield 28, 3) := by decide +kernel
theorem dX4_init_38 : decode cX4_init 38 = .ok (.aload_n 0, 1) := by decide +kernel
theorem dX4_init_39 : decode cX4_init 39 = .ok (.iconst 1, 1) := by decide +kernel
theorem dX4_init_40 : decode cX4_init 40 = .ok (.putfield 31, 3) := by decide +kernel
theorem dX4_init_43 : decode cX4_init 43 = .ok (.aload_n 0, 1) := by decide +kernel
theorem dX4_init_44 : decode cX4_init 44 = .ok (.iconst 1, 1) := by decide +kernel
theorem dX4_init_45 : decode cX4_init 45 = .ok (.putfield 35, 3) := by decide +kernel
theorem dX4_init_48 : decode cX4_init 48 = .ok (.iconst 0, 1) := by decide +kernel
theorem dX4_init_49 : decode cX4_init 49 = .ok (.istore_n 1, 1) := by decide +kernel
theorem dX4_init_50 : decode cX4_init 50 = .ok (.iload_n 1, 1) := by decide +kernel
theorem dX4_init_51 : decode cX4_init 51 = .ok (.aload_n 0, 1) := by decide +kernel
theorem dX4_init_52 : decode cX4_init 52 = .ok (.getfield 11, 3) := by decide +kernel
theorem dX4_init_55 : decode cX4_init 55 = .ok (.arraylength, 1) := by decide +kernel
theorem dX4_init_56 : decode cX4_init 56 = .ok (.if_icmp .ge 23, 3) := by decide +kernel
theorem dX4_init_59 : decode cX4_init 59 = .ok (.aload_n 0, 1) := by decide +kernel
theorem dX4_init_60 : decode cX4_init 60 = .ok (.getfield 11, 3) := by decide +kernel
theorem dX4_init_63 : decode cX4_init 63 = .ok (.iload_n 1, 1) := by decide +kernel
theorem dX4_init_64 : decode cX4_init 64 = .ok (.new 9, 3) := by decide +kernel
theorem dX4_init_67 : decode cX4_init 67 = .ok (.dup, 1) := by decide +kernel
theorem dX4_init_68 : decode cX4_init 68 = .ok (.iload_n 1, 1) := by decide +kernel
theorem dX4_init_69 : decode cX4_init 69 = .ok (.invokespecial 38, 3) := by decide +kernel
theorem dX4_init_72 : decode cX4_init 72 = .ok (.aastore, 1) := by decide +kernel
theorem dX4_init_73 : decode cX4_init 73 = .ok (.iinc 1 1, 3) := by decide +kernel
theorem dX4_init_76 : decode cX4_init 76 = .ok (.goto (-26), 3) := by decide +kernel
theorem dX4_init_79 : decode cX4_init 79 = .ok (.aload_n 0, 1) := by decide +kernel
theorem dX4_init_80 : decode cX4_init 80 = .ok (.getfield 17, 3) := by decide +kernel
theorem dX4_init_83 : decode cX4_init 83 = .ok (.bipush (-6), 2) := by decide +kernel
theorem dX4_init_85 : decode cX4_init 85 = .ok (.invokestatic 41, 3) := by decide +kernel
theorem dX4_init_88 : decode cX4_init 88 = .ok (.return_, 1) := by decide +kernel
theorem dX4_copyFrom_0 : decode cX4_copyFrom 0 = .ok (.aload_n 0, 1) := by decide +kernel
theorem dX4_copyFrom_1 : decode cX4_copyFrom 1 = .ok (.aload_n 1, 1) := by decide +kernel
theorem dX4_copyFrom_2 : decode cX4_copyFrom 2 = .ok (.getfield 47, 3) := by decide +kernel
theorem dX4_copyFrom_5 : decode cX4_copyFrom 5 = .ok (.putfield 47, 3) := by decide +kernel
theorem dX4_copyFrom_8 : decode cX4_copyFrom 8 = .ok (.aload_n 0, 1) := by decide +kernel
theorem dX4_copyFrom_9 : decode cX4_copyFrom 9 = .ok (.aload_n 1, 1) := by decide +kernel
theorem dX4_copyFrom_10 : decode cX4_copyFrom 10 = .ok (.getfield 21, 3) := by decide +kernel
theorem dX4_copyFrom_13 : decode cX4_copyFrom 13 = .ok (.putfield 21, 3) := by decide +kernel
theorem dX4_copyFrom_16 : decode cX4_copyFrom 16 = .ok (.aload_n 0, 1) := by decide +kernel
theorem dX4_copyFrom_17 : decode cX4_copyFrom 17 = .ok (.aload_n 1, 1) := by decide +kernel
theorem dX4_copyFrom_18 : decode cX4_copyFrom 18 = .ok (.getfield 25, 3) := by decide +kernel
theorem dX4_copyFrom_21 : decode cX4_copyFrom 21 = .ok (.putfield 25, 3) := by decide +kernel
theorem dX4_copyFrom_24 : decode cX4_copyFrom 24 = .ok (.aload_n 0, 1) := by decide +kernel
theorem dX4_copyFrom_25 : decode cX4_copyFrom 25 = .ok (.aload_n 1, 1) := by decide +kernel
theorem dX4_copyFrom_26 : decode cX4_copyFrom 26 = .ok (.getfield 28, 3) := by decide +kernel
theorem dX4_copyFrom_29 : decode cX4_copyFrom 29 = .ok (.putfield 28, 3) := by decide +kernel
theorem dX4_copyFrom_32 : decode cX4_copyFrom 32 = .ok (.aload_n 0, 1) := by decide +kernel
theorem dX4_copyFrom_33 : decode cX4_copyFrom 33 = .ok (.aload_n 1, 1) := by decide +kernel
theorem dX4_copyFrom_34 : decode cX4_copyFrom 34 = .ok (.getfield 31, 3) := by decide +kernel
theorem dX4_copyFrom_37 : decode cX4_copyFrom 37 = .ok (.putfield 31, 3) := by decide +kernel
theorem dX4_copyFrom_40 : decode cX4_copyFrom 40 = .ok (.aload_n 0, 1) := by decide +kernel
theorem dX4_copyFrom_41 : decode cX4_copyFrom 41 = .ok (.aload_n 1, 1) := by decide +kernel
theorem dX4_copyFrom_42 : decode cX4_copyFrom 42 = .ok (.getfield 35, 3) := by decide +kernel
theorem dX4_copyFrom_45 : decode cX4_copyFrom 45 = .ok (.putfield 35, 3) := by decide +kernel
theorem dX4_copyFrom_48 : decode cX4_copyFrom 48 = .ok (.aload_n 0, 1) := by decide +kernel
theorem dX4_copyFrom_49 : decode cX4_copyFrom 49 = .ok (.aload_n 1, 1) := by decide +kernel
theorem dX4_copyFrom_50 : decode cX4_copyFrom 50 = .ok (.getfield 50, 3) := by decide +kernel
theorem dX4_copyFrom_53 : decode cX4_copyFrom 53 = .ok (.putfield 50, 3) := by decide +kernel
theorem dX4_copyFrom_56 : decode cX4_copyFrom 56 = .ok (.aload_n 0, 1) := by decide +kernel
theorem dX4_copyFrom_57 : decode cX4_copyFrom 57 = .ok (.aload_n 1, 1) := by decide +kernel
theorem dX4_copyFrom_58 : decode cX4_copyFrom 58 = .ok (.getfield 53, 3) := by decide +kernel
theorem dX4_copyFrom_61 : decode cX4_copyFrom 61 = .ok (.putfield 53, 3) := by decide +kernel
theorem dX4_copyFrom_64 : decode cX4_copyFrom 64 = .ok (.aload_n 0, 1) := by decide +kernel
theorem dX4_copyFrom_65 : decode cX4_copyFrom 65 = .ok (.aload_n 1, 1) := by decide +kernel
theorem dX4_copyFrom_66 : decode cX4_copyFrom 66 = .ok (.getfield 56, 3) := by decide +kernel
theorem dX4_copyFrom_69 : decode cX4_copyFrom 69 = .ok (.putfield 56, 3) := by decide +kernel
theorem dX4_copyFrom_72 : decode cX4_copyFrom 72 = .ok (.aload_n 0, 1) := by decide +kernel
theorem dX4_copyFrom_73 : decode cX4_copyFrom 73 = .ok (.aload_n 1, 1) := by decide +kernel
theorem dX4_copyFrom_74 : decode cX4_copyFrom 74 = .ok (.getfield 59, 3) := by decide +kernel
theorem dX4_copyFrom_77 : decode cX4_copyFrom 77 = .ok (.putfield 59, 3) := by decide +kernel
theorem dX4_copyFrom_80 : decode cX4_copyFrom 80 = .ok (.aload_n 0, 1) := by decide +kernel
theorem dX4_copyFrom_81 : decode cX4_copyFrom 81 = .ok (.aload_n 1, 1) := by decide +kernel
theorem dX4_copyFrom_82 : decode cX4_copyFrom 82 = .ok (.getfield 62, 3) := by decide +kernel
theorem dX4_copyFrom_85 : decode cX4_copyFrom 85 = .ok (.putfield 62, 3) := by decide +kernel
theorem dX4_copyFrom_88 : decode cX4_copyFrom 88 = .ok (.aload_n 0, 1) := by decide +kernel
theorem dX4_copyFrom_89 : decode cX4_copyFrom 89 = .ok (.aload_n 1, 1) := by decide +kernel
theorem dX4_copyFrom_90 : decode cX4_copyFrom 90 = .ok (.getfield 65, 3) := by decide +kernel
theorem dX4_copyFrom_93 : decode cX4_copyFrom 93 = .ok (.putfield 65, 3) := by decide +kernel
theorem dX4_copyFrom_96 : decode cX4_copyFrom 96 = .ok (.aload_n 0, 1) := by decide +kernel
theorem dX4_copyFrom_97 : decode cX4_copyFrom 97 = .ok (.aload_n 1, 1) := by decide +kernel
theorem dX4_copyFrom_98 : decode cX4_copyFrom 98 = .ok (.getfield 68, 3) := by decide +kernel
theorem dX4_copyFrom_101 : decode cX4_copyFrom 101 = .ok (.putfield 68, 3) := by decide +kernel
theorem dX4_copyFrom_104 : decode cX4_copyFrom 104 = .ok (.aload_n 0, 1) := by decide +kernel
theorem dX4_copyFrom_105 : decode cX4_copyFrom 105 = .ok (.aload_n 1, 1) := by decide +kernel
theorem dX4_copyFrom_106 : decode cX4_copyFrom 106 = .ok (.getfield 71, 3) := by decide +kernel
theorem dX4_copyFrom_109 : decode cX4_copyFrom 109 = .ok (.putfield 71, 3) := by decide +kernel
theorem dX4_copyFrom_112 : decode cX4_copyFrom 112 = .ok (.iconst 0, 1) := by decide +kernel
theorem dX4_copyFrom_113 : decode cX4_copyFrom 113 = .ok (.istore_n 2, 1) := by decide +kernel
theorem dX4_copyFrom_114 : decode cX4_copyFrom 114 = .ok (.iload_n 2, 1) := by decide +kernel
theorem dX4_copyFrom_115 : decode cX4_copyFrom 115 = .ok (.aload_n 0, 1) := by decide +kernel
theorem dX4_copyFrom_116 : decode cX4_copyFrom 116 = .ok (.getfield 11, 3) := by decide +kernel
theorem dX4_copyFrom_119 : decode cX4_copyFrom 119 = .ok (.arraylength, 1) := by decide +kernel
theorem dX4_copyFrom_120 : decode cX4_copyFrom 120 = .ok (.if_icmp .ge 37, 3) := by decide +kernel
theorem dX4_copyFrom_123 : decode cX4_copyFrom 123 = .ok (.iload_n 2, 1) := by decide +kernel
theorem dX4_copyFrom_124 : decode cX4_copyFrom 124 = .ok (.aload_n 0, 1) := by decide +kernel
theorem dX4_copyFrom_125 : decode cX4_copyFrom 125 = .ok (.getfield 47, 3) := by decide +kernel
theorem dX4_copyFrom_128 : decode cX4_copyFrom 128 = .ok (.if_icmp .ge 29, 3) := by decide +kernel
theorem dX4_copyFrom_131 : decode cX4_copyFrom 131 = .ok (.aload_n 1, 1) := by decide +kernel
theorem dX4_copyFrom_132 : decode cX4_copyFrom 132 = .ok (.iload_n 2, 1) := by decide +kernel
theorem dX4_copyFrom_133 : decode cX4_copyFrom 133 = .ok (.invokevirtual 74, 3) := by decide +kernel
theorem dX4_copyFrom_136 : decode cX4_copyFrom 136 = .ok (.astore_n 3, 1) := by decide +kernel
theorem dX4_copyFrom_137 : decode cX4_copyFrom 137 = .ok (.aload_n 3, 1) := by decide +kernel
theorem dX4_copyFrom_138 : decode cX4_copyFrom 138 = .ok (.ifnull 13, 3) := by decide +kernel
theorem dX4_copyFrom_141 : decode cX4_copyFrom 141 = .ok (.aload_n 0, 1) := by decide +kernel
theorem dX4_copyFrom_142 : decode cX4_copyFrom 142 = .ok (.getfield 11, 3) := by decide +kernel
theorem dX4_copyFrom_145 : decode cX4_copyFrom 145 = .ok (.iload_n 2, 1) := by decide +kernel
theorem dX4_copyFrom_146 : decode cX4_copyFrom 146 = .ok (.aaload, 1) := by decide +kernel
theorem dX4_copyFrom_147 : decode cX4_copyFrom 147 = .ok (.aload_n 3, 1) := by decide +kernel
theorem dX4_copyFrom_148 : decode cX4_copyFrom 148 = .ok (.invokevirtual 78, 3) := by decide +kernel
theorem dX4_copyFrom_151 : decode cX4_copyFrom 151 = .ok (.iinc 2 1, 3) := by decide +kernel
theorem dX4_copyFrom_154 : decode cX4_copyFrom 154 = .ok (.goto (-40), 3) := by decide +kernel
theorem dX4_copyFrom_157 : decode cX4_copyFrom 157 = .ok (.iconst 0, 1) := by decide +kernel
theorem dX4_copyFrom_158 : decode cX4_copyFrom 158 = .ok (.istore_n 2, 1) := by decide +kernel
theorem dX4_copyFrom_159 : decode cX4_copyFrom 159 = .ok (.iload_n 2, 1) := by decide +kernel
theorem dX4_copyFrom_160 : decode cX4_copyFrom 160 = .ok (.aload_n 0, 1) := by decide +kernel
theorem dX4_copyFrom_161 : decode cX4_copyFrom 161 = .ok (.getfield 17, 3) := by decide +kernel
theorem dX4_copyFrom_164 : decode cX4_copyFrom 164 = .ok (.arraylength, 1) := by decide +kernel
theorem dX4_copyFrom_165 : decode cX4_copyFrom 165 = .ok (.if_icmp .ge 30, 3) := by decide +kernel
theorem dX4_copyFrom_168 : decode cX4_copyFrom 168 = .ok (.iload_n 2, 1) := by decide +kernel
theorem dX4_copyFrom_169 : decode cX4_copyFrom 169 = .ok (.aload_n 1, 1) := by decide +kernel
theorem dX4_copyFrom_170 : decode cX4_copyFrom 170 = .ok (.getfield 17, 3) := by decide +kernel
theorem dX4_copyFrom_173 : decode cX4_copyFrom 173 = .ok (.arraylength, 1) := by decide +kernel
theorem dX4_copyFrom_174 : decode cX4_copyFrom 174 = .ok (.if_icmp .ge 21, 3) := by decide +kernel
theorem dX4_copyFrom_177 : decode cX4_copyFrom 177 = .ok (.aload_n 0, 1) := by decide +kernel
theorem dX4_copyFrom_178 : decode cX4_copyFrom 178 = .ok (.getfield 17, 3) := by decide +kernel
theorem dX4_copyFrom_181 : decode cX4_copyFrom 181 = .ok (.iload_n 2, 1) := by decide +kernel
theorem dX4_copyFrom_182 : decode cX4_copyFrom 182 = .ok (.aload_n 1, 1) := by decide +kernel
theorem dX4_copyFrom_183 : decode cX4_copyFrom 183 = .ok (.getfield 17, 3) := by decide +kernel
theorem dX4_copyFrom_186 : decode cX4_copyFrom 186 = .ok (.iload_n 2, 1) := by decide +kernel
theorem dX4_copyFrom_187 : decode cX4_copyFrom 187 = .ok (.iaload, 1) := by decide +kernel
theorem dX4_copyFrom_188 : decode cX4_copyFrom 188 = .ok (.iastore, 1) := by decide +kernel
theorem dX4_copyFrom_189 : decode cX4_copyFrom 189 = .ok (.iinc 2 1, 3) := by decide +kernel
theorem dX4_copyFrom_192 : decode cX4_copyFrom 192 = .ok (.goto (-33), 3) := by decide +kernel
theorem dX4_copyFrom_195 : decode cX4_copyFrom 195 = .ok (.return_, 1) := by decide +kernel
theorem dX4_beginAnew_0 : decode cX4_beginAnew 0 = .ok (.aload_n 0, 1) := by decide +kernel
theorem dX4_beginAnew_1 : decode cX4_beginAnew 1 = .ok (.iload_n 1, 1) := by decide +kernel
theorem dX4_beginAnew_2 : decode cX4_beginAnew 2 = .ok (.putfield 21, 3) := by decide +kernel
theorem dX4_beginAnew_5 : decode cX4_beginAnew 5 = .ok (.aload_n 0, 1) := by decide +kernel
theorem dX4_beginAnew_6 : decode cX4_beginAnew 6 = .ok (.iconst 0, 1) := by decide +kernel
theorem dX4_beginAnew_7 : decode cX4_beginAnew 7 = .ok (.putfield 47, 3) := by decide +kernel
theorem dX4_beginAnew_10 : decode cX4_beginAnew 10 = .ok (.aload_n 0, 1) := by decide +kernel
theorem dX4_beginAnew_11 : decode cX4_beginAnew 11 = .ok (.getfield 17, 3) := by decide +kernel
theorem dX4_beginAnew_14 : decode cX4_beginAnew 14 = .ok (.bipush (-6), 2) := by decide +kernel
theorem dX4_beginAnew_16 : decode cX4_beginAnew 16 = .ok (.invokestatic 41, 3) := by decide +kernel
theorem dX4_beginAnew_19 : decode cX4_beginAnew 19 = .ok (.aload_n 0, 1) := by decide +kernel
theorem dX4_beginAnew_20 : decode cX4_beginAnew 20 = .ok (.iconst 0, 1) := by decide +kernel
theorem dX4_beginAnew_21 : decode cX4_beginAnew 21 = .ok (.putfield 50, 3) := by decide +kernel
theorem dX4_beginAnew_24 : decode cX4_beginAnew 24 = .ok (.aload_n 0, 1) := by decide +kernel
theorem dX4_beginAnew_25 : decode cX4_beginAnew 25 = .ok (.iconst 0, 1) := by decide +kernel
theorem dX4_beginAnew_26 : decode cX4_beginAnew 26 = .ok (.putfield 53, 3) := by decide +kernel
theorem dX4_beginAnew_29 : decode cX4_beginAnew 29 = .ok (.aload_n 0, 1) := by decide +kernel
theorem dX4_beginAnew_30 : decode cX4_beginAnew 30 = .ok (.iconst 0, 1) := by decide +kernel
theorem dX4_beginAnew_31 : decode cX4_beginAnew 31 = .ok (.putfield 56, 3) := by decide +kernel
theorem dX4_beginAnew_34 : decode cX4_beginAnew 34 = .ok (.aload_n 0, 1) := by decide +kernel
theorem dX4_beginAnew_35 : decode cX4_beginAnew 35 = .ok (.iconst 0, 1) := by decide +kernel
theorem dX4_beginAnew_36 : decode cX4_beginAnew 36 = .ok (.putfield 59, 3) := by decide +kernel
theorem dX4_beginAnew_39 : decode cX4_beginAnew 39 = .ok (.aload_n 0, 1) := by decide +kernel
theorem dX4_beginAnew_40 : decode cX4_beginAnew 40 = .ok (.iconst 0, 1) := by decide +kernel
theorem dX4_beginAnew_41 : decode cX4_beginAnew 41 = .ok (.putfield 62, 3) := by decide +kernel
theorem dX4_beginAnew_44 : decode cX4_beginAnew 44 = .ok (.aload_n 0, 1) := by decide +kernel
theorem dX4_beginAnew_45 : decode cX4_beginAnew 45 = .ok (.iconst 0, 1) := by decide +kernel
theorem dX4_beginAnew_46 : decode cX4_beginAnew 46 = .ok (.putfield 65, 3) := by decide +kernel
theorem dX4_beginAnew_49 : decode cX4_beginAnew 49 = .ok (.aload_n 0, 1) := by decide +kernel
theorem dX4_beginAnew_50 : decode cX4_beginAnew 50 = .ok (.iconst 0, 1) := by decide +kernel
theorem dX4_beginAnew_51 : decode cX4_beginAnew 51 = .ok (.putfield 68, 3) := by decide +kernel
theorem dX4_beginAnew_54 : decode cX4_beginAnew 54 = .ok (.aload_n 0, 1) := by decide +kernel
theorem dX4_beginAnew_55 : decode cX4_beginAnew 55 = .ok (.iconst 0, 1) := by decide +kernel
theorem dX4_beginAnew_56 : decode cX4_beginAnew 56 = .ok (.putfield 71, 3) := by decide +kernel
theorem dX4_beginAnew_59 : decode cX4_beginAnew 59 = .ok (.return_, 1) := by decide +kernel
theorem dX4_changeLap_0 : decode cX4_changeLap 0 = .ok (.aload_n 0, 1) := by decide +kernel
theorem dX4_changeLap_1 : decode cX4_changeLap 1 = .ok (.iload_n 1, 1) := by decide +kernel
theorem dX4_changeLap_2 : decode cX4_changeLap 2 = .ok (.putfield 25, 3) := by decide +kernel
theorem dX4_changeLap_5 : decode cX4_changeLap 5 = .ok (.iconst 0, 1) := by decide +kernel
theorem dX4_changeLap_6 : decode cX4_changeLap 6 = .ok (.istore_n 2, 1) := by decide +kernel
theorem dX4_changeLap_7 : decode cX4_changeLap 7 = .ok (.iload_n 2, 1) := by decide +kernel
theorem dX4_changeLap_8 : decode cX4_changeLap 8 = .ok (.aload_n 0, 1) := by decide +kernel
theorem dX4_changeLap_9 : decode cX4_changeLap 9 = .ok (.getfield 21, 3) := by decide +kernel
theorem dX4_changeLap_12 : decode cX4_changeLap 12 = .ok (.if_icmp .ge 35, 3) := by decide +kernel
theorem dX4_changeLap_15 : decode cX4_changeLap 15 = .ok (.aload_n 0, 1) := by decide +kernel
theorem dX4_changeLap_16 : decode cX4_changeLap 16 = .ok (.iload_n 2, 1) := by decide +kernel
theorem dX4_changeLap_17 : decode cX4_changeLap 17 = .ok (.invokevirtual 82, 3) := by decide +kernel
theorem dX4_changeLap_20 : decode cX4_changeLap 20 = .ok (.astore_n 3, 1) := by decide +kernel
theorem dX4_changeLap_21 : decode cX4_changeLap 21 = .ok (.aload_n 3, 1) := by decide +kernel
theorem dX4_changeLap_22 : decode cX4_changeLap 22 = .ok (.ifnull 19, 3) := by decide +kernel
theorem dX4_changeLap_25 : decode cX4_changeLap 25 = .ok (.aload_n 3, 1) := by decide +kernel
theorem dX4_changeLap_26 : decode cX4_changeLap 26 = .ok (.getfield 85, 3) := by decide +kernel
theorem dX4_changeLap_29 : decode cX4_changeLap 29 = .ok (.aload_n 0, 1) := by decide +kernel
theorem dX4_changeLap_30 : decode cX4_changeLap 30 = .ok (.getfield 25, 3) := by decide +kernel
theorem dX4_changeLap_33 : decode cX4_changeLap 33 = .ok (.if_icmp .lt 8, 3) := by decide +kernel
theorem dX4_changeLap_36 : decode cX4_changeLap 36 = .ok (.aload_n 3, 1) := by decide +kernel
theorem dX4_changeLap_37 : decode cX4_changeLap 37 = .ok (.iconst 0, 1) := by decide +kernel
theorem dX4_changeLap_38 : decode cX4_changeLap 38 = .ok (.putfield 85, 3) := by decide +kernel
theorem dX4_changeLap_41 : decode cX4_changeLap 41 = .ok (.iinc 2 1, 3) := by decide +kernel
theorem dX4_changeLap_44 : decode cX4_changeLap 44 = .ok (.goto (-37), 3) := by decide +kernel
theorem dX4_changeLap_47 : decode cX4_changeLap 47 = .ok (.return_, 1) := by decide +kernel
theorem dX4_hasLevel_0 : decode cX4_hasLevel 0 = .ok (.iload_n 1, 1) := by decide +kernel
theorem dX4_hasLevel_1 : decode cX4_hasLevel 1 = .ok (.ifCond .lt 24, 3) := by decide +kernel
theorem dX4_hasLevel_4 : decode cX4_hasLevel 4 = .ok (.iload_n 1, 1) := by decide +kernel
theorem dX4_hasLevel_5 : decode cX4_hasLevel 5 = .ok (.aload_n 0, 1) := by decide +kernel
theorem dX4_hasLevel_6 : decode cX4_hasLevel 6 = .ok (.getfield 21, 3) := by decide +kernel
theorem dX4_hasLevel_9 : decode cX4_hasLevel 9 = .ok (.if_icmp .ge 16, 3) := by decide +kernel
theorem dX4_hasLevel_12 : decode cX4_hasLevel 12 = .ok (.iload_n 1, 1) := by decide +kernel
theorem dX4_hasLevel_13 : decode cX4_hasLevel 13 = .ok (.aload_n 0, 1) := by decide +kernel
theorem dX4_hasLevel_14 : decode cX4_hasLevel 14 = .ok (.getfield 17, 3) := by decide +kernel
theorem dX4_hasLevel_17 : decode cX4_hasLevel 17 = .ok (.arraylength, 1) := by decide +kernel
theorem dX4_hasLevel_18 : decode cX4_hasLevel 18 = .ok (.if_icmp .ge 7, 3) := by decide +kernel
theorem dX4_hasLevel_21 : decode cX4_hasLevel 21 = .ok (.iconst 1, 1) := by decide +kernel
theorem dX4_hasLevel_22 : decode cX4_hasLevel 22 = .ok (.goto 4, 3) := by decide +kernel
theorem dX4_hasLevel_25 : decode cX4_hasLevel 25 = .ok (.iconst 0, 1) := by decide +kernel
theorem dX4_hasLevel_26 : decode cX4_hasLevel 26 = .ok (.ireturn, 1) := by decide +kernel
theorem dX4_isFull_0 : decode cX4_isFull 0 = .ok (.aload_n 0, 1) := by decide +kernel
theorem dX4_isFull_1 : decode cX4_isFull 1 = .ok (.getfield 47, 3) := by decide +kernel
theorem dX4_isFull_4 : decode cX4_isFull 4 = .ok (.aload_n 0, 1) := by decide +kernel
theorem dX4_isFull_5 : decode cX4_isFull 5 = .ok (.getfield 11, 3) := by decide +kernel
theorem dX4_isFull_8 : decode cX4_isFull 8 = .ok (.arraylength, 1) := by decide +kernel
theorem dX4_isFull_9 : decode cX4_isFull 9 = .ok (.if_icmp .lt 7, 3) := by decide +kernel
theorem dX4_isFull_12 : decode cX4_isFull 12 = .ok (.iconst 1, 1) := by decide +kernel
theorem dX4_isFull_13 : decode cX4_isFull 13 = .ok (.goto 4, 3) := by decide +kernel
theorem dX4_isFull_16 : decode cX4_isFull 16 = .ok (.iconst 0, 1) := by decide +kernel
theorem dX4_isFull_17 : decode cX4_isFull 17 = .ok (.ireturn, 1) := by decide +kernel
theorem dX4_numbered_0 : decode cX4_numbered 0 = .ok (.iload_n 1, 1) := by decide +kernel
theorem dX4_numbered_1 : decode cX4_numbered 1 = .ok (.ifCond .lt 29, 3) := by decide +kernel
theorem dX4_numbered_4 : decode cX4_numbered 4 = .ok (.iload_n 1, 1) := by decide +kernel
theorem dX4_numbered_5 : decode cX4_numbered 5 = .ok (.aload_n 0, 1) := by decide +kernel
theorem dX4_numbered_6 : decode cX4_numbered 6 = .ok (.getfield 47, 3) := by decide +kernel
theorem dX4_numbered_9 : decode cX4_numbered 9 = .ok (.if_icmp .ge 21, 3) := by decide +kernel
theorem dX4_numbered_12 : decode cX4_numbered 12 = .ok (.iload_n 1, 1) := by decide +kernel
theorem dX4_numbered_13 : decode cX4_numbered 13 = .ok (.aload_n 0, 1) := by decide +kernel
theorem dX4_numbered_14 : decode cX4_numbered 14 = .ok (.getfield 11, 3) := by decide +kernel
theorem dX4_numbered_17 : decode cX4_numbered 17 = .ok (.arraylength, 1) := by decide +kernel
theorem dX4_numbered_18 : decode cX4_numbered 18 = .ok (.if_icmp .ge 12, 3) := by decide +kernel
theorem dX4_numbered_21 : decode cX4_numbered 21 = .ok (.aload_n 0, 1) := by decide +kernel
theorem dX4_numbered_22 : decode cX4_numbered 22 = .ok (.getfield 11, 3) := by decide +kernel
theorem dX4_numbered_25 : decode cX4_numbered 25 = .ok (.iload_n 1, 1) := by decide +kernel
theorem dX4_numbered_26 : decode cX4_numbered 26 = .ok (.aaload, 1) := by decide +kernel
theorem dX4_numbered_27 : decode cX4_numbered 27 = .ok (.goto 4, 3) := by decide +kernel
theorem dX4_numbered_30 : decode cX4_numbered 30 = .ok (.aconst_null, 1) := by decide +kernel
theorem dX4_numbered_31 : decode cX4_numbered 31 = .ok (.areturn, 1) := by decide +kernel
theorem dX4_holderOf_0 : decode cX4_holderOf 0 = .ok (.aload_n 0, 1) := by decide +kernel
theorem dX4_holderOf_1 : decode cX4_holderOf 1 = .ok (.iload_n 1, 1) := by decide +kernel
theorem dX4_holderOf_2 : decode cX4_holderOf 2 = .ok (.invokevirtual 88, 3) := by decide +kernel
theorem dX4_holderOf_5 : decode cX4_holderOf 5 = .ok (.ifCond .eq 16, 3) := by decide +kernel
theorem dX4_holderOf_8 : decode cX4_holderOf 8 = .ok (.aload_n 0, 1) := by decide +kernel
theorem dX4_holderOf_9 : decode cX4_holderOf 9 = .ok (.aload_n 0, 1) := by decide +kernel
theorem dX4_holderOf_10 : decode cX4_holderOf 10 = .ok (.getfield 17, 3) := by decide +kernel
theorem dX4_holderOf_13 : decode cX4_holderOf 13 = .ok (.iload_n 1, 1) := by decide +kernel
theorem dX4_holderOf_14 : decode cX4_holderOf 14 = .ok (.iaload, 1) := by decide +kernel
theorem dX4_holderOf_15 : decode cX4_holderOf 15 = .ok (.invokevirtual 74, 3) := by decide +kernel
theorem dX4_holderOf_18 : decode cX4_holderOf 18 = .ok (.goto 4, 3) := by decide +kernel
theorem dX4_holderOf_21 : decode cX4_holderOf 21 = .ok (.aconst_null, 1) := by decide +kernel
theorem dX4_holderOf_22 : decode cX4_holderOf 22 = .ok (.areturn, 1) := by decide +kernel
theorem dX4_isFree_0 : decode cX4_isFree 0 = .ok (.aload_n 0, 1) := by decide +kernel
theorem dX4_isFree_1 : decode cX4_isFree 1 = .ok (.iload_n 1, 1) := by decide +kernel
theorem dX4_isFree_2 : decode cX4_isFree 2 = .ok (.invokevirtual 88, 3) := by decide +kernel
theorem dX4_isFree_5 : decode cX4_isFree 5 = .ok (.ifCond .eq 18, 3) := by decide +kernel
theorem dX4_isFree_8 : decode cX4_isFree 8 = .ok (.aload_n 0, 1) := by decide +kernel
theorem dX4_isFree_9 : decode cX4_isFree 9 = .ok (.getfield 17, 3) := by decide +kernel
theorem dX4_isFree_12 : decode cX4_isFree 12 = .ok (.iload_n 1, 1) := by decide +kernel
theorem dX4_isFree_13 : decode cX4_isFree 13 = .ok (.iaload, 1) := by decide +kernel
theorem dX4_isFree_14 : decode cX4_isFree 14 = .ok (.bipush (-6), 2) := by decide +kernel
theorem dX4_isFree_16 : decode cX4_isFree 16 = .ok (.if_icmp .ne 7, 3) := by decide +kernel
theorem dX4_isFree_19 : decode cX4_isFree 19 = .ok (.iconst 1, 1) := by decide +kernel
theorem dX4_isFree_20 : decode cX4_isFree 20 = .ok (.goto 4, 3) := by decide +kernel
theorem dX4_isFree_23 : decode cX4_isFree 23 = .ok (.iconst 0, 1) := by decide +kernel
theorem dX4_isFree_24 : decode cX4_isFree 24 = .ok (.ireturn, 1) := by decide +kernel
theorem dX4_setHolder_0 : decode cX4_setHolder 0 = .ok (.iload_n 1, 1) := by decide +kernel
theorem dX4_setHolder_1 : decode cX4_setHolder 1 = .ok (.ifCond .lt 19, 3) := by decide +kernel
theorem dX4_setHolder_4 : decode cX4_setHolder 4 = .ok (.iload_n 1, 1) := by decide +kernel
theorem dX4_setHolder_5 : decode cX4_setHolder 5 = .ok (.aload_n 0, 1) := by decide +kernel
theorem dX4_setHolder_6 : decode cX4_setHolder 6 = .ok (.getfield 17, 3) := by decide +kernel
theorem dX4_setHolder_9 : decode cX4_setHolder 9 = .ok (.arraylength, 1) := by decide +kernel
theorem dX4_setHolder_10 : decode cX4_setHolder 10 = .ok (.if_icmp .ge 10, 3) := by decide +kernel
theorem dX4_setHolder_13 : decode cX4_setHolder 13 = .ok (.aload_n 0, 1) := by decide +kernel
theorem dX4_setHolder_14 : decode cX4_setHolder 14 = .ok (.getfield 17, 3) := by decide +kernel
theorem dX4_setHolder_17 : decode cX4_setHolder 17 = .ok (.iload_n 1, 1) := by decide +kernel
theorem dX4_setHolder_18 : decode cX4_setHolder 18 = .ok (.iload_n 2, 1) := by decide +kernel
theorem dX4_setHolder_19 : decode cX4_setHolder 19 = .ok (.iastore, 1) := by decide +kernel
theorem dX4_setHolder_20 : decode cX4_setHolder 20 = .ok (.return_, 1) := by decide +kernel
theorem dX4_countOf_0 : decode cX4_countOf 0 = .ok (.iconst 0, 1) := by decide +kernel
theorem dX4_countOf_1 : decode cX4_countOf 1 = .ok (.istore_n 2, 1) := by decide +kernel
theorem dX4_countOf_2 : decode cX4_countOf 2 = .ok (.iconst 0, 1) := by decide +kernel
theorem dX4_countOf_3 : decode cX4_countOf 3 = .ok (.istore_n 3, 1) := by decide +kernel
theorem dX4_countOf_4 : decode cX4_countOf 4 = .ok (.iload_n 3, 1) := by decide +kernel
theorem dX4_countOf_5 : decode cX4_countOf 5 = .ok (.aload_n 0, 1) := by decide +kernel
theorem dX4_countOf_6 : decode cX4_countOf 6 = .ok (.getfield 11, 3) := by decide +kernel
theorem dX4_countOf_9 : decode cX4_countOf 9 = .ok (.arraylength, 1) := by decide +kernel
theorem dX4_countOf_10 : decode cX4_countOf 10 = .ok (.if_icmp .ge 33, 3) := by decide +kernel
theorem dX4_countOf_13 : decode cX4_countOf 13 = .ok (.iload_n 3, 1) := by decide +kernel
theorem dX4_countOf_14 : decode cX4_countOf 14 = .ok (.aload_n 0, 1) := by decide +kernel
theorem dX4_countOf_15 : decode cX4_countOf 15 = .ok (.getfield 47, 3) := by decide +kernel
theorem dX4_countOf_18 : decode cX4_countOf 18 = .ok (.if_icmp .ge 25, 3) := by decide +kernel
theorem dX4_countOf_21 : decode cX4_countOf 21 = .ok (.aload_n 0, 1) := by decide +kernel
theorem dX4_countOf_22 : decode cX4_countOf 22 = .ok (.getfield 11, 3) := by decide +kernel
theorem dX4_countOf_25 : decode cX4_countOf 25 = .ok (.iload_n 3, 1) := by decide +kernel
theorem dX4_countOf_26 : decode cX4_countOf 26 = .ok (.aaload, 1) := by decide +kernel
theorem dX4_countOf_27 : decode cX4_countOf 27 = .ok (.getfield 92, 3) := by decide +kernel
theorem dX4_countOf_30 : decode cX4_countOf 30 = .ok (.iload_n 1, 1) := by decide +kernel
theorem dX4_countOf_31 : decode cX4_countOf 31 = .ok (.if_icmp .ne 6, 3) := by decide +kernel
theorem dX4_countOf_34 : decode cX4_countOf 34 = .ok (.iinc 2 1, 3) := by decide +kernel
theorem dX4_countOf_37 : decode cX4_countOf 37 = .ok (.iinc 3 1, 3) := by decide +kernel
theorem dX4_countOf_40 : decode cX4_countOf 40 = .ok (.goto (-36), 3) := by decide +kernel
theorem dX4_countOf_43 : decode cX4_countOf 43 = .ok (.iload_n 2, 1) := by decide +kernel
theorem dX4_countOf_44 : decode cX4_countOf 44 = .ok (.ireturn, 1) := by decide +kernel
theorem dX4_refusal_0 : decode cX4_refusal 0 = .ok (.aload_n 0, 1) := by decide +kernel
theorem dX4_refusal_1 : decode cX4_refusal 1 = .ok (.iload_n 3, 1) := by decide +kernel
theorem dX4_refusal_2 : decode cX4_refusal 2 = .ok (.invokevirtual 95, 3) := by decide +kernel
theorem dX4_refusal_5 : decode cX4_refusal 5 = .ok (.ifCond .ne 5, 3) := by decide +kernel
theorem dX4_refusal_8 : decode cX4_refusal 8 = .ok (.iconst 1, 1) := by decide +kernel
theorem dX4_refusal_9 : decode cX4_refusal 9 = .ok (.ireturn, 1) := by decide +kernel
theorem dX4_refusal_10 : decode cX4_refusal 10 = .ok (.iload_n 2, 1) := by decide +kernel
theorem dX4_refusal_11 : decode cX4_refusal 11 = .ok (.aload_n 1, 1) := by decide +kernel
theorem dX4_refusal_12 : decode cX4_refusal 12 = .ok (.getfield 98, 3) := by decide +kernel
theorem dX4_refusal_15 : decode cX4_refusal 15 = .ok (.if_icmp .gt 5, 3) := by decide +kernel
theorem dX4_refusal_18 : decode cX4_refusal 18 = .ok (.iconst 2, 1) := by decide +kernel
theorem dX4_refusal_19 : decode cX4_refusal 19 = .ok (.ireturn, 1) := by decide +kernel
theorem dX4_refusal_20 : decode cX4_refusal 20 = .ok (.aload_n 0, 1) := by decide +kernel
theorem dX4_refusal_21 : decode cX4_refusal 21 = .ok (.iconst 0, 1) := by decide +kernel
theorem dX4_refusal_22 : decode cX4_refusal 22 = .ok (.invokevirtual 103, 3) := by decide +kernel
theorem dX4_refusal_25 : decode cX4_refusal 25 = .ok (.aload_n 0, 1) := by decide +kernel
theorem dX4_refusal_26 : decode cX4_refusal 26 = .ok (.getfield 28, 3) := by decide +kernel
theorem dX4_refusal_29 : decode cX4_refusal 29 = .ok (.if_icmp .lt 7, 3) := by decide +kernel
theorem dX4_refusal_32 : decode cX4_refusal 32 = .ok (.iconst 3, 1) := by decide +kernel
theorem dX4_refusal_33 : decode cX4_refusal 33 = .ok (.goto 4, 3) := by decide +kernel
theorem dX4_refusal_36 : decode cX4_refusal 36 = .ok (.iconst 0, 1) := by decide +kernel
theorem dX4_refusal_37 : decode cX4_refusal 37 = .ok (.ireturn, 1) := by decide +kernel
theorem dX4_admit_0 : decode cX4_admit 0 = .ok (.aload_n 0, 1) := by decide +kernel
theorem dX4_admit_1 : decode cX4_admit 1 = .ok (.getfield 47, 3) := by decide +kernel
theorem dX4_admit_4 : decode cX4_admit 4 = .ok (.ifCond .lt 15, 3) := by decide +kernel
theorem dX4_admit_7 : decode cX4_admit 7 = .ok (.aload_n 0, 1) := by decide +kernel
theorem dX4_admit_8 : decode cX4_admit 8 = .ok (.getfield 47, 3) := by decide +kernel
theorem dX4_admit_11 : decode cX4_admit 11 = .ok (.aload_n 0, 1) := by decide +kernel
theorem dX4_admit_12 : decode cX4_admit 12 = .ok (.getfield 11, 3) := by decide +kernel
theorem dX4_admit_15 : decode cX4_admit 15 = .ok (.arraylength, 1) := by decide +kernel
theorem dX4_admit_16 : decode cX4_admit 16 = .ok (.if_icmp .lt 6, 3) := by decide +kernel
theorem dX4_admit_19 : decode cX4_admit 19 = .ok (.bipush (-4), 2) := by decide +kernel
theorem dX4_admit_21 : decode cX4_admit 21 = .ok (.ireturn, 1) := by decide +kernel
theorem dX4_admit_22 : decode cX4_admit 22 = .ok (.aload_n 0, 1) := by decide +kernel
theorem dX4_admit_23 : decode cX4_admit 23 = .ok (.getfield 11, 3) := by decide +kernel
theorem dX4_admit_26 : decode cX4_admit 26 = .ok (.aload_n 0, 1) := by decide +kernel
theorem dX4_admit_27 : decode cX4_admit 27 = .ok (.getfield 47, 3) := by decide +kernel
theorem dX4_admit_30 : decode cX4_admit 30 = .ok (.aaload, 1) := by decide +kernel
theorem dX4_admit_31 : decode cX4_admit 31 = .ok (.astore 4, 2) := by decide +kernel
theorem dX4_admit_33 : decode cX4_admit 33 = .ok (.aload_n 0, 1) := by decide +kernel
theorem dX4_admit_34 : decode cX4_admit 34 = .ok (.dup, 1) := by decide +kernel
theorem dX4_admit_35 : decode cX4_admit 35 = .ok (.getfield 47, 3) := by decide +kernel
theorem dX4_admit_38 : decode cX4_admit 38 = .ok (.iconst 1, 1) := by decide +kernel
theorem dX4_admit_39 : decode cX4_admit 39 = .ok (.iadd, 1) := by decide +kernel
theorem dX4_admit_40 : decode cX4_admit 40 = .ok (.putfield 47, 3) := by decide +kernel
theorem dX4_admit_43 : decode cX4_admit 43 = .ok (.aload 4, 2) := by decide +kernel
theorem dX4_admit_45 : decode cX4_admit 45 = .ok (.aload_n 1, 1) := by decide +kernel
theorem dX4_admit_46 : decode cX4_admit 46 = .ok (.putfield 107, 3) := by decide +kernel
theorem dX4_admit_49 : decode cX4_admit 49 = .ok (.aload 4, 2) := by decide +kernel
theorem dX4_admit_51 : decode cX4_admit 51 = .ok (.iload_n 2, 1) := by decide +kernel
theorem dX4_admit_52 : decode cX4_admit 52 = .ok (.putfield 111, 3) := by decide +kernel
theorem dX4_admit_55 : decode cX4_admit 55 = .ok (.aload 4, 2) := by decide +kernel
theorem dX4_admit_57 : decode cX4_admit 57 = .ok (.iconst 0, 1) := by decide +kernel
theorem dX4_admit_58 : decode cX4_admit 58 = .ok (.putfield 92, 3) := by decide +kernel
theorem dX4_admit_61 : decode cX4_admit 61 = .ok (.aload 4, 2) := by decide +kernel
theorem dX4_admit_63 : decode cX4_admit 63 = .ok (.iload_n 3, 1) := by decide +kernel
theorem dX4_admit_64 : decode cX4_admit 64 = .ok (.putfield 114, 3) := by decide +kernel
theorem dX4_admit_67 : decode cX4_admit 67 = .ok (.aload 4, 2) := by decide +kernel
theorem dX4_admit_69 : decode cX4_admit 69 = .ok (.iconst 1, 1) := by decide +kernel
theorem dX4_admit_70 : decode cX4_admit 70 = .ok (.putfield 85, 3) := by decide +kernel
theorem dX4_admit_73 : decode cX4_admit 73 = .ok (.aload 4, 2) := by decide +kernel
theorem dX4_admit_75 : decode cX4_admit 75 = .ok (.iconst 0, 1) := by decide +kernel
theorem dX4_admit_76 : decode cX4_admit 76 = .ok (.putfield 117, 3) := by decide +kernel
theorem dX4_admit_79 : decode cX4_admit 79 = .ok (.aload_n 0, 1) := by decide +kernel
theorem dX4_admit_80 : decode cX4_admit 80 = .ok (.iload_n 3, 1) := by decide +kernel
theorem dX4_admit_81 : decode cX4_admit 81 = .ok (.aload 4, 2) := by decide +kernel
theorem dX4_admit_83 : decode cX4_admit 83 = .ok (.getfield 120, 3) := by decide +kernel
theorem dX4_admit_86 : decode cX4_admit 86 = .ok (.invokevirtual 123, 3) := by decide +kernel
theorem dX4_admit_89 : decode cX4_admit 89 = .ok (.aload_n 0, 1) := by decide +kernel
theorem dX4_admit_90 : decode cX4_admit 90 = .ok (.dup, 1) := by decide +kernel
theorem dX4_admit_91 : decode cX4_admit 91 = .ok (.getfield 59, 3) := by decide +kernel
theorem dX4_admit_94 : decode cX4_admit 94 = .ok (.iload_n 2, 1) := by decide +kernel
theorem dX4_admit_95 : decode cX4_admit 95 = .ok (.iadd, 1) := by decide +kernel
theorem dX4_admit_96 : decode cX4_admit 96 = .ok (.putfield 59, 3) := by decide +kernel
theorem dX4_admit_99 : decode cX4_admit 99 = .ok (.aload_n 0, 1) := by decide +kernel
theorem dX4_admit_100 : decode cX4_admit 100 = .ok (.iconst 0, 1) := by decide +kernel
theorem dX4_admit_101 : decode cX4_admit 101 = .ok (.putfield 71, 3) := by decide +kernel
theorem dX4_admit_104 : decode cX4_admit 104 = .ok (.aload 4, 2) := by decide +kernel
theorem dX4_admit_106 : decode cX4_admit 106 = .ok (.getfield 120, 3) := by decide +kernel
theorem dX4_admit_109 : decode cX4_admit 109 = .ok (.ireturn, 1) := by decide +kernel
theorem dX4_markCalled_0 : decode cX4_markCalled 0 = .ok (.aload_n 0, 1) := by decide +kernel
theorem dX4_markCalled_1 : decode cX4_markCalled 1 = .ok (.iload_n 1, 1) := by decide +kernel
theorem dX4_markCalled_2 : decode cX4_markCalled 2 = .ok (.invokevirtual 74, 3) := by decide +kernel
theorem dX4_markCalled_5 : decode cX4_markCalled 5 = .ok (.astore_n 2, 1) := by decide +kernel
theorem dX4_markCalled_6 : decode cX4_markCalled 6 = .ok (.aload_n 2, 1) := by decide +kernel
theorem dX4_markCalled_7 : decode cX4_markCalled 7 = .ok (.ifnonnull 5, 3) := by decide +kernel
theorem dX4_markCalled_10 : decode cX4_markCalled 10 = .ok (.iconst (-1), 1) := by decide +kernel
theorem dX4_markCalled_11 : decode cX4_markCalled 11 = .ok (.ireturn, 1) := by decide +kernel
theorem dX4_markCalled_12 : decode cX4_markCalled 12 = .ok (.aload_n 2, 1) := by decide +kernel
theorem dX4_markCalled_13 : decode cX4_markCalled 13 = .ok (.iconst 1, 1) := by decide +kernel
theorem dX4_markCalled_14 : decode cX4_markCalled 14 = .ok (.putfield 117, 3) := by decide +kernel
theorem dX4_markCalled_17 : decode cX4_markCalled 17 = .ok (.aload_n 2, 1) := by decide +kernel
theorem dX4_markCalled_18 : decode cX4_markCalled 18 = .ok (.getfield 114, 3) := by decide +kernel
theorem dX4_markCalled_21 : decode cX4_markCalled 21 = .ok (.ireturn, 1) := by decide +kernel
theorem dX4_passMinutes_0 : decode cX4_passMinutes 0 = .ok (.iconst 0, 1) := by decide +kernel
theorem dX4_passMinutes_1 : decode cX4_passMinutes 1 = .ok (.istore_n 2, 1) := by decide +kernel
theorem dX4_passMinutes_2 : decode cX4_passMinutes 2 = .ok (.iconst 0, 1) := by decide +kernel
theorem dX4_passMinutes_3 : decode cX4_passMinutes 3 = .ok (.istore_n 3, 1) := by decide +kernel
theorem dX4_passMinutes_4 : decode cX4_passMinutes 4 = .ok (.iload_n 3, 1) := by decide +kernel
theorem dX4_passMinutes_5 : decode cX4_passMinutes 5 = .ok (.iload_n 1, 1) := by decide +kernel
theorem dX4_passMinutes_6 : decode cX4_passMinutes 6 = .ok (.if_icmp .ge 21, 3) := by decide +kernel
theorem dX4_passMinutes_9 : decode cX4_passMinutes 9 = .ok (.aload_n 0, 1) := by decide +kernel
theorem dX4_passMinutes_10 : decode cX4_passMinutes 10 = .ok (.invokevirtual 127, 3) := by decide +kernel
theorem dX4_passMinutes_13 : decode cX4_passMinutes 13 = .ok (.bipush (-6), 2) := by decide +kernel
theorem dX4_passMinutes_15 : decode cX4_passMinutes 15 = .ok (.if_icmp .eq 6, 3) := by decide +kernel
theorem dX4_passMinutes_18 : decode cX4_passMinutes 18 = .ok (.iinc 2 1, 3) := by decide +kernel
theorem dX4_passMinutes_21 : decode cX4_passMinutes 21 = .ok (.iinc 3 1, 3) := by decide +kernel
theorem dX4_passMinutes_24 : decode cX4_passMinutes 24 = .ok (.goto (-20), 3) := by decide +kernel
theorem dX4_passMinutes_27 : decode cX4_passMinutes 27 = .ok (.iload_n 2, 1) := by decide +kernel
theorem dX4_passMinutes_28 : decode cX4_passMinutes 28 = .ok (.ireturn, 1) := by decide +kernel
theorem dX4_minutesToLanding_0 : decode cX4_minutesToLanding 0 = .ok (.iconst 1, 1) := by decide +kernel
theorem dX4_minutesToLanding_1 : decode cX4_minutesToLanding 1 = .ok (.istore_n 3, 1) := by decide +kernel
theorem dX4_minutesToLanding_2 : decode cX4_minutesToLanding 2 = .ok (.iload_n 3, 1) := by decide +kernel
theorem dX4_minutesToLanding_3 : decode cX4_minutesToLanding 3 = .ok (.iload_n 2, 1) := by decide +kernel
theorem dX4_minutesToLanding_4 : decode cX4_minutesToLanding 4 = .ok (.if_icmp .gt 26, 3) := by decide +kernel
theorem dX4_minutesToLanding_7 : decode cX4_minutesToLanding 7 = .ok (.aload_n 0, 1) := by decide +kernel
theorem dX4_minutesToLanding_8 : decode cX4_minutesToLanding 8 = .ok (.invokevirtual 131, 3) := by decide +kernel
theorem dX4_minutesToLanding_11 : decode cX4_minutesToLanding 11 = .ok (.ifCond .eq 19, 3) := by decide +kernel
theorem dX4_minutesToLanding_14 : decode cX4_minutesToLanding 14 = .ok (.aload_n 0, 1) := by decide +kernel
theorem dX4_minutesToLanding_15 : decode cX4_minutesToLanding 15 = .ok (.invokevirtual 127, 3) := by decide +kernel
theorem dX4_minutesToLanding_18 : decode cX4_minutesToLanding 18 = .ok (.iload_n 1, 1) := by decide +kernel
theorem dX4_minutesToLanding_19 : decode cX4_minutesToLanding 19 = .ok (.if_icmp .ne 5, 3) := by decide +kernel
theorem dX4_minutesToLanding_22 : decode cX4_minutesToLanding 22 = .ok (.iload_n 3, 1) := by decide +kernel
theorem dX4_minutesToLanding_23 : decode cX4_minutesToLanding 23 = .ok (.ireturn, 1) := by decide +kernel
theorem dX4_minutesToLanding_24 : decode cX4_minutesToLanding 24 = .ok (.iinc 3 1, 3) := by decide +kernel
theorem dX4_minutesToLanding_27 : decode cX4_minutesToLanding 27 = .ok (.goto (-25), 3) := by decide +kernel
theorem dX4_minutesToLanding_30 : decode cX4_minutesToLanding 30 = .ok (.bipush (-6), 2) := by decide +kernel
theorem dX4_minutesToLanding_32 : decode cX4_minutesToLanding 32 = .ok (.ireturn, 1) := by decide +kernel
theorem dX4_mayLand_0 : decode cX4_mayLand 0 = .ok (.aload_n 0, 1) := by decide +kernel
theorem dX4_mayLand_1 : decode cX4_mayLand 1 = .ok (.getfield 31, 3) := by decide +kernel
theorem dX4_mayLand_4 : decode cX4_mayLand 4 = .ok (.ifCond .eq 15, 3) := by decide +kernel
theorem dX4_mayLand_7 : decode cX4_mayLand 7 = .ok (.aload_n 0, 1) := by decide +kernel
theorem dX4_mayLand_8 : decode cX4_mayLand 8 = .ok (.iconst 0, 1) := by decide +kernel
theorem dX4_mayLand_9 : decode cX4_mayLand 9 = .ok (.invokevirtual 103, 3) := by decide +kernel
theorem dX4_mayLand_12 : decode cX4_mayLand 12 = .ok (.ifCond .le 7, 3) := by decide +kernel
theorem dX4_mayLand_15 : decode cX4_mayLand 15 = .ok (.iconst 1, 1) := by decide +kernel
theorem dX4_mayLand_16 : decode cX4_mayLand 16 = .ok (.goto 4, 3) := by decide +kernel
theorem dX4_mayLand_19 : decode cX4_mayLand 19 = .ok (.iconst 0, 1) := by decide +kernel
theorem dX4_mayLand_20 : decode cX4_mayLand 20 = .ok (.ireturn, 1) := by decide +kernel
theorem dX4_passMinute_0 : decode cX4_passMinute 0 = .ok (.aload_n 0, 1) := by decide +kernel
theorem dX4_passMinute_1 : decode cX4_passMinute 1 = .ok (.invokevirtual 135, 3) := by decide +kernel
theorem dX4_passMinute_4 : decode cX4_passMinute 4 = .ok (.aload_n 0, 1) := by decide +kernel
theorem dX4_passMinute_5 : decode cX4_passMinute 5 = .ok (.invokevirtual 138, 3) := by decide +kernel
theorem dX4_passMinute_8 : decode cX4_passMinute 8 = .ok (.aload_n 0, 1) := by decide +kernel
theorem dX4_passMinute_9 : decode cX4_passMinute 9 = .ok (.invokevirtual 141, 3) := by decide +kernel
theorem dX4_passMinute_12 : decode cX4_passMinute 12 = .ok (.istore_n 1, 1) := by decide +kernel
theorem dX4_passMinute_13 : decode cX4_passMinute 13 = .ok (.aload_n 0, 1) := by decide +kernel
theorem dX4_passMinute_14 : decode cX4_passMinute 14 = .ok (.invokevirtual 144, 3) := by decide +kernel
theorem dX4_passMinute_17 : decode cX4_passMinute 17 = .ok (.aload_n 0, 1) := by decide +kernel
theorem dX4_passMinute_18 : decode cX4_passMinute 18 = .ok (.dup, 1) := by decide +kernel
theorem dX4_passMinute_19 : decode cX4_passMinute 19 = .ok (.getfield 53, 3) := by decide +kernel
theorem dX4_passMinute_22 : decode cX4_passMinute 22 = .ok (.iconst 1, 1) := by decide +kernel
theorem dX4_passMinute_23 : decode cX4_passMinute 23 = .ok (.iadd, 1) := by decide +kernel
theorem dX4_passMinute_24 : decode cX4_passMinute 24 = .ok (.putfield 53, 3) := by decide +kernel
theorem dX4_passMinute_27 : decode cX4_passMinute 27 = .ok (.iload_n 1, 1) := by decide +kernel
theorem dX4_passMinute_28 : decode cX4_passMinute 28 = .ok (.ireturn, 1) := by decide +kernel
theorem dX4_burnAndFly_0 : decode cX4_burnAndFly 0 = .ok (.iconst 0, 1) := by decide +kernel
theorem dX4_burnAndFly_1 : decode cX4_burnAndFly 1 = .ok (.istore_n 1, 1) := by decide +kernel
theorem dX4_burnAndFly_2 : decode cX4_burnAndFly 2 = .ok (.iload_n 1, 1) := by decide +kernel
theorem dX4_burnAndFly_3 : decode cX4_burnAndFly 3 = .ok (.aload_n 0, 1) := by decide +kernel
theorem dX4_burnAndFly_4 : decode cX4_burnAndFly 4 = .ok (.getfield 21, 3) := by decide +kernel
theorem dX4_burnAndFly_7 : decode cX4_burnAndFly 7 = .ok (.if_icmp .ge 40, 3) := by decide +kernel
theorem dX4_burnAndFly_10 : decode cX4_burnAndFly 10 = .ok (.aload_n 0, 1) := by decide +kernel
theorem dX4_burnAndFly_11 : decode cX4_burnAndFly 11 = .ok (.iload_n 1, 1) := by decide +kernel
theorem dX4_burnAndFly_12 : decode cX4_burnAndFly 12 = .ok (.invokevirtual 82, 3) := by decide +kernel
theorem dX4_burnAndFly_15 : decode cX4_burnAndFly 15 = .ok (.astore_n 2, 1) := by decide +kernel
theorem dX4_burnAndFly_16 : decode cX4_burnAndFly 16 = .ok (.aload_n 2, 1) := by decide +kernel
theorem dX4_burnAndFly_17 : decode cX4_burnAndFly 17 = .ok (.ifnull 24, 3) := by decide +kernel
theorem dX4_burnAndFly_20 : decode cX4_burnAndFly 20 = .ok (.aload_n 0, 1) := by decide +kernel
theorem dX4_burnAndFly_21 : decode cX4_burnAndFly 21 = .ok (.dup, 1) := by decide +kernel
theorem dX4_burnAndFly_22 : decode cX4_burnAndFly 22 = .ok (.getfield 62, 3) := by decide +kernel
theorem dX4_burnAndFly_25 : decode cX4_burnAndFly 25 = .ok (.aload_n 2, 1) := by decide +kernel
theorem dX4_burnAndFly_26 : decode cX4_burnAndFly 26 = .ok (.invokevirtual 147, 3) := by decide +kernel
theorem dX4_burnAndFly_29 : decode cX4_burnAndFly 29 = .ok (.iadd, 1) := by decide +kernel
theorem dX4_burnAndFly_30 : decode cX4_burnAndFly 30 = .ok (.putfield 62, 3) := by decide +kernel
theorem dX4_burnAndFly_33 : decode cX4_burnAndFly 33 = .ok (.aload_n 2, 1) := by decide +kernel
theorem dX4_burnAndFly_34 : decode cX4_burnAndFly 34 = .ok (.aload_n 0, 1) := by decide +kernel
theorem dX4_burnAndFly_35 : decode cX4_burnAndFly 35 = .ok (.getfield 25, 3) := by decide +kernel
theorem dX4_burnAndFly_38 : decode cX4_burnAndFly 38 = .ok (.invokevirtual 150, 3) := by decide +kernel
theorem dX4_burnAndFly_41 : decode cX4_burnAndFly 41 = .ok (.iinc 1 1, 3) := by decide +kernel
theorem dX4_burnAndFly_44 : decode cX4_burnAndFly 44 = .ok (.goto (-42), 3) := by decide +kernel
theorem dX4_burnAndFly_47 : decode cX4_burnAndFly 47 = .ok (.return_, 1) := by decide +kernel
theorem dX4_divertStarved_0 : decode cX4_divertStarved 0 = .ok (.iconst 0, 1) := by decide +kernel
theorem dX4_divertStarved_1 : decode cX4_divertStarved 1 = .ok (.istore_n 1, 1) := by decide +kernel
theorem dX4_divertStarved_2 : decode cX4_divertStarved 2 = .ok (.iload_n 1, 1) := by decide +kernel
theorem dX4_divertStarved_3 : decode cX4_divertStarved 3 = .ok (.aload_n 0, 1) := by decide +kernel
theorem dX4_divertStarved_4 : decode cX4_divertStarved 4 = .ok (.getfield 21, 3) := by decide +kernel
theorem dX4_divertStarved_7 : decode cX4_divertStarved 7 = .ok (.if_icmp .ge 45, 3) := by decide +kernel
theorem dX4_divertStarved_10 : decode cX4_divertStarved 10 = .ok (.aload_n 0, 1) := by decide +kernel
theorem dX4_divertStarved_11 : decode cX4_divertStarved 11 = .ok (.iload_n 1, 1) := by decide +kernel
theorem dX4_divertStarved_12 : decode cX4_divertStarved 12 = .ok (.invokevirtual 82, 3) := by decide +kernel
theorem dX4_divertStarved_15 : decode cX4_divertStarved 15 = .ok (.astore_n 2, 1) := by decide +kernel
theorem dX4_divertStarved_16 : decode cX4_divertStarved 16 = .ok (.aload_n 2, 1) := by decide +kernel
theorem dX4_divertStarved_17 : decode cX4_divertStarved 17 = .ok (.ifnull 29, 3) := by decide +kernel
theorem dX4_divertStarved_20 : decode cX4_divertStarved 20 = .ok (.aload_n 2, 1) := by decide +kernel
theorem dX4_divertStarved_21 : decode cX4_divertStarved 21 = .ok (.invokevirtual 153, 3) := by decide +kernel
theorem dX4_divertStarved_24 : decode cX4_divertStarved 24 = .ok (.ifCond .eq 22, 3) := by decide +kernel
theorem dX4_divertStarved_27 : decode cX4_divertStarved 27 = .ok (.aload_n 0, 1) := by decide +kernel
theorem dX4_divertStarved_28 : decode cX4_divertStarved 28 = .ok (.aload_n 2, 1) := by decide +kernel
theorem dX4_divertStarved_29 : decode cX4_divertStarved 29 = .ok (.iconst 2, 1) := by decide +kernel
theorem dX4_divertStarved_30 : decode cX4_divertStarved 30 = .ok (.invokevirtual 156, 3) := by decide +kernel
theorem dX4_divertStarved_33 : decode cX4_divertStarved 33 = .ok (.aload_n 0, 1) := by decide +kernel
theorem dX4_divertStarved_34 : decode cX4_divertStarved 34 = .ok (.dup, 1) := by decide +kernel
theorem dX4_divertStarved_35 : decode cX4_divertStarved 35 = .ok (.getfield 68, 3) := by decide +kernel
theorem dX4_divertStarved_38 : decode cX4_divertStarved 38 = .ok (.aload_n 2, 1) := by decide +kernel
theorem dX4_divertStarved_39 : decode cX4_divertStarved 39 = .ok (.getfield 111, 3) := by decide +kernel
theorem dX4_divertStarved_42 : decode cX4_divertStarved 42 = .ok (.iadd, 1) := by decide +kernel
theorem dX4_divertStarved_43 : decode cX4_divertStarved 43 = .ok (.putfield 68, 3) := by decide +kernel
theorem dX4_divertStarved_46 : decode cX4_divertStarved 46 = .ok (.iinc 1 1, 3) := by decide +kernel
theorem dX4_divertStarved_49 : decode cX4_divertStarved 49 = .ok (.goto (-47), 3) := by decide +kernel
theorem dX4_divertStarved_52 : decode cX4_divertStarved 52 = .ok (.return_, 1) := by decide +kernel
theorem dX4_landOne_0 : decode cX4_landOne 0 = .ok (.aload_n 0, 1) := by decide +kernel
theorem dX4_landOne_1 : decode cX4_landOne 1 = .ok (.getfield 50, 3) := by decide +kernel
theorem dX4_landOne_4 : decode cX4_landOne 4 = .ok (.ifCond .le 13, 3) := by decide +kernel
theorem dX4_landOne_7 : decode cX4_landOne 7 = .ok (.aload_n 0, 1) := by decide +kernel
theorem dX4_landOne_8 : decode cX4_landOne 8 = .ok (.dup, 1) := by decide +kernel
theorem dX4_landOne_9 : decode cX4_landOne 9 = .ok (.getfield 50, 3) := by decide +kernel
theorem dX4_landOne_12 : decode cX4_landOne 12 = .ok (.iconst 1, 1) := by decide +kernel
theorem dX4_landOne_13 : decode cX4_landOne 13 = .ok (.isub, 1) := by decide +kernel
theorem dX4_landOne_14 : decode cX4_landOne 14 = .ok (.putfield 50, 3) := by decide +kernel
theorem dX4_landOne_17 : decode cX4_landOne 17 = .ok (.aload_n 0, 1) := by decide +kernel
theorem dX4_landOne_18 : decode cX4_landOne 18 = .ok (.getfield 31, 3) := by decide +kernel
theorem dX4_landOne_21 : decode cX4_landOne 21 = .ok (.ifCond .eq 10, 3) := by decide +kernel
theorem dX4_landOne_24 : decode cX4_landOne 24 = .ok (.aload_n 0, 1) := by decide +kernel
theorem dX4_landOne_25 : decode cX4_landOne 25 = .ok (.getfield 50, 3) := by decide +kernel
theorem dX4_landOne_28 : decode cX4_landOne 28 = .ok (.ifCond .le 6, 3) := by decide +kernel
theorem dX4_landOne_31 : decode cX4_landOne 31 = .ok (.bipush (-6), 2) := by decide +kernel
theorem dX4_landOne_33 : decode cX4_landOne 33 = .ok (.ireturn, 1) := by decide +kernel
theorem dX4_landOne_34 : decode cX4_landOne 34 = .ok (.aload_n 0, 1) := by decide +kernel
theorem dX4_landOne_35 : decode cX4_landOne 35 = .ok (.invokevirtual 160, 3) := by decide +kernel
theorem dX4_landOne_38 : decode cX4_landOne 38 = .ok (.astore_n 1, 1) := by decide +kernel
theorem dX4_landOne_39 : decode cX4_landOne 39 = .ok (.aload_n 1, 1) := by decide +kernel
theorem dX4_landOne_40 : decode cX4_landOne 40 = .ok (.ifnonnull 6, 3) := by decide +kernel
theorem dX4_landOne_43 : decode cX4_landOne 43 = .ok (.bipush (-6), 2) := by decide +kernel
theorem dX4_landOne_45 : decode cX4_landOne 45 = .ok (.ireturn, 1) := by decide +kernel
theorem dX4_landOne_46 : decode cX4_landOne 46 = .ok (.aload_n 0, 1) := by decide +kernel
theorem dX4_landOne_47 : decode cX4_landOne 47 = .ok (.aload_n 1, 1) := by decide +kernel
theorem dX4_landOne_48 : decode cX4_landOne 48 = .ok (.iconst 1, 1) := by decide +kernel
theorem dX4_landOne_49 : decode cX4_landOne 49 = .ok (.invokevirtual 156, 3) := by decide +kernel
theorem dX4_landOne_52 : decode cX4_landOne 52 = .ok (.aload_n 0, 1) := by decide +kernel
theorem dX4_landOne_53 : decode cX4_landOne 53 = .ok (.dup, 1) := by decide +kernel
theorem dX4_landOne_54 : decode cX4_landOne 54 = .ok (.getfield 65, 3) := by decide +kernel
theorem dX4_landOne_57 : decode cX4_landOne 57 = .ok (.aload_n 1, 1) := by decide +kernel
theorem dX4_landOne_58 : decode cX4_landOne 58 = .ok (.getfield 111, 3) := by decide +kernel
theorem dX4_landOne_61 : decode cX4_landOne 61 = .ok (.iadd, 1) := by decide +kernel
theorem dX4_landOne_62 : decode cX4_landOne 62 = .ok (.putfield 65, 3) := by decide +kernel
theorem dX4_landOne_65 : decode cX4_landOne 65 = .ok (.aload_n 0, 1) := by decide +kernel
theorem dX4_landOne_66 : decode cX4_landOne 66 = .ok (.aload_n 1, 1) := by decide +kernel
theorem dX4_landOne_67 : decode cX4_landOne 67 = .ok (.getfield 107, 3) := by decide +kernel
theorem dX4_landOne_70 : decode cX4_landOne 70 = .ok (.getfield 164, 3) := by decide +kernel
theorem dX4_landOne_73 : decode cX4_landOne 73 = .ok (.putfield 50, 3) := by decide +kernel
theorem dX4_landOne_76 : decode cX4_landOne 76 = .ok (.aload_n 1, 1) := by decide +kernel
theorem dX4_landOne_77 : decode cX4_landOne 77 = .ok (.getfield 120, 3) := by decide +kernel
theorem dX4_landOne_80 : decode cX4_landOne 80 = .ok (.ireturn, 1) := by decide +kernel
theorem dX4_nextToLand_0 : decode cX4_nextToLand 0 = .ok (.aconst_null, 1) := by decide +kernel
theorem dX4_nextToLand_1 : decode cX4_nextToLand 1 = .ok (.astore_n 1, 1) := by decide +kernel
theorem dX4_nextToLand_2 : decode cX4_nextToLand 2 = .ok (.iconst 0, 1) := by decide +kernel
theorem dX4_nextToLand_3 : decode cX4_nextToLand 3 = .ok (.istore_n 2, 1) := by decide +kernel
theorem dX4_nextToLand_4 : decode cX4_nextToLand 4 = .ok (.iload_n 2, 1) := by decide +kernel
theorem dX4_nextToLand_5 : decode cX4_nextToLand 5 = .ok (.aload_n 0, 1) := by decide +kernel
theorem dX4_nextToLand_6 : decode cX4_nextToLand 6 = .ok (.getfield 21, 3) := by decide +kernel
theorem dX4_nextToLand_9 : decode cX4_nextToLand 9 = .ok (.if_icmp .ge 50, 3) := by decide +kernel
theorem dX4_nextToLand_12 : decode cX4_nextToLand 12 = .ok (.aload_n 0, 1) := by decide +kernel
theorem dX4_nextToLand_13 : decode cX4_nextToLand 13 = .ok (.iload_n 2, 1) := by decide +kernel
theorem dX4_nextToLand_14 : decode cX4_nextToLand 14 = .ok (.invokevirtual 82, 3) := by decide +kernel
theorem dX4_nextToLand_17 : decode cX4_nextToLand 17 = .ok (.astore_n 3, 1) := by decide +kernel
theorem dX4_nextToLand_18 : decode cX4_nextToLand 18 = .ok (.aload_n 3, 1) := by decide +kernel
theorem dX4_nextToLand_19 : decode cX4_nextToLand 19 = .ok (.ifnull 34, 3) := by decide +kernel
theorem dX4_nextToLand_22 : decode cX4_nextToLand 22 = .ok (.aload_n 3, 1) := by decide +kernel
theorem dX4_nextToLand_23 : decode cX4_nextToLand 23 = .ok (.invokevirtual 167, 3) := by decide +kernel
theorem dX4_nextToLand_26 : decode cX4_nextToLand 26 = .ok (.ifCond .eq 27, 3) := by decide +kernel
theorem dX4_nextToLand_29 : decode cX4_nextToLand 29 = .ok (.aload_n 3, 1) := by decide +kernel
theorem dX4_nextToLand_30 : decode cX4_nextToLand 30 = .ok (.invokevirtual 170, 3) := by decide +kernel
theorem dX4_nextToLand_33 : decode cX4_nextToLand 33 = .ok (.ifCond .eq 20, 3) := by decide +kernel
theorem dX4_nextToLand_36 : decode cX4_nextToLand 36 = .ok (.aload_n 1, 1) := by decide +kernel
theorem dX4_nextToLand_37 : decode cX4_nextToLand 37 = .ok (.ifnull 14, 3) := by decide +kernel
theorem dX4_nextToLand_40 : decode cX4_nextToLand 40 = .ok (.aload_n 3, 1) := by decide +kernel
theorem dX4_nextToLand_41 : decode cX4_nextToLand 41 = .ok (.getfield 111, 3) := by decide +kernel
theorem dX4_nextToLand_44 : decode cX4_nextToLand 44 = .ok (.aload_n 1, 1) := by decide +kernel
theorem dX4_nextToLand_45 : decode cX4_nextToLand 45 = .ok (.getfield 111, 3) := by decide +kernel
theorem dX4_nextToLand_48 : decode cX4_nextToLand 48 = .ok (.if_icmp .ge 5, 3) := by decide +kernel
theorem dX4_nextToLand_51 : decode cX4_nextToLand 51 = .ok (.aload_n 3, 1) := by decide +kernel
theorem dX4_nextToLand_52 : decode cX4_nextToLand 52 = .ok (.astore_n 1, 1) := by decide +kernel
theorem dX4_nextToLand_53 : decode cX4_nextToLand 53 = .ok (.iinc 2 1, 3) := by decide +kernel
theorem dX4_nextToLand_56 : decode cX4_nextToLand 56 = .ok (.goto (-52), 3) := by decide +kernel
theorem dX4_nextToLand_59 : decode cX4_nextToLand 59 = .ok (.aload_n 1, 1) := by decide +kernel
theorem dX4_nextToLand_60 : decode cX4_nextToLand 60 = .ok (.ifnull 5, 3) := by decide +kernel
theorem dX4_nextToLand_63 : decode cX4_nextToLand 63 = .ok (.aload_n 1, 1) := by decide +kernel
theorem dX4_nextToLand_64 : decode cX4_nextToLand 64 = .ok (.areturn, 1) := by decide +kernel
theorem dX4_nextToLand_65 : decode cX4_nextToLand 65 = .ok (.aload_n 0, 1) := by decide +kernel
theorem dX4_nextToLand_66 : decode cX4_nextToLand 66 = .ok (.iconst 0, 1) := by decide +kernel
theorem dX4_nextToLand_67 : decode cX4_nextToLand 67 = .ok (.invokevirtual 82, 3) := by decide +kernel
theorem dX4_nextToLand_70 : decode cX4_nextToLand 70 = .ok (.astore_n 2, 1) := by decide +kernel
theorem dX4_nextToLand_71 : decode cX4_nextToLand 71 = .ok (.aload_n 2, 1) := by decide +kernel
theorem dX4_nextToLand_72 : decode cX4_nextToLand 72 = .ok (.ifnull 14, 3) := by decide +kernel
theorem dX4_nextToLand_75 : decode cX4_nextToLand 75 = .ok (.aload_n 2, 1) := by decide +kernel
theorem dX4_nextToLand_76 : decode cX4_nextToLand 76 = .ok (.invokevirtual 167, 3) := by decide +kernel
theorem dX4_nextToLand_79 : decode cX4_nextToLand 79 = .ok (.ifCond .eq 7, 3) := by decide +kernel
theorem dX4_nextToLand_82 : decode cX4_nextToLand 82 = .ok (.aload_n 2, 1) := by decide +kernel
theorem dX4_nextToLand_83 : decode cX4_nextToLand 83 = .ok (.goto 4, 3) := by decide +kernel
theorem dX4_nextToLand_86 : decode cX4_nextToLand 86 = .ok (.aconst_null, 1) := by decide +kernel
theorem dX4_nextToLand_87 : decode cX4_nextToLand 87 = .ok (.areturn, 1) := by decide +kernel
theorem dX4_leave_0 : decode cX4_leave 0 = .ok (.aload_n 0, 1) := by decide +kernel
theorem dX4_leave_1 : decode cX4_leave 1 = .ok (.aload_n 1, 1) := by decide +kernel
theorem dX4_leave_2 : decode cX4_leave 2 = .ok (.getfield 114, 3) := by decide +kernel
theorem dX4_leave_5 : decode cX4_leave 5 = .ok (.bipush (-6), 2) := by decide +kernel
theorem dX4_leave_7 : decode cX4_leave 7 = .ok (.invokevirtual 123, 3) := by decide +kernel
theorem dX4_leave_10 : decode cX4_leave 10 = .ok (.aload_n 1, 1) := by decide +kernel
theorem dX4_leave_11 : decode cX4_leave 11 = .ok (.iload_n 2, 1) := by decide +kernel
theorem dX4_leave_12 : decode cX4_leave 12 = .ok (.putfield 92, 3) := by decide +kernel
theorem dX4_leave_15 : decode cX4_leave 15 = .ok (.aload_n 1, 1) := by decide +kernel
theorem dX4_leave_16 : decode cX4_leave 16 = .ok (.aload_n 0, 1) := by decide +kernel
theorem dX4_leave_17 : decode cX4_leave 17 = .ok (.getfield 53, 3) := by decide +kernel
theorem dX4_leave_20 : decode cX4_leave 20 = .ok (.putfield 173, 3) := by decide +kernel
theorem dX4_leave_23 : decode cX4_leave 23 = .ok (.return_, 1) := by decide +kernel
theorem dX4_goDownLadder_0 : decode cX4_goDownLadder 0 = .ok (.iconst 1, 1) := by decide +kernel
theorem dX4_goDownLadder_1 : decode cX4_goDownLadder 1 = .ok (.istore_n 1, 1) := by decide +kernel
theorem dX4_goDownLadder_2 : decode cX4_goDownLadder 2 = .ok (.iload_n 1, 1) := by decide +kernel
theorem dX4_goDownLadder_3 : decode cX4_goDownLadder 3 = .ok (.aload_n 0, 1) := by decide +kernel
theorem dX4_goDownLadder_4 : decode cX4_goDownLadder 4 = .ok (.getfield 21, 3) := by decide +kernel
theorem dX4_goDownLadder_7 : decode cX4_goDownLadder 7 = .ok (.if_icmp .ge 90, 3) := by decide +kernel
theorem dX4_goDownLadder_10 : decode cX4_goDownLadder 10 = .ok (.aload_n 0, 1) := by decide +kernel
theorem dX4_goDownLadder_11 : decode cX4_goDownLadder 11 = .ok (.iload_n 1, 1) := by decide +kernel
theorem dX4_goDownLadder_12 : decode cX4_goDownLadder 12 = .ok (.invokevirtual 82, 3) := by decide +kernel
theorem dX4_goDownLadder_15 : decode cX4_goDownLadder 15 = .ok (.astore_n 2, 1) := by decide +kernel
theorem dX4_goDownLadder_16 : decode cX4_goDownLadder 16 = .ok (.aload_n 2, 1) := by decide +kernel
theorem dX4_goDownLadder_17 : decode cX4_goDownLadder 17 = .ok (.ifnull 74, 3) := by decide +kernel
theorem dX4_goDownLadder_20 : decode cX4_goDownLadder 20 = .ok (.aload_n 2, 1) := by decide +kernel
theorem dX4_goDownLadder_21 : decode cX4_goDownLadder 21 = .ok (.invokevirtual 167, 3) := by decide +kernel
theorem dX4_goDownLadder_24 : decode cX4_goDownLadder 24 = .ok (.ifCond .eq 67, 3) := by decide +kernel
theorem dX4_goDownLadder_27 : decode cX4_goDownLadder 27 = .ok (.aload_n 0, 1) := by decide +kernel
theorem dX4_goDownLadder_28 : decode cX4_goDownLadder 28 = .ok (.iload_n 1, 1) := by decide +kernel
theorem dX4_goDownLadder_29 : decode cX4_goDownLadder 29 = .ok (.iconst 1, 1) := by decide +kernel
theorem dX4_goDownLadder_30 : decode cX4_goDownLadder 30 = .ok (.isub, 1) := by decide +kernel
theorem dX4_goDownLadder_31 : decode cX4_goDownLadder 31 = .ok (.invokevirtual 95, 3) := by decide +kernel
theorem dX4_goDownLadder_34 : decode cX4_goDownLadder 34 = .ok (.ifCond .eq 57, 3) := by decide +kernel
theorem dX4_goDownLadder_37 : decode cX4_goDownLadder 37 = .ok (.aload_n 0, 1) := by decide +kernel
theorem dX4_goDownLadder_38 : decode cX4_goDownLadder 38 = .ok (.getfield 35, 3) := by decide +kernel
theorem dX4_goDownLadder_41 : decode cX4_goDownLadder 41 = .ok (.ifCond .ne 10, 3) := by decide +kernel
theorem dX4_goDownLadder_44 : decode cX4_goDownLadder 44 = .ok (.aload_n 2, 1) := by decide +kernel
theorem dX4_goDownLadder_45 : decode cX4_goDownLadder 45 = .ok (.getfield 117, 3) := by decide +kernel
theorem dX4_goDownLadder_48 : decode cX4_goDownLadder 48 = .ok (.ifCond .eq 43, 3) := by decide +kernel
theorem dX4_goDownLadder_51 : decode cX4_goDownLadder 51 = .ok (.aload_n 0, 1) := by decide +kernel
theorem dX4_goDownLadder_52 : decode cX4_goDownLadder 52 = .ok (.iload_n 1, 1) := by decide +kernel
theorem dX4_goDownLadder_53 : decode cX4_goDownLadder 53 = .ok (.bipush (-6), 2) := by decide +kernel
theorem dX4_goDownLadder_55 : decode cX4_goDownLadder 55 = .ok (.invokevirtual 123, 3) := by decide +kernel
theorem dX4_goDownLadder_58 : decode cX4_goDownLadder 58 = .ok (.aload_n 0, 1) := by decide +kernel
theorem dX4_goDownLadder_59 : decode cX4_goDownLadder 59 = .ok (.iload_n 1, 1) := by decide +kernel
theorem dX4_goDownLadder_60 : decode cX4_goDownLadder 60 = .ok (.iconst 1, 1) := by decide +kernel
theorem dX4_goDownLadder_61 : decode cX4_goDownLadder 61 = .ok (.isub, 1) := by decide +kernel
theorem dX4_goDownLadder_62 : decode cX4_goDownLadder 62 = .ok (.aload_n 2, 1) := by decide +kernel
theorem dX4_goDownLadder_63 : decode cX4_goDownLadder 63 = .ok (.getfield 120, 3) := by decide +kernel
theorem dX4_goDownLadder_66 : decode cX4_goDownLadder 66 = .ok (.invokevirtual 123, 3) := by decide +kernel
theorem dX4_goDownLadder_69 : decode cX4_goDownLadder 69 = .ok (.aload_n 2, 1) := by decide +kernel
theorem dX4_goDownLadder_70 : decode cX4_goDownLadder 70 = .ok (.iload_n 1, 1) := by decide +kernel
theorem dX4_goDownLadder_71 : decode cX4_goDownLadder 71 = .ok (.iconst 1, 1) := by decide +kernel
theorem dX4_goDownLadder_72 : decode cX4_goDownLadder 72 = .ok (.isub, 1) := by decide +kernel
theorem dX4_goDownLadder_73 : decode cX4_goDownLadder 73 = .ok (.putfield 114, 3) := by decide +kernel
theorem dX4_goDownLadder_76 : decode cX4_goDownLadder 76 = .ok (.aload_n 2, 1) := by decide +kernel
theorem dX4_goDownLadder_77 : decode cX4_goDownLadder 77 = .ok (.iconst 0, 1) := by decide +kernel
theorem dX4_goDownLadder_78 : decode cX4_goDownLadder 78 = .ok (.putfield 117, 3) := by decide +kernel
theorem dX4_goDownLadder_81 : decode cX4_goDownLadder 81 = .ok (.aload_n 0, 1) := by decide +kernel
theorem dX4_goDownLadder_82 : decode cX4_goDownLadder 82 = .ok (.dup, 1) := by decide +kernel
theorem dX4_goDownLadder_83 : decode cX4_goDownLadder 83 = .ok (.getfield 56, 3) := by decide +kernel
theorem dX4_goDownLadder_86 : decode cX4_goDownLadder 86 = .ok (.iconst 1, 1) := by decide +kernel
theorem dX4_goDownLadder_87 : decode cX4_goDownLadder 87 = .ok (.iadd, 1) := by decide +kernel
theorem dX4_goDownLadder_88 : decode cX4_goDownLadder 88 = .ok (.putfield 56, 3) := by decide +kernel
theorem dX4_goDownLadder_91 : decode cX4_goDownLadder 91 = .ok (.iinc 1 1, 3) := by decide +kernel
theorem dX4_goDownLadder_94 : decode cX4_goDownLadder 94 = .ok (.goto (-92), 3) := by decide +kernel
theorem dX4_goDownLadder_97 : decode cX4_goDownLadder 97 = .ok (.return_, 1) := by decide +kernel

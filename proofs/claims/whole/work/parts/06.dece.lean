theorem dX7_craftTells_60 : decode cX7_craftTells 60 = .ok (.if_icmp .ne 25, 3) := by decide +kernel
theorem dX7_craftTells_63 : decode cX7_craftTells 63 = .ok (.iload 4, 2) := by decide +kernel
theorem dX7_craftTells_65 : decode cX7_craftTells 65 = .ok (.ifCond .eq 8, 3) := by decide +kernel
theorem dX7_craftTells_68 : decode cX7_craftTells 68 = .ok (.bipush (-6), 2) := by decide +kernel
theorem dX7_craftTells_70 : decode cX7_craftTells 70 = .ok (.goto 33, 3) := by decide +kernel
theorem dX7_craftTells_73 : decode cX7_craftTells 73 = .ok (.aload_n 0, 1) := by decide +kernel
theorem dX7_craftTells_74 : decode cX7_craftTells 74 = .ok (.getfield 7, 3) := by decide +kernel
theorem dX7_craftTells_77 : decode cX7_craftTells 77 = .ok (.iload_n 3, 1) := by decide +kernel
theorem dX7_craftTells_78 : decode cX7_craftTells 78 = .ok (.bipush 6, 2) := by decide +kernel
theorem dX7_craftTells_80 : decode cX7_craftTells 80 = .ok (.iadd, 1) := by decide +kernel
theorem dX7_craftTells_81 : decode cX7_craftTells 81 = .ok (.iaload, 1) := by decide +kernel
theorem dX7_craftTells_82 : decode cX7_craftTells 82 = .ok (.goto 21, 3) := by decide +kernel
theorem dX7_craftTells_85 : decode cX7_craftTells 85 = .ok (.iload 4, 2) := by decide +kernel
theorem dX7_craftTells_87 : decode cX7_craftTells 87 = .ok (.ifCond .eq 14, 3) := by decide +kernel
theorem dX7_craftTells_90 : decode cX7_craftTells 90 = .ok (.aload_n 0, 1) := by decide +kernel
theorem dX7_craftTells_91 : decode cX7_craftTells 91 = .ok (.getfield 7, 3) := by decide +kernel
theorem dX7_craftTells_94 : decode cX7_craftTells 94 = .ok (.iload_n 3, 1) := by decide +kernel
theorem dX7_craftTells_95 : decode cX7_craftTells 95 = .ok (.iload_n 2, 1) := by decide +kernel
theorem dX7_craftTells_96 : decode cX7_craftTells 96 = .ok (.iadd, 1) := by decide +kernel
theorem dX7_craftTells_97 : decode cX7_craftTells 97 = .ok (.iaload, 1) := by decide +kernel
theorem dX7_craftTells_98 : decode cX7_craftTells 98 = .ok (.goto 5, 3) := by decide +kernel
theorem dX7_craftTells_101 : decode cX7_craftTells 101 = .ok (.bipush (-6), 2) := by decide +kernel
theorem dX7_craftTells_103 : decode cX7_craftTells 103 = .ok (.ireturn, 1) := by decide +kernel
theorem dX7_aircraft_0 : decode cX7_aircraft 0 = .ok (.aload_n 0, 1) := by decide +kernel
theorem dX7_aircraft_1 : decode cX7_aircraft 1 = .ok (.iload_n 1, 1) := by decide +kernel
theorem dX7_aircraft_2 : decode cX7_aircraft 2 = .ok (.invokevirtual 85, 3) := by decide +kernel
theorem dX7_aircraft_5 : decode cX7_aircraft 5 = .ok (.ifCond .eq 22, 3) := by decide +kernel
theorem dX7_aircraft_8 : decode cX7_aircraft 8 = .ok (.iload_n 2, 1) := by decide +kernel
theorem dX7_aircraft_9 : decode cX7_aircraft 9 = .ok (.iconst 0, 1) := by decide +kernel
theorem dX7_aircraft_10 : decode cX7_aircraft 10 = .ok (.bipush 7, 2) := by decide +kernel
theorem dX7_aircraft_12 : decode cX7_aircraft 12 = .ok (.invokestatic 41, 3) := by decide +kernel
theorem dX7_aircraft_15 : decode cX7_aircraft 15 = .ok (.ifCond .eq 12, 3) := by decide +kernel
theorem dX7_aircraft_18 : decode cX7_aircraft 18 = .ok (.aload_n 0, 1) := by decide +kernel
theorem dX7_aircraft_19 : decode cX7_aircraft 19 = .ok (.iload_n 1, 1) := by decide +kernel
theorem dX7_aircraft_20 : decode cX7_aircraft 20 = .ok (.iload_n 2, 1) := by decide +kernel
theorem dX7_aircraft_21 : decode cX7_aircraft 21 = .ok (.invokevirtual 116, 3) := by decide +kernel
theorem dX7_aircraft_24 : decode cX7_aircraft 24 = .ok (.goto 4, 3) := by decide +kernel
theorem dX7_aircraft_27 : decode cX7_aircraft 27 = .ok (.iconst (-1), 1) := by decide +kernel
theorem dX7_aircraft_28 : decode cX7_aircraft 28 = .ok (.ireturn, 1) := by decide +kernel
theorem dX7_many_0 : decode cX7_many 0 = .ok (.iconst 0, 1) := by decide +kernel
theorem dX7_many_1 : decode cX7_many 1 = .ok (.istore_n 2, 1) := by decide +kernel
theorem dX7_many_2 : decode cX7_many 2 = .ok (.iconst 0, 1) := by decide +kernel
theorem dX7_many_3 : decode cX7_many 3 = .ok (.istore_n 3, 1) := by decide +kernel
theorem dX7_many_4 : decode cX7_many 4 = .ok (.iload_n 3, 1) := by decide +kernel
theorem dX7_many_5 : decode cX7_many 5 = .ok (.aload_n 0, 1) := by decide +kernel
theorem dX7_many_6 : decode cX7_many 6 = .ok (.getfield 7, 3) := by decide +kernel
theorem dX7_many_9 : decode cX7_many 9 = .ok (.iconst 3, 1) := by decide +kernel
theorem dX7_many_10 : decode cX7_many 10 = .ok (.iaload, 1) := by decide +kernel
theorem dX7_many_11 : decode cX7_many 11 = .ok (.if_icmp .ge 32, 3) := by decide +kernel
theorem dX7_many_14 : decode cX7_many 14 = .ok (.iload_n 2, 1) := by decide +kernel
theorem dX7_many_15 : decode cX7_many 15 = .ok (.aload_n 0, 1) := by decide +kernel
theorem dX7_many_16 : decode cX7_many 16 = .ok (.getfield 7, 3) := by decide +kernel
theorem dX7_many_19 : decode cX7_many 19 = .ok (.iload_n 3, 1) := by decide +kernel
theorem dX7_many_20 : decode cX7_many 20 = .ok (.invokestatic 52, 3) := by decide +kernel
theorem dX7_many_23 : decode cX7_many 23 = .ok (.iconst 2, 1) := by decide +kernel
theorem dX7_many_24 : decode cX7_many 24 = .ok (.iadd, 1) := by decide +kernel
theorem dX7_many_25 : decode cX7_many 25 = .ok (.iaload, 1) := by decide +kernel
theorem dX7_many_26 : decode cX7_many 26 = .ok (.iload_n 1, 1) := by decide +kernel
theorem dX7_many_27 : decode cX7_many 27 = .ok (.if_icmp .ne 7, 3) := by decide +kernel
theorem dX7_many_30 : decode cX7_many 30 = .ok (.iconst 1, 1) := by decide +kernel
theorem dX7_many_31 : decode cX7_many 31 = .ok (.goto 4, 3) := by decide +kernel
theorem dX7_many_34 : decode cX7_many 34 = .ok (.iconst 0, 1) := by decide +kernel
theorem dX7_many_35 : decode cX7_many 35 = .ok (.iadd, 1) := by decide +kernel
theorem dX7_many_36 : decode cX7_many 36 = .ok (.istore_n 2, 1) := by decide +kernel
theorem dX7_many_37 : decode cX7_many 37 = .ok (.iinc 3 1, 3) := by decide +kernel
theorem dX7_many_40 : decode cX7_many 40 = .ok (.goto (-36), 3) := by decide +kernel
theorem dX7_many_43 : decode cX7_many 43 = .ok (.iload_n 2, 1) := by decide +kernel
theorem dX7_many_44 : decode cX7_many 44 = .ok (.ireturn, 1) := by decide +kernel
theorem dX7_tells_0 : decode cX7_tells 0 = .ok (.iload_n 1, 1) := by decide +kernel
theorem dX7_tells_1 : decode cX7_tells 1 = .ok (.tableswitch 131 0 16 #[83, 83, 83, 83, 90, 90, 90, 98, 106, 106, 106, 106, 118, 118, 118, 118, 118], 83) := by decide +kernel
theorem dX7_tells_84 : decode cX7_tells 84 = .ok (.aload_n 0, 1) := by decide +kernel
theorem dX7_tells_85 : decode cX7_tells 85 = .ok (.getfield 7, 3) := by decide +kernel
theorem dX7_tells_88 : decode cX7_tells 88 = .ok (.iload_n 1, 1) := by decide +kernel
theorem dX7_tells_89 : decode cX7_tells 89 = .ok (.iaload, 1) := by decide +kernel
theorem dX7_tells_90 : decode cX7_tells 90 = .ok (.ireturn, 1) := by decide +kernel
theorem dX7_tells_91 : decode cX7_tells 91 = .ok (.aload_n 0, 1) := by decide +kernel
theorem dX7_tells_92 : decode cX7_tells 92 = .ok (.iload_n 1, 1) := by decide +kernel
theorem dX7_tells_93 : decode cX7_tells 93 = .ok (.iconst 4, 1) := by decide +kernel
theorem dX7_tells_94 : decode cX7_tells 94 = .ok (.isub, 1) := by decide +kernel
theorem dX7_tells_95 : decode cX7_tells 95 = .ok (.invokevirtual 119, 3) := by decide +kernel
theorem dX7_tells_98 : decode cX7_tells 98 = .ok (.ireturn, 1) := by decide +kernel
theorem dX7_tells_99 : decode cX7_tells 99 = .ok (.aload_n 0, 1) := by decide +kernel
theorem dX7_tells_100 : decode cX7_tells 100 = .ok (.getfield 7, 3) := by decide +kernel
theorem dX7_tells_103 : decode cX7_tells 103 = .ok (.bipush 8, 2) := by decide +kernel
theorem dX7_tells_105 : decode cX7_tells 105 = .ok (.iaload, 1) := by decide +kernel
theorem dX7_tells_106 : decode cX7_tells 106 = .ok (.ireturn, 1) := by decide +kernel
theorem dX7_tells_107 : decode cX7_tells 107 = .ok (.aload_n 0, 1) := by decide +kernel
theorem dX7_tells_108 : decode cX7_tells 108 = .ok (.getfield 7, 3) := by decide +kernel
theorem dX7_tells_111 : decode cX7_tells 111 = .ok (.iconst 4, 1) := by decide +kernel
theorem dX7_tells_112 : decode cX7_tells 112 = .ok (.iload_n 1, 1) := by decide +kernel
theorem dX7_tells_113 : decode cX7_tells 113 = .ok (.iadd, 1) := by decide +kernel
theorem dX7_tells_114 : decode cX7_tells 114 = .ok (.bipush 8, 2) := by decide +kernel
theorem dX7_tells_116 : decode cX7_tells 116 = .ok (.isub, 1) := by decide +kernel
theorem dX7_tells_117 : decode cX7_tells 117 = .ok (.iaload, 1) := by decide +kernel
theorem dX7_tells_118 : decode cX7_tells 118 = .ok (.ireturn, 1) := by decide +kernel
theorem dX7_tells_119 : decode cX7_tells 119 = .ok (.aload_n 0, 1) := by decide +kernel
theorem dX7_tells_120 : decode cX7_tells 120 = .ok (.getfield 7, 3) := by decide +kernel
theorem dX7_tells_123 : decode cX7_tells 123 = .ok (.bipush 9, 2) := by decide +kernel
theorem dX7_tells_125 : decode cX7_tells 125 = .ok (.iload_n 1, 1) := by decide +kernel
theorem dX7_tells_126 : decode cX7_tells 126 = .ok (.iadd, 1) := by decide +kernel
theorem dX7_tells_127 : decode cX7_tells 127 = .ok (.bipush 12, 2) := by decide +kernel
theorem dX7_tells_129 : decode cX7_tells 129 = .ok (.isub, 1) := by decide +kernel
theorem dX7_tells_130 : decode cX7_tells 130 = .ok (.iaload, 1) := by decide +kernel
theorem dX7_tells_131 : decode cX7_tells 131 = .ok (.ireturn, 1) := by decide +kernel
theorem dX7_tells_132 : decode cX7_tells 132 = .ok (.aload_n 0, 1) := by decide +kernel
theorem dX7_tells_133 : decode cX7_tells 133 = .ok (.getfield 45, 3) := by decide +kernel
theorem dX7_tells_136 : decode cX7_tells 136 = .ok (.ireturn, 1) := by decide +kernel
theorem dX7_tell_0 : decode cX7_tell 0 = .ok (.iload_n 1, 1) := by decide +kernel
theorem dX7_tell_1 : decode cX7_tell 1 = .ok (.iconst 0, 1) := by decide +kernel
theorem dX7_tell_2 : decode cX7_tell 2 = .ok (.bipush 17, 2) := by decide +kernel
theorem dX7_tell_4 : decode cX7_tell 4 = .ok (.invokestatic 41, 3) := by decide +kernel
theorem dX7_tell_7 : decode cX7_tell 7 = .ok (.ifCond .eq 11, 3) := by decide +kernel
theorem dX7_tell_10 : decode cX7_tell 10 = .ok (.aload_n 0, 1) := by decide +kernel
theorem dX7_tell_11 : decode cX7_tell 11 = .ok (.iload_n 1, 1) := by decide +kernel
theorem dX7_tell_12 : decode cX7_tell 12 = .ok (.invokevirtual 122, 3) := by decide +kernel
theorem dX7_tell_15 : decode cX7_tell 15 = .ok (.goto 4, 3) := by decide +kernel
theorem dX7_tell_18 : decode cX7_tell 18 = .ok (.iconst (-1), 1) := by decide +kernel
theorem dX7_tell_19 : decode cX7_tell 19 = .ok (.ireturn, 1) := by decide +kernel
theorem dX7_whyOf_0 : decode cX7_whyOf 0 = .ok (.aload_n 0, 1) := by decide +kernel
theorem dX7_whyOf_1 : decode cX7_whyOf 1 = .ok (.getfield 7, 3) := by decide +kernel
theorem dX7_whyOf_4 : decode cX7_whyOf 4 = .ok (.iload_n 1, 1) := by decide +kernel
theorem dX7_whyOf_5 : decode cX7_whyOf 5 = .ok (.invokestatic 52, 3) := by decide +kernel
theorem dX7_whyOf_8 : decode cX7_whyOf 8 = .ok (.iconst 2, 1) := by decide +kernel
theorem dX7_whyOf_9 : decode cX7_whyOf 9 = .ok (.iadd, 1) := by decide +kernel
theorem dX7_whyOf_10 : decode cX7_whyOf 10 = .ok (.iaload, 1) := by decide +kernel
theorem dX7_whyOf_11 : decode cX7_whyOf 11 = .ok (.ifCond .eq 5, 3) := by decide +kernel
theorem dX7_whyOf_14 : decode cX7_whyOf 14 = .ok (.iconst 1, 1) := by decide +kernel
theorem dX7_whyOf_15 : decode cX7_whyOf 15 = .ok (.ireturn, 1) := by decide +kernel
theorem dX7_whyOf_16 : decode cX7_whyOf 16 = .ok (.aload_n 0, 1) := by decide +kernel
theorem dX7_whyOf_17 : decode cX7_whyOf 17 = .ok (.iload_n 1, 1) := by decide +kernel
theorem dX7_whyOf_18 : decode cX7_whyOf 18 = .ok (.invokevirtual 98, 3) := by decide +kernel
theorem dX7_whyOf_21 : decode cX7_whyOf 21 = .ok (.ifCond .ne 5, 3) := by decide +kernel
theorem dX7_whyOf_24 : decode cX7_whyOf 24 = .ok (.iconst 2, 1) := by decide +kernel
theorem dX7_whyOf_25 : decode cX7_whyOf 25 = .ok (.ireturn, 1) := by decide +kernel
theorem dX7_whyOf_26 : decode cX7_whyOf 26 = .ok (.aload_n 0, 1) := by decide +kernel
theorem dX7_whyOf_27 : decode cX7_whyOf 27 = .ok (.getfield 7, 3) := by decide +kernel
theorem dX7_whyOf_30 : decode cX7_whyOf 30 = .ok (.iload_n 1, 1) := by decide +kernel
theorem dX7_whyOf_31 : decode cX7_whyOf 31 = .ok (.invokestatic 52, 3) := by decide +kernel
theorem dX7_whyOf_34 : decode cX7_whyOf 34 = .ok (.iconst 3, 1) := by decide +kernel
theorem dX7_whyOf_35 : decode cX7_whyOf 35 = .ok (.iadd, 1) := by decide +kernel
theorem dX7_whyOf_36 : decode cX7_whyOf 36 = .ok (.iaload, 1) := by decide +kernel
theorem dX7_whyOf_37 : decode cX7_whyOf 37 = .ok (.istore_n 2, 1) := by decide +kernel
theorem dX7_whyOf_38 : decode cX7_whyOf 38 = .ok (.iload_n 2, 1) := by decide +kernel
theorem dX7_whyOf_39 : decode cX7_whyOf 39 = .ok (.ifCond .eq 11, 3) := by decide +kernel
theorem dX7_whyOf_42 : decode cX7_whyOf 42 = .ok (.aload_n 0, 1) := by decide +kernel
theorem dX7_whyOf_43 : decode cX7_whyOf 43 = .ok (.iload_n 1, 1) := by decide +kernel
theorem dX7_whyOf_44 : decode cX7_whyOf 44 = .ok (.invokevirtual 101, 3) := by decide +kernel
theorem dX7_whyOf_47 : decode cX7_whyOf 47 = .ok (.ifCond .eq 27, 3) := by decide +kernel
theorem dX7_whyOf_50 : decode cX7_whyOf 50 = .ok (.aload_n 0, 1) := by decide +kernel
theorem dX7_whyOf_51 : decode cX7_whyOf 51 = .ok (.getfield 7, 3) := by decide +kernel
theorem dX7_whyOf_54 : decode cX7_whyOf 54 = .ok (.iconst 5, 1) := by decide +kernel
theorem dX7_whyOf_55 : decode cX7_whyOf 55 = .ok (.iaload, 1) := by decide +kernel
theorem dX7_whyOf_56 : decode cX7_whyOf 56 = .ok (.ifCond .eq 12, 3) := by decide +kernel
theorem dX7_whyOf_59 : decode cX7_whyOf 59 = .ok (.aload_n 0, 1) := by decide +kernel
theorem dX7_whyOf_60 : decode cX7_whyOf 60 = .ok (.getfield 7, 3) := by decide +kernel
theorem dX7_whyOf_63 : decode cX7_whyOf 63 = .ok (.iconst 4, 1) := by decide +kernel
theorem dX7_whyOf_64 : decode cX7_whyOf 64 = .ok (.iaload, 1) := by decide +kernel
theorem dX7_whyOf_65 : decode cX7_whyOf 65 = .ok (.ifCond .le 7, 3) := by decide +kernel
theorem dX7_whyOf_68 : decode cX7_whyOf 68 = .ok (.iconst 3, 1) := by decide +kernel
theorem dX7_whyOf_69 : decode cX7_whyOf 69 = .ok (.goto 4, 3) := by decide +kernel
theorem dX7_whyOf_72 : decode cX7_whyOf 72 = .ok (.iconst 0, 1) := by decide +kernel
theorem dX7_whyOf_73 : decode cX7_whyOf 73 = .ok (.ireturn, 1) := by decide +kernel
theorem dX7_whyOf_74 : decode cX7_whyOf 74 = .ok (.aload_n 0, 1) := by decide +kernel
theorem dX7_whyOf_75 : decode cX7_whyOf 75 = .ok (.iload_n 2, 1) := by decide +kernel
theorem dX7_whyOf_76 : decode cX7_whyOf 76 = .ok (.iconst 1, 1) := by decide +kernel
theorem dX7_whyOf_77 : decode cX7_whyOf 77 = .ok (.isub, 1) := by decide +kernel
theorem dX7_whyOf_78 : decode cX7_whyOf 78 = .ok (.invokevirtual 68, 3) := by decide +kernel
theorem dX7_whyOf_81 : decode cX7_whyOf 81 = .ok (.bipush (-6), 2) := by decide +kernel
theorem dX7_whyOf_83 : decode cX7_whyOf 83 = .ok (.if_icmp .eq 7, 3) := by decide +kernel
theorem dX7_whyOf_86 : decode cX7_whyOf 86 = .ok (.iconst 4, 1) := by decide +kernel
theorem dX7_whyOf_87 : decode cX7_whyOf 87 = .ok (.goto 32, 3) := by decide +kernel
theorem dX7_whyOf_90 : decode cX7_whyOf 90 = .ok (.aload_n 0, 1) := by decide +kernel
theorem dX7_whyOf_91 : decode cX7_whyOf 91 = .ok (.getfield 7, 3) := by decide +kernel
theorem dX7_whyOf_94 : decode cX7_whyOf 94 = .ok (.iload_n 1, 1) := by decide +kernel
theorem dX7_whyOf_95 : decode cX7_whyOf 95 = .ok (.invokestatic 52, 3) := by decide +kernel
theorem dX7_whyOf_98 : decode cX7_whyOf 98 = .ok (.iconst 5, 1) := by decide +kernel
theorem dX7_whyOf_99 : decode cX7_whyOf 99 = .ok (.iadd, 1) := by decide +kernel
theorem dX7_whyOf_100 : decode cX7_whyOf 100 = .ok (.iaload, 1) := by decide +kernel
theorem dX7_whyOf_101 : decode cX7_whyOf 101 = .ok (.ifCond .ne 17, 3) := by decide +kernel
theorem dX7_whyOf_104 : decode cX7_whyOf 104 = .ok (.aload_n 0, 1) := by decide +kernel
theorem dX7_whyOf_105 : decode cX7_whyOf 105 = .ok (.getfield 7, 3) := by decide +kernel
theorem dX7_whyOf_108 : decode cX7_whyOf 108 = .ok (.bipush 6, 2) := by decide +kernel
theorem dX7_whyOf_110 : decode cX7_whyOf 110 = .ok (.iaload, 1) := by decide +kernel
theorem dX7_whyOf_111 : decode cX7_whyOf 111 = .ok (.ifCond .ne 7, 3) := by decide +kernel
theorem dX7_whyOf_114 : decode cX7_whyOf 114 = .ok (.iconst 5, 1) := by decide +kernel
theorem dX7_whyOf_115 : decode cX7_whyOf 115 = .ok (.goto 4, 3) := by decide +kernel
theorem dX7_whyOf_118 : decode cX7_whyOf 118 = .ok (.iconst 0, 1) := by decide +kernel
theorem dX7_whyOf_119 : decode cX7_whyOf 119 = .ok (.ireturn, 1) := by decide +kernel
theorem dX7_why_0 : decode cX7_why 0 = .ok (.aload_n 0, 1) := by decide +kernel
theorem dX7_why_1 : decode cX7_why 1 = .ok (.iload_n 1, 1) := by decide +kernel
theorem dX7_why_2 : decode cX7_why 2 = .ok (.invokevirtual 85, 3) := by decide +kernel
theorem dX7_why_5 : decode cX7_why 5 = .ok (.ifCond .eq 11, 3) := by decide +kernel
theorem dX7_why_8 : decode cX7_why 8 = .ok (.aload_n 0, 1) := by decide +kernel
theorem dX7_why_9 : decode cX7_why 9 = .ok (.iload_n 1, 1) := by decide +kernel
theorem dX7_why_10 : decode cX7_why 10 = .ok (.invokevirtual 125, 3) := by decide +kernel
theorem dX7_why_13 : decode cX7_why 13 = .ok (.goto 4, 3) := by decide +kernel
theorem dX7_why_16 : decode cX7_why 16 = .ok (.iconst (-1), 1) := by decide +kernel
theorem dX7_why_17 : decode cX7_why 17 = .ok (.ireturn, 1) := by decide +kernel
theorem dX7_keeps_0 : decode cX7_keeps 0 = .ok (.iconst 0, 1) := by decide +kernel
theorem dX7_keeps_1 : decode cX7_keeps 1 = .ok (.istore_n 2, 1) := by decide +kernel
theorem dX7_keeps_2 : decode cX7_keeps 2 = .ok (.iload_n 2, 1) := by decide +kernel
theorem dX7_keeps_3 : decode cX7_keeps 3 = .ok (.sipush 154, 3) := by decide +kernel
theorem dX7_keeps_6 : decode cX7_keeps 6 = .ok (.if_icmp .ge 18, 3) := by decide +kernel
theorem dX7_keeps_9 : decode cX7_keeps 9 = .ok (.aload_n 1, 1) := by decide +kernel
theorem dX7_keeps_10 : decode cX7_keeps 10 = .ok (.iload_n 2, 1) := by decide +kernel
theorem dX7_keeps_11 : decode cX7_keeps 11 = .ok (.aload_n 0, 1) := by decide +kernel
theorem dX7_keeps_12 : decode cX7_keeps 12 = .ok (.getfield 7, 3) := by decide +kernel
theorem dX7_keeps_15 : decode cX7_keeps 15 = .ok (.iload_n 2, 1) := by decide +kernel
theorem dX7_keeps_16 : decode cX7_keeps 16 = .ok (.iaload, 1) := by decide +kernel
theorem dX7_keeps_17 : decode cX7_keeps 17 = .ok (.iastore, 1) := by decide +kernel
theorem dX7_keeps_18 : decode cX7_keeps 18 = .ok (.iinc 2 1, 3) := by decide +kernel
theorem dX7_keeps_21 : decode cX7_keeps 21 = .ok (.goto (-19), 3) := by decide +kernel
theorem dX7_keeps_24 : decode cX7_keeps 24 = .ok (.return_, 1) := by decide +kernel
theorem dX7_comesBack_0 : decode cX7_comesBack 0 = .ok (.iconst 0, 1) := by decide +kernel
theorem dX7_comesBack_1 : decode cX7_comesBack 1 = .ok (.istore_n 1, 1) := by decide +kernel
theorem dX7_comesBack_2 : decode cX7_comesBack 2 = .ok (.iload_n 1, 1) := by decide +kernel
theorem dX7_comesBack_3 : decode cX7_comesBack 3 = .ok (.sipush 154, 3) := by decide +kernel
theorem dX7_comesBack_6 : decode cX7_comesBack 6 = .ok (.if_icmp .ge 21, 3) := by decide +kernel
theorem dX7_comesBack_9 : decode cX7_comesBack 9 = .ok (.aload_n 0, 1) := by decide +kernel
theorem dX7_comesBack_10 : decode cX7_comesBack 10 = .ok (.getfield 7, 3) := by decide +kernel
theorem dX7_comesBack_13 : decode cX7_comesBack 13 = .ok (.iload_n 1, 1) := by decide +kernel
theorem dX7_comesBack_14 : decode cX7_comesBack 14 = .ok (.aload_n 0, 1) := by decide +kernel
theorem dX7_comesBack_15 : decode cX7_comesBack 15 = .ok (.getfield 16, 3) := by decide +kernel
theorem dX7_comesBack_18 : decode cX7_comesBack 18 = .ok (.iload_n 1, 1) := by decide +kernel
theorem dX7_comesBack_19 : decode cX7_comesBack 19 = .ok (.iaload, 1) := by decide +kernel
theorem dX7_comesBack_20 : decode cX7_comesBack 20 = .ok (.iastore, 1) := by decide +kernel
theorem dX7_comesBack_21 : decode cX7_comesBack 21 = .ok (.iinc 1 1, 3) := by decide +kernel
theorem dX7_comesBack_24 : decode cX7_comesBack 24 = .ok (.goto (-22), 3) := by decide +kernel
theorem dX7_comesBack_27 : decode cX7_comesBack 27 = .ok (.return_, 1) := by decide +kernel
theorem dX7_landsLater_0 : decode cX7_landsLater 0 = .ok (.iconst 0, 1) := by decide +kernel
theorem dX7_landsLater_1 : decode cX7_landsLater 1 = .ok (.istore_n 2, 1) := by decide +kernel
theorem dX7_landsLater_2 : decode cX7_landsLater 2 = .ok (.iload_n 2, 1) := by decide +kernel
theorem dX7_landsLater_3 : decode cX7_landsLater 3 = .ok (.sipush 600, 3) := by decide +kernel
theorem dX7_landsLater_6 : decode cX7_landsLater 6 = .ok (.if_icmp .ge 28, 3) := by decide +kernel
theorem dX7_landsLater_9 : decode cX7_landsLater 9 = .ok (.aload_n 0, 1) := by decide +kernel
theorem dX7_landsLater_10 : decode cX7_landsLater 10 = .ok (.getfield 7, 3) := by decide +kernel
theorem dX7_landsLater_13 : decode cX7_landsLater 13 = .ok (.iload_n 1, 1) := by decide +kernel
theorem dX7_landsLater_14 : decode cX7_landsLater 14 = .ok (.invokestatic 52, 3) := by decide +kernel
theorem dX7_landsLater_17 : decode cX7_landsLater 17 = .ok (.iconst 2, 1) := by decide +kernel
theorem dX7_landsLater_18 : decode cX7_landsLater 18 = .ok (.iadd, 1) := by decide +kernel
theorem dX7_landsLater_19 : decode cX7_landsLater 19 = .ok (.iaload, 1) := by decide +kernel
theorem dX7_landsLater_20 : decode cX7_landsLater 20 = .ok (.ifCond .ne 14, 3) := by decide +kernel
theorem dX7_landsLater_23 : decode cX7_landsLater 23 = .ok (.aload_n 0, 1) := by decide +kernel
theorem dX7_landsLater_24 : decode cX7_landsLater 24 = .ok (.invokevirtual 110, 3) := by decide +kernel
theorem dX7_landsLater_27 : decode cX7_landsLater 27 = .ok (.istore_n 3, 1) := by decide +kernel
theorem dX7_landsLater_28 : decode cX7_landsLater 28 = .ok (.iinc 2 1, 3) := by decide +kernel
theorem dX7_landsLater_31 : decode cX7_landsLater 31 = .ok (.goto (-29), 3) := by decide +kernel
theorem dX7_landsLater_34 : decode cX7_landsLater 34 = .ok (.aload_n 0, 1) := by decide +kernel
theorem dX7_landsLater_35 : decode cX7_landsLater 35 = .ok (.getfield 7, 3) := by decide +kernel
theorem dX7_landsLater_38 : decode cX7_landsLater 38 = .ok (.iload_n 1, 1) := by decide +kernel
theorem dX7_landsLater_39 : decode cX7_landsLater 39 = .ok (.invokestatic 52, 3) := by decide +kernel
theorem dX7_landsLater_42 : decode cX7_landsLater 42 = .ok (.iconst 2, 1) := by decide +kernel
theorem dX7_landsLater_43 : decode cX7_landsLater 43 = .ok (.iadd, 1) := by decide +kernel
theorem dX7_landsLater_44 : decode cX7_landsLater 44 = .ok (.iaload, 1) := by decide +kernel
theorem dX7_landsLater_45 : decode cX7_landsLater 45 = .ok (.iconst 1, 1) := by decide +kernel
theorem dX7_landsLater_46 : decode cX7_landsLater 46 = .ok (.if_icmp .ne 7, 3) := by decide +kernel
theorem dX7_landsLater_49 : decode cX7_landsLater 49 = .ok (.iconst 1, 1) := by decide +kernel
theorem dX7_landsLater_50 : decode cX7_landsLater 50 = .ok (.goto 4, 3) := by decide +kernel
theorem dX7_landsLater_53 : decode cX7_landsLater 53 = .ok (.iconst 0, 1) := by decide +kernel
theorem dX7_landsLater_54 : decode cX7_landsLater 54 = .ok (.istore_n 3, 1) := by decide +kernel
theorem dX7_landsLater_55 : decode cX7_landsLater 55 = .ok (.aload_n 0, 1) := by decide +kernel
theorem dX7_landsLater_56 : decode cX7_landsLater 56 = .ok (.iload_n 3, 1) := by decide +kernel
theorem dX7_landsLater_57 : decode cX7_landsLater 57 = .ok (.ifCond .eq 7, 3) := by decide +kernel
theorem dX7_landsLater_60 : decode cX7_landsLater 60 = .ok (.iload_n 2, 1) := by decide +kernel
theorem dX7_landsLater_61 : decode cX7_landsLater 61 = .ok (.goto 5, 3) := by decide +kernel
theorem dX7_landsLater_64 : decode cX7_landsLater 64 = .ok (.bipush (-6), 2) := by decide +kernel
theorem dX7_landsLater_66 : decode cX7_landsLater 66 = .ok (.putfield 128, 3) := by decide +kernel
theorem dX7_landsLater_69 : decode cX7_landsLater 69 = .ok (.aload_n 0, 1) := by decide +kernel
theorem dX7_landsLater_70 : decode cX7_landsLater 70 = .ok (.iload_n 3, 1) := by decide +kernel
theorem dX7_landsLater_71 : decode cX7_landsLater 71 = .ok (.ifCond .eq 17, 3) := by decide +kernel
theorem dX7_landsLater_74 : decode cX7_landsLater 74 = .ok (.aload_n 0, 1) := by decide +kernel
theorem dX7_landsLater_75 : decode cX7_landsLater 75 = .ok (.getfield 7, 3) := by decide +kernel
theorem dX7_landsLater_78 : decode cX7_landsLater 78 = .ok (.iload_n 1, 1) := by decide +kernel
theorem dX7_landsLater_79 : decode cX7_landsLater 79 = .ok (.invokestatic 52, 3) := by decide +kernel
theorem dX7_landsLater_82 : decode cX7_landsLater 82 = .ok (.iconst 1, 1) := by decide +kernel
theorem dX7_landsLater_83 : decode cX7_landsLater 83 = .ok (.iadd, 1) := by decide +kernel
theorem dX7_landsLater_84 : decode cX7_landsLater 84 = .ok (.iaload, 1) := by decide +kernel
theorem dX7_landsLater_85 : decode cX7_landsLater 85 = .ok (.goto 5, 3) := by decide +kernel
theorem dX7_landsLater_88 : decode cX7_landsLater 88 = .ok (.bipush (-6), 2) := by decide +kernel
theorem dX7_landsLater_90 : decode cX7_landsLater 90 = .ok (.putfield 131, 3) := by decide +kernel
theorem dX7_landsLater_93 : decode cX7_landsLater 93 = .ok (.return_, 1) := by decide +kernel
theorem dX7_forecasts_0 : decode cX7_forecasts 0 = .ok (.aload_n 0, 1) := by decide +kernel
theorem dX7_forecasts_1 : decode cX7_forecasts 1 = .ok (.aload_n 0, 1) := by decide +kernel
theorem dX7_forecasts_2 : decode cX7_forecasts 2 = .ok (.getfield 16, 3) := by decide +kernel
theorem dX7_forecasts_5 : decode cX7_forecasts 5 = .ok (.invokevirtual 134, 3) := by decide +kernel
theorem dX7_forecasts_8 : decode cX7_forecasts 8 = .ok (.aload_n 0, 1) := by decide +kernel
theorem dX7_forecasts_9 : decode cX7_forecasts 9 = .ok (.iload_n 1, 1) := by decide +kernel
theorem dX7_forecasts_10 : decode cX7_forecasts 10 = .ok (.invokevirtual 138, 3) := by decide +kernel
theorem dX7_forecasts_13 : decode cX7_forecasts 13 = .ok (.aload_n 0, 1) := by decide +kernel
theorem dX7_forecasts_14 : decode cX7_forecasts 14 = .ok (.invokevirtual 142, 3) := by decide +kernel
theorem dX7_forecasts_17 : decode cX7_forecasts 17 = .ok (.return_, 1) := by decide +kernel
theorem dX7_minutesOf_0 : decode cX7_minutesOf 0 = .ok (.aload_n 0, 1) := by decide +kernel
theorem dX7_minutesOf_1 : decode cX7_minutesOf 1 = .ok (.iload_n 1, 1) := by decide +kernel
theorem dX7_minutesOf_2 : decode cX7_minutesOf 2 = .ok (.invokevirtual 145, 3) := by decide +kernel
theorem dX7_minutesOf_5 : decode cX7_minutesOf 5 = .ok (.aload_n 0, 1) := by decide +kernel
theorem dX7_minutesOf_6 : decode cX7_minutesOf 6 = .ok (.getfield 128, 3) := by decide +kernel
theorem dX7_minutesOf_9 : decode cX7_minutesOf 9 = .ok (.ireturn, 1) := by decide +kernel
theorem dX7_minutesLeft_0 : decode cX7_minutesLeft 0 = .ok (.aload_n 0, 1) := by decide +kernel
theorem dX7_minutesLeft_1 : decode cX7_minutesLeft 1 = .ok (.iload_n 1, 1) := by decide +kernel
theorem dX7_minutesLeft_2 : decode cX7_minutesLeft 2 = .ok (.invokevirtual 85, 3) := by decide +kernel
theorem dX7_minutesLeft_5 : decode cX7_minutesLeft 5 = .ok (.ifCond .eq 11, 3) := by decide +kernel
theorem dX7_minutesLeft_8 : decode cX7_minutesLeft 8 = .ok (.aload_n 0, 1) := by decide +kernel
theorem dX7_minutesLeft_9 : decode cX7_minutesLeft 9 = .ok (.iload_n 1, 1) := by decide +kernel
theorem dX7_minutesLeft_10 : decode cX7_minutesLeft 10 = .ok (.invokevirtual 148, 3) := by decide +kernel
theorem dX7_minutesLeft_13 : decode cX7_minutesLeft 13 = .ok (.goto 4, 3) := by decide +kernel
theorem dX7_minutesLeft_16 : decode cX7_minutesLeft 16 = .ok (.iconst (-1), 1) := by decide +kernel
theorem dX7_minutesLeft_17 : decode cX7_minutesLeft 17 = .ok (.ireturn, 1) := by decide +kernel
theorem dX7_landsWith_0 : decode cX7_landsWith 0 = .ok (.aload_n 0, 1) := by decide +kernel
theorem dX7_landsWith_1 : decode cX7_landsWith 1 = .ok (.iload_n 1, 1) := by decide +kernel
theorem dX7_landsWith_2 : decode cX7_landsWith 2 = .ok (.invokevirtual 85, 3) := by decide +kernel
theorem dX7_landsWith_5 : decode cX7_landsWith 5 = .ok (.ifCond .ne 5, 3) := by decide +kernel
theorem dX7_landsWith_8 : decode cX7_landsWith 8 = .ok (.iconst (-1), 1) := by decide +kernel
theorem dX7_landsWith_9 : decode cX7_landsWith 9 = .ok (.ireturn, 1) := by decide +kernel
theorem dX7_landsWith_10 : decode cX7_landsWith 10 = .ok (.aload_n 0, 1) := by decide +kernel
theorem dX7_landsWith_11 : decode cX7_landsWith 11 = .ok (.iload_n 1, 1) := by decide +kernel
theorem dX7_landsWith_12 : decode cX7_landsWith 12 = .ok (.invokevirtual 145, 3) := by decide +kernel
theorem dX7_landsWith_15 : decode cX7_landsWith 15 = .ok (.aload_n 0, 1) := by decide +kernel
theorem dX7_landsWith_16 : decode cX7_landsWith 16 = .ok (.getfield 131, 3) := by decide +kernel
theorem dX7_landsWith_19 : decode cX7_landsWith 19 = .ok (.ireturn, 1) := by decide +kernel
theorem dX7_endurance_0 : decode cX7_endurance 0 = .ok (.aload_n 0, 1) := by decide +kernel
theorem dX7_endurance_1 : decode cX7_endurance 1 = .ok (.iload_n 1, 1) := by decide +kernel
theorem dX7_endurance_2 : decode cX7_endurance 2 = .ok (.invokevirtual 85, 3) := by decide +kernel
theorem dX7_endurance_5 : decode cX7_endurance 5 = .ok (.ifCond .ne 5, 3) := by decide +kernel
theorem dX7_endurance_8 : decode cX7_endurance 8 = .ok (.iconst (-1), 1) := by decide +kernel
theorem dX7_endurance_9 : decode cX7_endurance 9 = .ok (.ireturn, 1) := by decide +kernel
theorem dX7_endurance_10 : decode cX7_endurance 10 = .ok (.aload_n 0, 1) := by decide +kernel
theorem dX7_endurance_11 : decode cX7_endurance 11 = .ok (.getfield 7, 3) := by decide +kernel
theorem dX7_endurance_14 : decode cX7_endurance 14 = .ok (.iload_n 1, 1) := by decide +kernel
theorem dX7_endurance_15 : decode cX7_endurance 15 = .ok (.invokestatic 52, 3) := by decide +kernel
theorem dX7_endurance_18 : decode cX7_endurance 18 = .ok (.iconst 2, 1) := by decide +kernel
theorem dX7_endurance_19 : decode cX7_endurance 19 = .ok (.iadd, 1) := by decide +kernel
theorem dX7_endurance_20 : decode cX7_endurance 20 = .ok (.iaload, 1) := by decide +kernel
theorem dX7_endurance_21 : decode cX7_endurance 21 = .ok (.ifCond .eq 6, 3) := by decide +kernel
theorem dX7_endurance_24 : decode cX7_endurance 24 = .ok (.bipush (-3), 2) := by decide +kernel
theorem dX7_endurance_26 : decode cX7_endurance 26 = .ok (.ireturn, 1) := by decide +kernel
theorem dX7_endurance_27 : decode cX7_endurance 27 = .ok (.aload_n 0, 1) := by decide +kernel
theorem dX7_endurance_28 : decode cX7_endurance 28 = .ok (.getfield 7, 3) := by decide +kernel
theorem dX7_endurance_31 : decode cX7_endurance 31 = .ok (.iload_n 1, 1) := by decide +kernel
theorem dX7_endurance_32 : decode cX7_endurance 32 = .ok (.invokestatic 52, 3) := by decide +kernel
theorem dX7_endurance_35 : decode cX7_endurance 35 = .ok (.iconst 1, 1) := by decide +kernel
theorem dX7_endurance_36 : decode cX7_endurance 36 = .ok (.iadd, 1) := by decide +kernel
theorem dX7_endurance_37 : decode cX7_endurance 37 = .ok (.iaload, 1) := by decide +kernel
theorem dX7_endurance_38 : decode cX7_endurance 38 = .ok (.aload_n 0, 1) := by decide +kernel
theorem dX7_endurance_39 : decode cX7_endurance 39 = .ok (.getfield 35, 3) := by decide +kernel
theorem dX7_endurance_42 : decode cX7_endurance 42 = .ok (.aload_n 0, 1) := by decide +kernel
theorem dX7_endurance_43 : decode cX7_endurance 43 = .ok (.getfield 7, 3) := by decide +kernel
theorem dX7_endurance_46 : decode cX7_endurance 46 = .ok (.iload_n 1, 1) := by decide +kernel
theorem dX7_endurance_47 : decode cX7_endurance 47 = .ok (.invokestatic 52, 3) := by decide +kernel
theorem dX7_endurance_50 : decode cX7_endurance 50 = .ok (.iaload, 1) := by decide +kernel
theorem dX7_endurance_51 : decode cX7_endurance 51 = .ok (.iaload, 1) := by decide +kernel
theorem dX7_endurance_52 : decode cX7_endurance 52 = .ok (.isub, 1) := by decide +kernel
theorem dX7_endurance_53 : decode cX7_endurance 53 = .ok (.istore_n 2, 1) := by decide +kernel
theorem dX7_endurance_54 : decode cX7_endurance 54 = .ok (.aload_n 0, 1) := by decide +kernel
theorem dX7_endurance_55 : decode cX7_endurance 55 = .ok (.iload_n 1, 1) := by decide +kernel
theorem dX7_endurance_56 : decode cX7_endurance 56 = .ok (.aload_n 0, 1) := by decide +kernel
theorem dX7_endurance_57 : decode cX7_endurance 57 = .ok (.getfield 7, 3) := by decide +kernel
theorem dX7_endurance_60 : decode cX7_endurance 60 = .ok (.iload_n 1, 1) := by decide +kernel
theorem dX7_endurance_61 : decode cX7_endurance 61 = .ok (.invokestatic 52, 3) := by decide +kernel
theorem dX7_endurance_64 : decode cX7_endurance 64 = .ok (.iconst 3, 1) := by decide +kernel
theorem dX7_endurance_65 : decode cX7_endurance 65 = .ok (.iadd, 1) := by decide +kernel
theorem dX7_endurance_66 : decode cX7_endurance 66 = .ok (.iaload, 1) := by decide +kernel
theorem dX7_endurance_67 : decode cX7_endurance 67 = .ok (.invokevirtual 91, 3) := by decide +kernel
theorem dX7_endurance_70 : decode cX7_endurance 70 = .ok (.istore_n 3, 1) := by decide +kernel
theorem dX7_endurance_71 : decode cX7_endurance 71 = .ok (.iload_n 2, 1) := by decide +kernel
theorem dX7_endurance_72 : decode cX7_endurance 72 = .ok (.ifCond .gt 7, 3) := by decide +kernel
theorem dX7_endurance_75 : decode cX7_endurance 75 = .ok (.iconst 0, 1) := by decide +kernel
theorem dX7_endurance_76 : decode cX7_endurance 76 = .ok (.goto 10, 3) := by decide +kernel
theorem dX7_endurance_79 : decode cX7_endurance 79 = .ok (.iload_n 2, 1) := by decide +kernel
theorem dX7_endurance_80 : decode cX7_endurance 80 = .ok (.iload_n 3, 1) := by decide +kernel
theorem dX7_endurance_81 : decode cX7_endurance 81 = .ok (.iadd, 1) := by decide +kernel
theorem dX7_endurance_82 : decode cX7_endurance 82 = .ok (.iconst 1, 1) := by decide +kernel
theorem dX7_endurance_83 : decode cX7_endurance 83 = .ok (.isub, 1) := by decide +kernel
theorem dX7_endurance_84 : decode cX7_endurance 84 = .ok (.iload_n 3, 1) := by decide +kernel
theorem dX7_endurance_85 : decode cX7_endurance 85 = .ok (.idiv, 1) := by decide +kernel
theorem dX7_endurance_86 : decode cX7_endurance 86 = .ok (.ireturn, 1) := by decide +kernel
theorem dX7_bestLevel_0 : decode cX7_bestLevel 0 = .ok (.iload_n 1, 1) := by decide +kernel
theorem dX7_bestLevel_1 : decode cX7_bestLevel 1 = .ok (.iconst 0, 1) := by decide +kernel
theorem dX7_bestLevel_2 : decode cX7_bestLevel 2 = .ok (.iconst 2, 1) := by decide +kernel
theorem dX7_bestLevel_3 : decode cX7_bestLevel 3 = .ok (.invokestatic 41, 3) := by decide +kernel
theorem dX7_bestLevel_6 : decode cX7_bestLevel 6 = .ok (.ifCond .ne 5, 3) := by decide +kernel
theorem dX7_bestLevel_9 : decode cX7_bestLevel 9 = .ok (.iconst (-1), 1) := by decide +kernel
theorem dX7_bestLevel_10 : decode cX7_bestLevel 10 = .ok (.ireturn, 1) := by decide +kernel
theorem dX7_bestLevel_11 : decode cX7_bestLevel 11 = .ok (.iload_n 2, 1) := by decide +kernel
theorem dX7_bestLevel_12 : decode cX7_bestLevel 12 = .ok (.iconst 1, 1) := by decide +kernel
theorem dX7_bestLevel_13 : decode cX7_bestLevel 13 = .ok (.sipush 9999, 3) := by decide +kernel
theorem dX7_bestLevel_16 : decode cX7_bestLevel 16 = .ok (.invokestatic 41, 3) := by decide +kernel
theorem dX7_bestLevel_19 : decode cX7_bestLevel 19 = .ok (.ifCond .ne 6, 3) := by decide +kernel
theorem dX7_bestLevel_22 : decode cX7_bestLevel 22 = .ok (.bipush (-2), 2) := by decide +kernel
theorem dX7_bestLevel_24 : decode cX7_bestLevel 24 = .ok (.ireturn, 1) := by decide +kernel
theorem dX7_bestLevel_25 : decode cX7_bestLevel 25 = .ok (.aload_n 0, 1) := by decide +kernel
theorem dX7_bestLevel_26 : decode cX7_bestLevel 26 = .ok (.getfield 7, 3) := by decide +kernel
theorem dX7_bestLevel_29 : decode cX7_bestLevel 29 = .ok (.iconst 3, 1) := by decide +kernel
theorem dX7_bestLevel_30 : decode cX7_bestLevel 30 = .ok (.iaload, 1) := by decide +kernel
theorem dX7_bestLevel_31 : decode cX7_bestLevel 31 = .ok (.bipush 20, 2) := by decide +kernel
theorem dX7_bestLevel_33 : decode cX7_bestLevel 33 = .ok (.if_icmp .ne 6, 3) := by decide +kernel
theorem dX7_bestLevel_36 : decode cX7_bestLevel 36 = .ok (.bipush (-4), 2) := by decide +kernel
theorem dX7_bestLevel_38 : decode cX7_bestLevel 38 = .ok (.ireturn, 1) := by decide +kernel
theorem dX7_bestLevel_39 : decode cX7_bestLevel 39 = .ok (.bipush (-6), 2) := by decide +kernel
theorem dX7_bestLevel_41 : decode cX7_bestLevel 41 = .ok (.istore_n 3, 1) := by decide +kernel
theorem dX7_bestLevel_42 : decode cX7_bestLevel 42 = .ok (.iconst 0, 1) := by decide +kernel
theorem dX7_bestLevel_43 : decode cX7_bestLevel 43 = .ok (.istore 4, 2) := by decide +kernel
theorem dX7_bestLevel_45 : decode cX7_bestLevel 45 = .ok (.iconst 0, 1) := by decide +kernel
theorem dX7_bestLevel_46 : decode cX7_bestLevel 46 = .ok (.istore 5, 2) := by decide +kernel
theorem dX7_bestLevel_48 : decode cX7_bestLevel 48 = .ok (.iload 5, 2) := by decide +kernel
theorem dX7_bestLevel_50 : decode cX7_bestLevel 50 = .ok (.aload_n 0, 1) := by decide +kernel
theorem dX7_bestLevel_51 : decode cX7_bestLevel 51 = .ok (.getfield 7, 3) := by decide +kernel
theorem dX7_bestLevel_54 : decode cX7_bestLevel 54 = .ok (.iconst 1, 1) := by decide +kernel
theorem dX7_bestLevel_55 : decode cX7_bestLevel 55 = .ok (.iaload, 1) := by decide +kernel
theorem dX7_bestLevel_56 : decode cX7_bestLevel 56 = .ok (.if_icmp .ge 103, 3) := by decide +kernel
theorem dX7_bestLevel_59 : decode cX7_bestLevel 59 = .ok (.aload_n 0, 1) := by decide +kernel
theorem dX7_bestLevel_60 : decode cX7_bestLevel 60 = .ok (.iload_n 1, 1) := by decide +kernel
theorem dX7_bestLevel_61 : decode cX7_bestLevel 61 = .ok (.iload_n 2, 1) := by decide +kernel
theorem dX7_bestLevel_62 : decode cX7_bestLevel 62 = .ok (.iload 5, 2) := by decide +kernel
theorem dX7_bestLevel_64 : decode cX7_bestLevel 64 = .ok (.invokevirtual 79, 3) := by decide +kernel
theorem dX7_bestLevel_67 : decode cX7_bestLevel 67 = .ok (.ifCond .ne 86, 3) := by decide +kernel
theorem dX7_bestLevel_70 : decode cX7_bestLevel 70 = .ok (.aload_n 0, 1) := by decide +kernel
theorem dX7_bestLevel_71 : decode cX7_bestLevel 71 = .ok (.aload_n 0, 1) := by decide +kernel
theorem dX7_bestLevel_72 : decode cX7_bestLevel 72 = .ok (.getfield 16, 3) := by decide +kernel
theorem dX7_bestLevel_75 : decode cX7_bestLevel 75 = .ok (.invokevirtual 134, 3) := by decide +kernel
theorem dX7_bestLevel_78 : decode cX7_bestLevel 78 = .ok (.aload_n 0, 1) := by decide +kernel
theorem dX7_bestLevel_79 : decode cX7_bestLevel 79 = .ok (.iload_n 1, 1) := by decide +kernel
theorem dX7_bestLevel_80 : decode cX7_bestLevel 80 = .ok (.iload_n 2, 1) := by decide +kernel
theorem dX7_bestLevel_81 : decode cX7_bestLevel 81 = .ok (.iload 5, 2) := by decide +kernel
theorem dX7_bestLevel_83 : decode cX7_bestLevel 83 = .ok (.invokevirtual 82, 3) := by decide +kernel
theorem dX7_bestLevel_86 : decode cX7_bestLevel 86 = .ok (.istore 6, 2) := by decide +kernel
theorem dX7_bestLevel_88 : decode cX7_bestLevel 88 = .ok (.aload_n 0, 1) := by decide +kernel
theorem dX7_bestLevel_89 : decode cX7_bestLevel 89 = .ok (.iload 6, 2) := by decide +kernel
theorem dX7_bestLevel_91 : decode cX7_bestLevel 91 = .ok (.invokevirtual 138, 3) := by decide +kernel
theorem dX7_bestLevel_94 : decode cX7_bestLevel 94 = .ok (.aload_n 0, 1) := by decide +kernel
theorem dX7_bestLevel_95 : decode cX7_bestLevel 95 = .ok (.invokevirtual 142, 3) := by decide +kernel
theorem dX7_bestLevel_98 : decode cX7_bestLevel 98 = .ok (.aload_n 0, 1) := by decide +kernel
theorem dX7_bestLevel_99 : decode cX7_bestLevel 99 = .ok (.getfield 128, 3) := by decide +kernel
theorem dX7_bestLevel_102 : decode cX7_bestLevel 102 = .ok (.ifCond .lt 20, 3) := by decide +kernel
theorem dX7_bestLevel_105 : decode cX7_bestLevel 105 = .ok (.iload_n 3, 1) := by decide +kernel
theorem dX7_bestLevel_106 : decode cX7_bestLevel 106 = .ok (.ifCond .lt 12, 3) := by decide +kernel
theorem dX7_bestLevel_109 : decode cX7_bestLevel 109 = .ok (.aload_n 0, 1) := by decide +kernel
theorem dX7_bestLevel_110 : decode cX7_bestLevel 110 = .ok (.getfield 128, 3) := by decide +kernel
theorem dX7_bestLevel_113 : decode cX7_bestLevel 113 = .ok (.iload 4, 2) := by decide +kernel
theorem dX7_bestLevel_115 : decode cX7_bestLevel 115 = .ok (.if_icmp .ge 7, 3) := by decide +kernel
theorem dX7_bestLevel_118 : decode cX7_bestLevel 118 = .ok (.iconst 1, 1) := by decide +kernel
theorem dX7_bestLevel_119 : decode cX7_bestLevel 119 = .ok (.goto 4, 3) := by decide +kernel
theorem dX7_bestLevel_122 : decode cX7_bestLevel 122 = .ok (.iconst 0, 1) := by decide +kernel
theorem dX7_bestLevel_123 : decode cX7_bestLevel 123 = .ok (.istore 7, 2) := by decide +kernel
theorem dX7_bestLevel_125 : decode cX7_bestLevel 125 = .ok (.iload 7, 2) := by decide +kernel
theorem dX7_bestLevel_127 : decode cX7_bestLevel 127 = .ok (.ifCond .eq 8, 3) := by decide +kernel
theorem dX7_bestLevel_130 : decode cX7_bestLevel 130 = .ok (.iload 5, 2) := by decide +kernel
theorem dX7_bestLevel_132 : decode cX7_bestLevel 132 = .ok (.goto 4, 3) := by decide +kernel
theorem dX7_bestLevel_135 : decode cX7_bestLevel 135 = .ok (.iload_n 3, 1) := by decide +kernel
theorem dX7_bestLevel_136 : decode cX7_bestLevel 136 = .ok (.istore_n 3, 1) := by decide +kernel
theorem dX7_bestLevel_137 : decode cX7_bestLevel 137 = .ok (.iload 7, 2) := by decide +kernel
theorem dX7_bestLevel_139 : decode cX7_bestLevel 139 = .ok (.ifCond .eq 10, 3) := by decide +kernel
theorem dX7_bestLevel_142 : decode cX7_bestLevel 142 = .ok (.aload_n 0, 1) := by decide +kernel
theorem dX7_bestLevel_143 : decode cX7_bestLevel 143 = .ok (.getfield 128, 3) := by decide +kernel
theorem dX7_bestLevel_146 : decode cX7_bestLevel 146 = .ok (.goto 5, 3) := by decide +kernel
theorem dX7_bestLevel_149 : decode cX7_bestLevel 149 = .ok (.iload 4, 2) := by decide +kernel
theorem dX7_bestLevel_151 : decode cX7_bestLevel 151 = .ok (.istore 4, 2) := by decide +kernel
theorem dX7_bestLevel_153 : decode cX7_bestLevel 153 = .ok (.iinc 5 1, 3) := by decide +kernel
theorem dX7_bestLevel_156 : decode cX7_bestLevel 156 = .ok (.goto (-108), 3) := by decide +kernel
theorem dX7_bestLevel_159 : decode cX7_bestLevel 159 = .ok (.iload_n 3, 1) := by decide +kernel
theorem dX7_bestLevel_160 : decode cX7_bestLevel 160 = .ok (.ireturn, 1) := by decide +kernel
theorem dX7_lands_0 : decode cX7_lands 0 = .ok (.iload_n 1, 1) := by decide +kernel
theorem dX7_lands_1 : decode cX7_lands 1 = .ok (.ifCond .ge 5, 3) := by decide +kernel
theorem dX7_lands_4 : decode cX7_lands 4 = .ok (.iconst (-1), 1) := by decide +kernel
theorem dX7_lands_5 : decode cX7_lands 5 = .ok (.ireturn, 1) := by decide +kernel
theorem dX7_lands_6 : decode cX7_lands 6 = .ok (.aload_n 0, 1) := by decide +kernel
theorem dX7_lands_7 : decode cX7_lands 7 = .ok (.aload_n 0, 1) := by decide +kernel
theorem dX7_lands_8 : decode cX7_lands 8 = .ok (.getfield 16, 3) := by decide +kernel
theorem dX7_lands_11 : decode cX7_lands 11 = .ok (.invokevirtual 134, 3) := by decide +kernel
theorem dX7_lands_14 : decode cX7_lands 14 = .ok (.iload_n 1, 1) := by decide +kernel
theorem dX7_lands_15 : decode cX7_lands 15 = .ok (.istore_n 2, 1) := by decide +kernel
theorem dX7_lands_16 : decode cX7_lands 16 = .ok (.bipush (-6), 2) := by decide +kernel
theorem dX7_lands_18 : decode cX7_lands 18 = .ok (.istore_n 3, 1) := by decide +kernel
theorem dX7_lands_19 : decode cX7_lands 19 = .ok (.iconst 0, 1) := by decide +kernel
theorem dX7_lands_20 : decode cX7_lands 20 = .ok (.istore 4, 2) := by decide +kernel
theorem dX7_lands_22 : decode cX7_lands 22 = .ok (.iload 4, 2) := by decide +kernel
theorem dX7_lands_24 : decode cX7_lands 24 = .ok (.sipush 600, 3) := by decide +kernel
theorem dX7_lands_27 : decode cX7_lands 27 = .ok (.if_icmp .ge 49, 3) := by decide +kernel
theorem dX7_lands_30 : decode cX7_lands 30 = .ok (.iload_n 3, 1) := by decide +kernel
theorem dX7_lands_31 : decode cX7_lands 31 = .ok (.ifCond .ge 45, 3) := by decide +kernel
theorem dX7_lands_34 : decode cX7_lands 34 = .ok (.aload_n 0, 1) := by decide +kernel
theorem dX7_lands_35 : decode cX7_lands 35 = .ok (.invokevirtual 110, 3) := by decide +kernel
theorem dX7_lands_38 : decode cX7_lands 38 = .ok (.istore 5, 2) := by decide +kernel
theorem dX7_lands_40 : decode cX7_lands 40 = .ok (.iload 5, 2) := by decide +kernel
theorem dX7_lands_42 : decode cX7_lands 42 = .ok (.ifCond .lt 12, 3) := by decide +kernel
theorem dX7_lands_45 : decode cX7_lands 45 = .ok (.iload_n 2, 1) := by decide +kernel
theorem dX7_lands_46 : decode cX7_lands 46 = .ok (.ifCond .ne 8, 3) := by decide +kernel
theorem dX7_lands_49 : decode cX7_lands 49 = .ok (.iload 5, 2) := by decide +kernel
theorem dX7_lands_51 : decode cX7_lands 51 = .ok (.goto 5, 3) := by decide +kernel
theorem dX7_lands_54 : decode cX7_lands 54 = .ok (.bipush (-6), 2) := by decide +kernel
theorem dX7_lands_56 : decode cX7_lands 56 = .ok (.istore_n 3, 1) := by decide +kernel
theorem dX7_lands_57 : decode cX7_lands 57 = .ok (.iload_n 2, 1) := by decide +kernel
theorem dX7_lands_58 : decode cX7_lands 58 = .ok (.iload 5, 2) := by decide +kernel
theorem dX7_lands_60 : decode cX7_lands 60 = .ok (.ifCond .lt 7, 3) := by decide +kernel
theorem dX7_lands_63 : decode cX7_lands 63 = .ok (.iconst 1, 1) := by decide +kernel
theorem dX7_lands_64 : decode cX7_lands 64 = .ok (.goto 4, 3) := by decide +kernel
theorem dX7_lands_67 : decode cX7_lands 67 = .ok (.iconst 0, 1) := by decide +kernel
theorem dX7_lands_68 : decode cX7_lands 68 = .ok (.isub, 1) := by decide +kernel
theorem dX7_lands_69 : decode cX7_lands 69 = .ok (.istore_n 2, 1) := by decide +kernel
theorem dX7_lands_70 : decode cX7_lands 70 = .ok (.iinc 4 1, 3) := by decide +kernel
theorem dX7_lands_73 : decode cX7_lands 73 = .ok (.goto (-51), 3) := by decide +kernel
theorem dX7_lands_76 : decode cX7_lands 76 = .ok (.aload_n 0, 1) := by decide +kernel
theorem dX7_lands_77 : decode cX7_lands 77 = .ok (.invokevirtual 142, 3) := by decide +kernel
theorem dX7_lands_80 : decode cX7_lands 80 = .ok (.iload_n 3, 1) := by decide +kernel
theorem dX7_lands_81 : decode cX7_lands 81 = .ok (.ireturn, 1) := by decide +kernel
theorem dX7_append_0 : decode cX7_append 0 = .ok (.iload_n 1, 1) := by decide +kernel
theorem dX7_append_1 : decode cX7_append 1 = .ok (.bipush 32, 2) := by decide +kernel
theorem dX7_append_3 : decode cX7_append 3 = .ok (.bipush 126, 2) := by decide +kernel
theorem dX7_append_5 : decode cX7_append 5 = .ok (.invokestatic 41, 3) := by decide +kernel
theorem dX7_append_8 : decode cX7_append 8 = .ok (.ifCond .ne 6, 3) := by decide +kernel
theorem dX7_append_11 : decode cX7_append 11 = .ok (.bipush (-2), 2) := by decide +kernel
theorem dX7_append_13 : decode cX7_append 13 = .ok (.ireturn, 1) := by decide +kernel
theorem dX7_append_14 : decode cX7_append 14 = .ok (.aload_n 0, 1) := by decide +kernel
theorem dX7_append_15 : decode cX7_append 15 = .ok (.getfield 151, 3) := by decide +kernel
theorem dX7_append_18 : decode cX7_append 18 = .ok (.bipush 80, 2) := by decide +kernel
theorem dX7_append_20 : decode cX7_append 20 = .ok (.if_icmp .ne 6, 3) := by decide +kernel
theorem dX7_append_23 : decode cX7_append 23 = .ok (.bipush (-4), 2) := by decide +kernel
theorem dX7_append_25 : decode cX7_append 25 = .ok (.ireturn, 1) := by decide +kernel
theorem dX7_append_26 : decode cX7_append 26 = .ok (.aload_n 0, 1) := by decide +kernel
theorem dX7_append_27 : decode cX7_append 27 = .ok (.getfield 26, 3) := by decide +kernel
theorem dX7_append_30 : decode cX7_append 30 = .ok (.aload_n 0, 1) := by decide +kernel
theorem dX7_append_31 : decode cX7_append 31 = .ok (.getfield 151, 3) := by decide +kernel
theorem dX7_append_34 : decode cX7_append 34 = .ok (.iload_n 1, 1) := by decide +kernel
theorem dX7_append_35 : decode cX7_append 35 = .ok (.iastore, 1) := by decide +kernel
theorem dX7_append_36 : decode cX7_append 36 = .ok (.aload_n 0, 1) := by decide +kernel
theorem dX7_append_37 : decode cX7_append 37 = .ok (.dup, 1) := by decide +kernel
theorem dX7_append_38 : decode cX7_append 38 = .ok (.getfield 151, 3) := by decide +kernel
theorem dX7_append_41 : decode cX7_append 41 = .ok (.iconst 1, 1) := by decide +kernel
theorem dX7_append_42 : decode cX7_append 42 = .ok (.iadd, 1) := by decide +kernel
theorem dX7_append_43 : decode cX7_append 43 = .ok (.putfield 151, 3) := by decide +kernel
theorem dX7_append_46 : decode cX7_append 46 = .ok (.aload_n 0, 1) := by decide +kernel
theorem dX7_append_47 : decode cX7_append 47 = .ok (.getfield 151, 3) := by decide +kernel
theorem dX7_append_50 : decode cX7_append 50 = .ok (.ireturn, 1) := by decide +kernel
theorem dX7_clearText_0 : decode cX7_clearText 0 = .ok (.aload_n 0, 1) := by decide +kernel
theorem dX7_clearText_1 : decode cX7_clearText 1 = .ok (.getfield 151, 3) := by decide +kernel
theorem dX7_clearText_4 : decode cX7_clearText 4 = .ok (.istore_n 1, 1) := by decide +kernel
theorem dX7_clearText_5 : decode cX7_clearText 5 = .ok (.aload_n 0, 1) := by decide +kernel
theorem dX7_clearText_6 : decode cX7_clearText 6 = .ok (.iconst 0, 1) := by decide +kernel
theorem dX7_clearText_7 : decode cX7_clearText 7 = .ok (.putfield 151, 3) := by decide +kernel
theorem dX7_clearText_10 : decode cX7_clearText 10 = .ok (.iload_n 1, 1) := by decide +kernel
theorem dX7_clearText_11 : decode cX7_clearText 11 = .ok (.ireturn, 1) := by decide +kernel
theorem dX7_here_0 : decode cX7_here 0 = .ok (.aload_n 0, 1) := by decide +kernel
theorem dX7_here_1 : decode cX7_here 1 = .ok (.getfield 154, 3) := by decide +kernel
theorem dX7_here_4 : decode cX7_here 4 = .ok (.aload_n 0, 1) := by decide +kernel
theorem dX7_here_5 : decode cX7_here 5 = .ok (.getfield 151, 3) := by decide +kernel
theorem dX7_here_8 : decode cX7_here 8 = .ok (.if_icmp .ge 15, 3) := by decide +kernel
theorem dX7_here_11 : decode cX7_here 11 = .ok (.aload_n 0, 1) := by decide +kernel
theorem dX7_here_12 : decode cX7_here 12 = .ok (.getfield 26, 3) := by decide +kernel
theorem dX7_here_15 : decode cX7_here 15 = .ok (.aload_n 0, 1) := by decide +kernel
theorem dX7_here_16 : decode cX7_here 16 = .ok (.getfield 154, 3) := by decide +kernel
theorem dX7_here_19 : decode cX7_here 19 = .ok (.iaload, 1) := by decide +kernel
theorem dX7_here_20 : decode cX7_here 20 = .ok (.goto 4, 3) := by decide +kernel
theorem dX7_here_23 : decode cX7_here 23 = .ok (.iconst (-1), 1) := by decide +kernel
theorem dX7_here_24 : decode cX7_here 24 = .ok (.ireturn, 1) := by decide +kernel
theorem dX7_takes_0 : decode cX7_takes 0 = .ok (.aload_n 0, 1) := by decide +kernel
theorem dX7_takes_1 : decode cX7_takes 1 = .ok (.invokevirtual 157, 3) := by decide +kernel
theorem dX7_takes_4 : decode cX7_takes 4 = .ok (.iload_n 1, 1) := by decide +kernel
theorem dX7_takes_5 : decode cX7_takes 5 = .ok (.if_icmp .ne 7, 3) := by decide +kernel
theorem dX7_takes_8 : decode cX7_takes 8 = .ok (.iconst 1, 1) := by decide +kernel
theorem dX7_takes_9 : decode cX7_takes 9 = .ok (.goto 4, 3) := by decide +kernel
theorem dX7_takes_12 : decode cX7_takes 12 = .ok (.iconst 0, 1) := by decide +kernel
theorem dX7_takes_13 : decode cX7_takes 13 = .ok (.istore_n 2, 1) := by decide +kernel
theorem dX7_takes_14 : decode cX7_takes 14 = .ok (.aload_n 0, 1) := by decide +kernel
theorem dX7_takes_15 : decode cX7_takes 15 = .ok (.dup, 1) := by decide +kernel
theorem dX7_takes_16 : decode cX7_takes 16 = .ok (.getfield 154, 3) := by decide +kernel
theorem dX7_takes_19 : decode cX7_takes 19 = .ok (.iload_n 2, 1) := by decide +kernel
theorem dX7_takes_20 : decode cX7_takes 20 = .ok (.ifCond .eq 7, 3) := by decide +kernel
theorem dX7_takes_23 : decode cX7_takes 23 = .ok (.iconst 1, 1) := by decide +kernel
theorem dX7_takes_24 : decode cX7_takes 24 = .ok (.goto 4, 3) := by decide +kernel
theorem dX7_takes_27 : decode cX7_takes 27 = .ok (.iconst 0, 1) := by decide +kernel
theorem dX7_takes_28 : decode cX7_takes 28 = .ok (.iadd, 1) := by decide +kernel
theorem dX7_takes_29 : decode cX7_takes 29 = .ok (.putfield 154, 3) := by decide +kernel
theorem dX7_takes_32 : decode cX7_takes 32 = .ok (.iload_n 2, 1) := by decide +kernel
theorem dX7_takes_33 : decode cX7_takes 33 = .ok (.ireturn, 1) := by decide +kernel
theorem dX7_digit_0 : decode cX7_digit 0 = .ok (.aload_n 0, 1) := by decide +kernel
theorem dX7_digit_1 : decode cX7_digit 1 = .ok (.invokevirtual 157, 3) := by decide +kernel
theorem dX7_digit_4 : decode cX7_digit 4 = .ok (.bipush 48, 2) := by decide +kernel
theorem dX7_digit_6 : decode cX7_digit 6 = .ok (.bipush 57, 2) := by decide +kernel
theorem dX7_digit_8 : decode cX7_digit 8 = .ok (.invokestatic 41, 3) := by decide +kernel
theorem dX7_digit_11 : decode cX7_digit 11 = .ok (.ifCond .eq 13, 3) := by decide +kernel
theorem dX7_digit_14 : decode cX7_digit 14 = .ok (.aload_n 0, 1) := by decide +kernel
theorem dX7_digit_15 : decode cX7_digit 15 = .ok (.invokevirtual 157, 3) := by decide +kernel
theorem dX7_digit_18 : decode cX7_digit 18 = .ok (.bipush 48, 2) := by decide +kernel
theorem dX7_digit_20 : decode cX7_digit 20 = .ok (.isub, 1) := by decide +kernel
theorem dX7_digit_21 : decode cX7_digit 21 = .ok (.goto 4, 3) := by decide +kernel
theorem dX7_digit_24 : decode cX7_digit 24 = .ok (.iconst (-1), 1) := by decide +kernel
theorem dX7_digit_25 : decode cX7_digit 25 = .ok (.ireturn, 1) := by decide +kernel
theorem dX7_isNumber_0 : decode cX7_isNumber 0 = .ok (.aload_n 0, 1) := by decide +kernel
theorem dX7_isNumber_1 : decode cX7_isNumber 1 = .ok (.getfield 154, 3) := by decide +kernel
theorem dX7_isNumber_4 : decode cX7_isNumber 4 = .ok (.istore 4, 2) := by decide +kernel
theorem dX7_isNumber_6 : decode cX7_isNumber 6 = .ok (.aload_n 0, 1) := by decide +kernel
theorem dX7_isNumber_7 : decode cX7_isNumber 7 = .ok (.invokevirtual 160, 3) := by decide +kernel
theorem dX7_isNumber_10 : decode cX7_isNumber 10 = .ok (.istore 5, 2) := by decide +kernel
theorem dX7_isNumber_12 : decode cX7_isNumber 12 = .ok (.iload 5, 2) := by decide +kernel
theorem dX7_isNumber_14 : decode cX7_isNumber 14 = .ok (.ifCond .ge 5, 3) := by decide +kernel
theorem dX7_isNumber_17 : decode cX7_isNumber 17 = .ok (.iconst 0, 1) := by decide +kernel
theorem dX7_isNumber_18 : decode cX7_isNumber 18 = .ok (.ireturn, 1) := by decide +kernel
theorem dX7_isNumber_19 : decode cX7_isNumber 19 = .ok (.aload_n 0, 1) := by decide +kernel
theorem dX7_isNumber_20 : decode cX7_isNumber 20 = .ok (.dup, 1) := by decide +kernel
theorem dX7_isNumber_21 : decode cX7_isNumber 21 = .ok (.getfield 154, 3) := by decide +kernel
theorem dX7_isNumber_24 : decode cX7_isNumber 24 = .ok (.iconst 1, 1) := by decide +kernel
theorem dX7_isNumber_25 : decode cX7_isNumber 25 = .ok (.iadd, 1) := by decide +kernel
theorem dX7_isNumber_26 : decode cX7_isNumber 26 = .ok (.putfield 154, 3) := by decide +kernel
theorem dX7_isNumber_29 : decode cX7_isNumber 29 = .ok (.iload 5, 2) := by decide +kernel
theorem dX7_isNumber_31 : decode cX7_isNumber 31 = .ok (.ifCond .ne 7, 3) := by decide +kernel
theorem dX7_isNumber_34 : decode cX7_isNumber 34 = .ok (.iconst 1, 1) := by decide +kernel
theorem dX7_isNumber_35 : decode cX7_isNumber 35 = .ok (.goto 4, 3) := by decide +kernel
theorem dX7_isNumber_38 : decode cX7_isNumber 38 = .ok (.iconst 0, 1) := by decide +kernel
theorem dX7_isNumber_39 : decode cX7_isNumber 39 = .ok (.istore 6, 2) := by decide +kernel
theorem dX7_isNumber_41 : decode cX7_isNumber 41 = .ok (.iload 6, 2) := by decide +kernel
theorem dX7_isNumber_43 : decode cX7_isNumber 43 = .ok (.ifCond .ne 46, 3) := by decide +kernel
theorem dX7_isNumber_46 : decode cX7_isNumber 46 = .ok (.aload_n 0, 1) := by decide +kernel
theorem dX7_isNumber_47 : decode cX7_isNumber 47 = .ok (.invokevirtual 160, 3) := by decide +kernel
theorem dX7_isNumber_50 : decode cX7_isNumber 50 = .ok (.ifCond .lt 39, 3) := by decide +kernel
theorem dX7_isNumber_53 : decode cX7_isNumber 53 = .ok (.aload_n 0, 1) := by decide +kernel
theorem dX7_isNumber_54 : decode cX7_isNumber 54 = .ok (.getfield 154, 3) := by decide +kernel
theorem dX7_isNumber_57 : decode cX7_isNumber 57 = .ok (.iload 4, 2) := by decide +kernel
theorem dX7_isNumber_59 : decode cX7_isNumber 59 = .ok (.iconst 4, 1) := by decide +kernel
theorem dX7_isNumber_60 : decode cX7_isNumber 60 = .ok (.iadd, 1) := by decide +kernel
theorem dX7_isNumber_61 : decode cX7_isNumber 61 = .ok (.if_icmp .ge 28, 3) := by decide +kernel
theorem dX7_isNumber_64 : decode cX7_isNumber 64 = .ok (.bipush 10, 2) := by decide +kernel
theorem dX7_isNumber_66 : decode cX7_isNumber 66 = .ok (.iload 5, 2) := by decide +kernel
theorem dX7_isNumber_68 : decode cX7_isNumber 68 = .ok (.imul, 1) := by decide +kernel
theorem dX7_isNumber_69 : decode cX7_isNumber 69 = .ok (.aload_n 0, 1) := by decide +kernel
theorem dX7_isNumber_70 : decode cX7_isNumber 70 = .ok (.invokevirtual 160, 3) := by decide +kernel
theorem dX7_isNumber_73 : decode cX7_isNumber 73 = .ok (.iadd, 1) := by decide +kernel
theorem dX7_isNumber_74 : decode cX7_isNumber 74 = .ok (.istore 5, 2) := by decide +kernel
theorem dX7_isNumber_76 : decode cX7_isNumber 76 = .ok (.aload_n 0, 1) := by decide +kernel
theorem dX7_isNumber_77 : decode cX7_isNumber 77 = .ok (.dup, 1) := by decide +kernel
theorem dX7_isNumber_78 : decode cX7_isNumber 78 = .ok (.getfield 154, 3) := by decide +kernel
theorem dX7_isNumber_81 : decode cX7_isNumber 81 = .ok (.iconst 1, 1) := by decide +kernel
theorem dX7_isNumber_82 : decode cX7_isNumber 82 = .ok (.iadd, 1) := by decide +kernel
theorem dX7_isNumber_83 : decode cX7_isNumber 83 = .ok (.putfield 154, 3) := by decide +kernel
theorem dX7_isNumber_86 : decode cX7_isNumber 86 = .ok (.goto (-45), 3) := by decide +kernel
theorem dX7_isNumber_89 : decode cX7_isNumber 89 = .ok (.aload_n 0, 1) := by decide +kernel
theorem dX7_isNumber_90 : decode cX7_isNumber 90 = .ok (.getfield 29, 3) := by decide +kernel
theorem dX7_isNumber_93 : decode cX7_isNumber 93 = .ok (.iload_n 3, 1) := by decide +kernel
theorem dX7_isNumber_94 : decode cX7_isNumber 94 = .ok (.iload 5, 2) := by decide +kernel
theorem dX7_isNumber_96 : decode cX7_isNumber 96 = .ok (.iastore, 1) := by decide +kernel
theorem dX7_isNumber_97 : decode cX7_isNumber 97 = .ok (.iload 5, 2) := by decide +kernel
theorem dX7_isNumber_99 : decode cX7_isNumber 99 = .ok (.iload_n 1, 1) := by decide +kernel
theorem dX7_isNumber_100 : decode cX7_isNumber 100 = .ok (.iload_n 2, 1) := by decide +kernel
theorem dX7_isNumber_101 : decode cX7_isNumber 101 = .ok (.invokestatic 41, 3) := by decide +kernel
theorem dX7_isNumber_104 : decode cX7_isNumber 104 = .ok (.istore 7, 2) := by decide +kernel
theorem dX7_isNumber_106 : decode cX7_isNumber 106 = .ok (.aload_n 0, 1) := by decide +kernel
theorem dX7_isNumber_107 : decode cX7_isNumber 107 = .ok (.iload 7, 2) := by decide +kernel
theorem dX7_isNumber_109 : decode cX7_isNumber 109 = .ok (.ifCond .eq 10, 3) := by decide +kernel
theorem dX7_isNumber_112 : decode cX7_isNumber 112 = .ok (.aload_n 0, 1) := by decide +kernel
theorem dX7_isNumber_113 : decode cX7_isNumber 113 = .ok (.getfield 154, 3) := by decide +kernel
theorem dX7_isNumber_116 : decode cX7_isNumber 116 = .ok (.goto 5, 3) := by decide +kernel
theorem dX7_isNumber_119 : decode cX7_isNumber 119 = .ok (.iload 4, 2) := by decide +kernel
theorem dX7_isNumber_121 : decode cX7_isNumber 121 = .ok (.putfield 154, 3) := by decide +kernel
theorem dX7_isNumber_124 : decode cX7_isNumber 124 = .ok (.iload 7, 2) := by decide +kernel
theorem dX7_isNumber_126 : decode cX7_isNumber 126 = .ok (.ireturn, 1) := by decide +kernel
theorem dX7_isStrip_0 : decode cX7_isStrip 0 = .ok (.aload_n 0, 1) := by decide +kernel
theorem dX7_isStrip_1 : decode cX7_isStrip 1 = .ok (.bipush 43, 2) := by decide +kernel
theorem dX7_isStrip_3 : decode cX7_isStrip 3 = .ok (.invokevirtual 163, 3) := by decide +kernel
theorem dX7_isStrip_6 : decode cX7_isStrip 6 = .ok (.ifCond .eq 131, 3) := by decide +kernel
theorem dX7_isStrip_9 : decode cX7_isStrip 9 = .ok (.aload_n 0, 1) := by decide +kernel
theorem dX7_isStrip_10 : decode cX7_isStrip 10 = .ok (.getfield 29, 3) := by decide +kernel
theorem dX7_isStrip_13 : decode cX7_isStrip 13 = .ok (.iconst 0, 1) := by decide +kernel
theorem dX7_isStrip_14 : decode cX7_isStrip 14 = .ok (.iconst 0, 1) := by decide +kernel
theorem dX7_isStrip_15 : decode cX7_isStrip 15 = .ok (.iastore, 1) := by decide +kernel
theorem dX7_isStrip_16 : decode cX7_isStrip 16 = .ok (.aload_n 0, 1) := by decide +kernel
theorem dX7_isStrip_17 : decode cX7_isStrip 17 = .ok (.getfield 29, 3) := by decide +kernel
theorem dX7_isStrip_20 : decode cX7_isStrip 20 = .ok (.iconst 1, 1) := by decide +kernel
theorem dX7_isStrip_21 : decode cX7_isStrip 21 = .ok (.aload_n 0, 1) := by decide +kernel
theorem dX7_isStrip_22 : decode cX7_isStrip 22 = .ok (.invokevirtual 157, 3) := by decide +kernel
theorem dX7_isStrip_25 : decode cX7_isStrip 25 = .ok (.bipush 108, 2) := by decide +kernel
theorem dX7_isStrip_27 : decode cX7_isStrip 27 = .ok (.if_icmp .ne 7, 3) := by decide +kernel
theorem dX7_isStrip_30 : decode cX7_isStrip 30 = .ok (.iconst 0, 1) := by decide +kernel
theorem dX7_isStrip_31 : decode cX7_isStrip 31 = .ok (.goto 31, 3) := by decide +kernel
theorem dX7_isStrip_34 : decode cX7_isStrip 34 = .ok (.aload_n 0, 1) := by decide +kernel
theorem dX7_isStrip_35 : decode cX7_isStrip 35 = .ok (.invokevirtual 157, 3) := by decide +kernel
theorem dX7_isStrip_38 : decode cX7_isStrip 38 = .ok (.bipush 109, 2) := by decide +kernel
theorem dX7_isStrip_40 : decode cX7_isStrip 40 = .ok (.if_icmp .ne 7, 3) := by decide +kernel
theorem dX7_isStrip_43 : decode cX7_isStrip 43 = .ok (.iconst 1, 1) := by decide +kernel
theorem dX7_isStrip_44 : decode cX7_isStrip 44 = .ok (.goto 18, 3) := by decide +kernel
theorem dX7_isStrip_47 : decode cX7_isStrip 47 = .ok (.aload_n 0, 1) := by decide +kernel
theorem dX7_isStrip_48 : decode cX7_isStrip 48 = .ok (.invokevirtual 157, 3) := by decide +kernel
theorem dX7_isStrip_51 : decode cX7_isStrip 51 = .ok (.bipush 104, 2) := by decide +kernel
theorem dX7_isStrip_53 : decode cX7_isStrip 53 = .ok (.if_icmp .ne 7, 3) := by decide +kernel
theorem dX7_isStrip_56 : decode cX7_isStrip 56 = .ok (.iconst 2, 1) := by decide +kernel
theorem dX7_isStrip_57 : decode cX7_isStrip 57 = .ok (.goto 5, 3) := by decide +kernel
theorem dX7_isStrip_60 : decode cX7_isStrip 60 = .ok (.bipush (-6), 2) := by decide +kernel
theorem dX7_isStrip_62 : decode cX7_isStrip 62 = .ok (.iastore, 1) := by decide +kernel
theorem dX7_isStrip_63 : decode cX7_isStrip 63 = .ok (.aload_n 0, 1) := by decide +kernel
theorem dX7_isStrip_64 : decode cX7_isStrip 64 = .ok (.dup, 1) := by decide +kernel
theorem dX7_isStrip_65 : decode cX7_isStrip 65 = .ok (.getfield 154, 3) := by decide +kernel
theorem dX7_isStrip_68 : decode cX7_isStrip 68 = .ok (.aload_n 0, 1) := by decide +kernel
theorem dX7_isStrip_69 : decode cX7_isStrip 69 = .ok (.getfield 29, 3) := by decide +kernel
theorem dX7_isStrip_72 : decode cX7_isStrip 72 = .ok (.iconst 1, 1) := by decide +kernel
theorem dX7_isStrip_73 : decode cX7_isStrip 73 = .ok (.iaload, 1) := by decide +kernel
theorem dX7_isStrip_74 : decode cX7_isStrip 74 = .ok (.bipush (-6), 2) := by decide +kernel
theorem dX7_isStrip_76 : decode cX7_isStrip 76 = .ok (.if_icmp .ne 7, 3) := by decide +kernel
theorem dX7_isStrip_79 : decode cX7_isStrip 79 = .ok (.iconst 0, 1) := by decide +kernel
theorem dX7_isStrip_80 : decode cX7_isStrip 80 = .ok (.goto 4, 3) := by decide +kernel
theorem dX7_isStrip_83 : decode cX7_isStrip 83 = .ok (.iconst 1, 1) := by decide +kernel
theorem dX7_isStrip_84 : decode cX7_isStrip 84 = .ok (.iadd, 1) := by decide +kernel
theorem dX7_isStrip_85 : decode cX7_isStrip 85 = .ok (.putfield 154, 3) := by decide +kernel
theorem dX7_isStrip_88 : decode cX7_isStrip 88 = .ok (.aload_n 0, 1) := by decide +kernel
theorem dX7_isStrip_89 : decode cX7_isStrip 89 = .ok (.getfield 29, 3) := by decide +kernel
theorem dX7_isStrip_92 : decode cX7_isStrip 92 = .ok (.iconst 1, 1) := by decide +kernel
theorem dX7_isStrip_93 : decode cX7_isStrip 93 = .ok (.iaload, 1) := by decide +kernel
theorem dX7_isStrip_94 : decode cX7_isStrip 94 = .ok (.bipush (-6), 2) := by decide +kernel
theorem dX7_isStrip_96 : decode cX7_isStrip 96 = .ok (.if_icmp .eq 39, 3) := by decide +kernel
theorem dX7_isStrip_99 : decode cX7_isStrip 99 = .ok (.aload_n 0, 1) := by decide +kernel
theorem dX7_isStrip_100 : decode cX7_isStrip 100 = .ok (.iconst 1, 1) := by decide +kernel
theorem dX7_isStrip_101 : decode cX7_isStrip 101 = .ok (.sipush 9999, 3) := by decide +kernel
theorem dX7_isStrip_104 : decode cX7_isStrip 104 = .ok (.iconst 2, 1) := by decide +kernel
theorem dX7_isStrip_105 : decode cX7_isStrip 105 = .ok (.invokevirtual 166, 3) := by decide +kernel
theorem dX7_isStrip_108 : decode cX7_isStrip 108 = .ok (.ifCond .eq 27, 3) := by decide +kernel
theorem dX7_isStrip_111 : decode cX7_isStrip 111 = .ok (.aload_n 0, 1) := by decide +kernel
theorem dX7_isStrip_112 : decode cX7_isStrip 112 = .ok (.bipush 64, 2) := by decide +kernel
theorem dX7_isStrip_114 : decode cX7_isStrip 114 = .ok (.invokevirtual 163, 3) := by decide +kernel
theorem dX7_isStrip_117 : decode cX7_isStrip 117 = .ok (.ifCond .eq 18, 3) := by decide +kernel
theorem dX7_isStrip_120 : decode cX7_isStrip 120 = .ok (.aload_n 0, 1) := by decide +kernel
theorem dX7_isStrip_121 : decode cX7_isStrip 121 = .ok (.iconst 0, 1) := by decide +kernel
theorem dX7_isStrip_122 : decode cX7_isStrip 122 = .ok (.bipush 15, 2) := by decide +kernel
theorem dX7_isStrip_124 : decode cX7_isStrip 124 = .ok (.iconst 3, 1) := by decide +kernel
theorem dX7_isStrip_125 : decode cX7_isStrip 125 = .ok (.invokevirtual 166, 3) := by decide +kernel
theorem dX7_isStrip_128 : decode cX7_isStrip 128 = .ok (.ifCond .eq 7, 3) := by decide +kernel
theorem dX7_isStrip_131 : decode cX7_isStrip 131 = .ok (.iconst 1, 1) := by decide +kernel
theorem dX7_isStrip_132 : decode cX7_isStrip 132 = .ok (.goto 4, 3) := by decide +kernel
theorem dX7_isStrip_135 : decode cX7_isStrip 135 = .ok (.iconst 0, 1) := by decide +kernel
theorem dX7_isStrip_136 : decode cX7_isStrip 136 = .ok (.ireturn, 1) := by decide +kernel
theorem dX7_isStrip_137 : decode cX7_isStrip 137 = .ok (.aload_n 0, 1) := by decide +kernel
theorem dX7_isStrip_138 : decode cX7_isStrip 138 = .ok (.bipush 99, 2) := by decide +kernel
theorem dX7_isStrip_140 : decode cX7_isStrip 140 = .ok (.invokevirtual 163, 3) := by decide +kernel
theorem dX7_isStrip_143 : decode cX7_isStrip 143 = .ok (.ifCond .eq 19, 3) := by decide +kernel
theorem dX7_isStrip_146 : decode cX7_isStrip 146 = .ok (.aload_n 0, 1) := by decide +kernel
theorem dX7_isStrip_147 : decode cX7_isStrip 147 = .ok (.getfield 29, 3) := by decide +kernel
theorem dX7_isStrip_150 : decode cX7_isStrip 150 = .ok (.iconst 0, 1) := by decide +kernel
theorem dX7_isStrip_151 : decode cX7_isStrip 151 = .ok (.iconst 1, 1) := by decide +kernel
theorem dX7_isStrip_152 : decode cX7_isStrip 152 = .ok (.iastore, 1) := by decide +kernel
theorem dX7_isStrip_153 : decode cX7_isStrip 153 = .ok (.aload_n 0, 1) := by decide +kernel
theorem dX7_isStrip_154 : decode cX7_isStrip 154 = .ok (.iconst 0, 1) := by decide +kernel
theorem dX7_isStrip_155 : decode cX7_isStrip 155 = .ok (.bipush 19, 2) := by decide +kernel
theorem dX7_isStrip_157 : decode cX7_isStrip 157 = .ok (.iconst 1, 1) := by decide +kernel
theorem dX7_isStrip_158 : decode cX7_isStrip 158 = .ok (.invokevirtual 166, 3) := by decide +kernel
theorem dX7_isStrip_161 : decode cX7_isStrip 161 = .ok (.ireturn, 1) := by decide +kernel
theorem dX7_isStrip_162 : decode cX7_isStrip 162 = .ok (.aload_n 0, 1) := by decide +kernel
theorem dX7_isStrip_163 : decode cX7_isStrip 163 = .ok (.bipush 116, 2) := by decide +kernel
theorem dX7_isStrip_165 : decode cX7_isStrip 165 = .ok (.invokevirtual 163, 3) := by decide +kernel
theorem dX7_isStrip_168 : decode cX7_isStrip 168 = .ok (.ifCond .eq 19, 3) := by decide +kernel
theorem dX7_isStrip_171 : decode cX7_isStrip 171 = .ok (.aload_n 0, 1) := by decide +kernel
theorem dX7_isStrip_172 : decode cX7_isStrip 172 = .ok (.getfield 29, 3) := by decide +kernel
theorem dX7_isStrip_175 : decode cX7_isStrip 175 = .ok (.iconst 0, 1) := by decide +kernel
theorem dX7_isStrip_176 : decode cX7_isStrip 176 = .ok (.iconst 2, 1) := by decide +kernel
theorem dX7_isStrip_177 : decode cX7_isStrip 177 = .ok (.iastore, 1) := by decide +kernel
theorem dX7_isStrip_178 : decode cX7_isStrip 178 = .ok (.aload_n 0, 1) := by decide +kernel
theorem dX7_isStrip_179 : decode cX7_isStrip 179 = .ok (.iconst 1, 1) := by decide +kernel
theorem dX7_isStrip_180 : decode cX7_isStrip 180 = .ok (.bipush 99, 2) := by decide +kernel
theorem dX7_isStrip_182 : decode cX7_isStrip 182 = .ok (.iconst 1, 1) := by decide +kernel
theorem dX7_isStrip_183 : decode cX7_isStrip 183 = .ok (.invokevirtual 166, 3) := by decide +kernel
theorem dX7_isStrip_186 : decode cX7_isStrip 186 = .ok (.ireturn, 1) := by decide +kernel
theorem dX7_isStrip_187 : decode cX7_isStrip 187 = .ok (.aload_n 0, 1) := by decide +kernel
theorem dX7_isStrip_188 : decode cX7_isStrip 188 = .ok (.getfield 29, 3) := by decide +kernel
theorem dX7_isStrip_191 : decode cX7_isStrip 191 = .ok (.iconst 0, 1) := by decide +kernel
theorem dX7_isStrip_192 : decode cX7_isStrip 192 = .ok (.iconst 3, 1) := by decide +kernel
theorem dX7_isStrip_193 : decode cX7_isStrip 193 = .ok (.iastore, 1) := by decide +kernel
theorem dX7_isStrip_194 : decode cX7_isStrip 194 = .ok (.aload_n 0, 1) := by decide +kernel
theorem dX7_isStrip_195 : decode cX7_isStrip 195 = .ok (.getfield 29, 3) := by decide +kernel
theorem dX7_isStrip_198 : decode cX7_isStrip 198 = .ok (.iconst 1, 1) := by decide +kernel
theorem dX7_isStrip_199 : decode cX7_isStrip 199 = .ok (.aload_n 0, 1) := by decide +kernel
theorem dX7_isStrip_200 : decode cX7_isStrip 200 = .ok (.invokevirtual 157, 3) := by decide +kernel
theorem dX7_isStrip_203 : decode cX7_isStrip 203 = .ok (.bipush 111, 2) := by decide +kernel
theorem dX7_isStrip_205 : decode cX7_isStrip 205 = .ok (.if_icmp .ne 7, 3) := by decide +kernel
theorem dX7_isStrip_208 : decode cX7_isStrip 208 = .ok (.iconst 1, 1) := by decide +kernel
theorem dX7_isStrip_209 : decode cX7_isStrip 209 = .ok (.goto 4, 3) := by decide +kernel
theorem dX7_isStrip_212 : decode cX7_isStrip 212 = .ok (.iconst 0, 1) := by decide +kernel
theorem dX7_isStrip_213 : decode cX7_isStrip 213 = .ok (.iastore, 1) := by decide +kernel
theorem dX7_isStrip_214 : decode cX7_isStrip 214 = .ok (.aload_n 0, 1) := by decide +kernel
theorem dX7_isStrip_215 : decode cX7_isStrip 215 = .ok (.bipush 111, 2) := by decide +kernel
theorem dX7_isStrip_217 : decode cX7_isStrip 217 = .ok (.invokevirtual 163, 3) := by decide +kernel
theorem dX7_isStrip_220 : decode cX7_isStrip 220 = .ok (.ifCond .ne 12, 3) := by decide +kernel
theorem dX7_isStrip_223 : decode cX7_isStrip 223 = .ok (.aload_n 0, 1) := by decide +kernel
theorem dX7_isStrip_224 : decode cX7_isStrip 224 = .ok (.bipush 120, 2) := by decide +kernel
theorem dX7_isStrip_226 : decode cX7_isStrip 226 = .ok (.invokevirtual 163, 3) := by decide +kernel
theorem dX7_isStrip_229 : decode cX7_isStrip 229 = .ok (.ifCond .eq 7, 3) := by decide +kernel
theorem dX7_isStrip_232 : decode cX7_isStrip 232 = .ok (.iconst 1, 1) := by decide +kernel
theorem dX7_isStrip_233 : decode cX7_isStrip 233 = .ok (.goto 4, 3) := by decide +kernel
theorem dX7_isStrip_236 : decode cX7_isStrip 236 = .ok (.iconst 0, 1) := by decide +kernel
theorem dX7_isStrip_237 : decode cX7_isStrip 237 = .ok (.ireturn, 1) := by decide +kernel
theorem dX7_isText_0 : decode cX7_isText 0 = .ok (.aload_n 0, 1) := by decide +kernel
theorem dX7_isText_1 : decode cX7_isText 1 = .ok (.iconst 0, 1) := by decide +kernel
theorem dX7_isText_2 : decode cX7_isText 2 = .ok (.putfield 154, 3) := by decide +kernel
theorem dX7_isText_5 : decode cX7_isText 5 = .ok (.iconst 1, 1) := by decide +kernel
theorem dX7_isText_6 : decode cX7_isText 6 = .ok (.istore_n 1, 1) := by decide +kernel
theorem dX7_isText_7 : decode cX7_isText 7 = .ok (.iload_n 1, 1) := by decide +kernel
theorem dX7_isText_8 : decode cX7_isText 8 = .ok (.ifCond .eq 39, 3) := by decide +kernel
theorem dX7_isText_11 : decode cX7_isText 11 = .ok (.aload_n 0, 1) := by decide +kernel
theorem dX7_isText_12 : decode cX7_isText 12 = .ok (.getfield 154, 3) := by decide +kernel
theorem dX7_isText_15 : decode cX7_isText 15 = .ok (.aload_n 0, 1) := by decide +kernel
theorem dX7_isText_16 : decode cX7_isText 16 = .ok (.getfield 151, 3) := by decide +kernel
theorem dX7_isText_19 : decode cX7_isText 19 = .ok (.if_icmp .ge 28, 3) := by decide +kernel
theorem dX7_isText_22 : decode cX7_isText 22 = .ok (.aload_n 0, 1) := by decide +kernel
theorem dX7_isText_23 : decode cX7_isText 23 = .ok (.invokevirtual 169, 3) := by decide +kernel
theorem dX7_isText_26 : decode cX7_isText 26 = .ok (.ifCond .eq 16, 3) := by decide +kernel
theorem dX7_isText_29 : decode cX7_isText 29 = .ok (.aload_n 0, 1) := by decide +kernel
theorem dX7_isText_30 : decode cX7_isText 30 = .ok (.bipush 59, 2) := by decide +kernel
theorem dX7_isText_32 : decode cX7_isText 32 = .ok (.invokevirtual 163, 3) := by decide +kernel
theorem dX7_isText_35 : decode cX7_isText 35 = .ok (.ifCond .eq 7, 3) := by decide +kernel
theorem dX7_isText_38 : decode cX7_isText 38 = .ok (.iconst 1, 1) := by decide +kernel
theorem dX7_isText_39 : decode cX7_isText 39 = .ok (.goto 4, 3) := by decide +kernel
theorem dX7_isText_42 : decode cX7_isText 42 = .ok (.iconst 0, 1) := by decide +kernel
theorem dX7_isText_43 : decode cX7_isText 43 = .ok (.istore_n 1, 1) := by decide +kernel
theorem dX7_isText_44 : decode cX7_isText 44 = .ok (.goto (-37), 3) := by decide +kernel
theorem dX7_isText_47 : decode cX7_isText 47 = .ok (.iload_n 1, 1) := by decide +kernel
theorem dX7_isText_48 : decode cX7_isText 48 = .ok (.ireturn, 1) := by decide +kernel
theorem dX7_faultPosition_0 : decode cX7_faultPosition 0 = .ok (.aload_n 0, 1) := by decide +kernel
theorem dX7_faultPosition_1 : decode cX7_faultPosition 1 = .ok (.invokevirtual 173, 3) := by decide +kernel
theorem dX7_faultPosition_4 : decode cX7_faultPosition 4 = .ok (.ifCond .eq 8, 3) := by decide +kernel
theorem dX7_faultPosition_7 : decode cX7_faultPosition 7 = .ok (.bipush (-6), 2) := by decide +kernel
theorem dX7_faultPosition_9 : decode cX7_faultPosition 9 = .ok (.goto 7, 3) := by decide +kernel
theorem dX7_faultPosition_12 : decode cX7_faultPosition 12 = .ok (.aload_n 0, 1) := by decide +kernel
theorem dX7_faultPosition_13 : decode cX7_faultPosition 13 = .ok (.getfield 154, 3) := by decide +kernel
theorem dX7_faultPosition_16 : decode cX7_faultPosition 16 = .ok (.ireturn, 1) := by decide +kernel
theorem dX7_carriesOut_0 : decode cX7_carriesOut 0 = .ok (.iconst 0, 1) := by decide +kernel
theorem dX7_carriesOut_1 : decode cX7_carriesOut 1 = .ok (.istore_n 1, 1) := by decide +kernel
theorem dX7_carriesOut_2 : decode cX7_carriesOut 2 = .ok (.aload_n 0, 1) := by decide +kernel
theorem dX7_carriesOut_3 : decode cX7_carriesOut 3 = .ok (.getfield 29, 3) := by decide +kernel
theorem dX7_carriesOut_6 : decode cX7_carriesOut 6 = .ok (.iconst 0, 1) := by decide +kernel
theorem dX7_carriesOut_7 : decode cX7_carriesOut 7 = .ok (.iaload, 1) := by decide +kernel
theorem dX7_carriesOut_8 : decode cX7_carriesOut 8 = .ok (.tableswitch 184 0 2 #[28, 137, 171], 28) := by decide +kernel
theorem dX7_carriesOut_36 : decode cX7_carriesOut 36 = .ok (.aload_n 0, 1) := by decide +kernel
theorem dX7_carriesOut_37 : decode cX7_carriesOut 37 = .ok (.aload_n 0, 1) := by decide +kernel
theorem dX7_carriesOut_38 : decode cX7_carriesOut 38 = .ok (.getfield 29, 3) := by decide +kernel
theorem dX7_carriesOut_41 : decode cX7_carriesOut 41 = .ok (.iconst 1, 1) := by decide +kernel
theorem dX7_carriesOut_42 : decode cX7_carriesOut 42 = .ok (.iaload, 1) := by decide +kernel
theorem dX7_carriesOut_43 : decode cX7_carriesOut 43 = .ok (.aload_n 0, 1) := by decide +kernel
theorem dX7_carriesOut_44 : decode cX7_carriesOut 44 = .ok (.getfield 29, 3) := by decide +kernel
theorem dX7_carriesOut_47 : decode cX7_carriesOut 47 = .ok (.iconst 2, 1) := by decide +kernel
theorem dX7_carriesOut_48 : decode cX7_carriesOut 48 = .ok (.iaload, 1) := by decide +kernel
theorem dX7_carriesOut_49 : decode cX7_carriesOut 49 = .ok (.aload_n 0, 1) := by decide +kernel
theorem dX7_carriesOut_50 : decode cX7_carriesOut 50 = .ok (.getfield 29, 3) := by decide +kernel
theorem dX7_carriesOut_53 : decode cX7_carriesOut 53 = .ok (.iconst 3, 1) := by decide +kernel
theorem dX7_carriesOut_54 : decode cX7_carriesOut 54 = .ok (.iaload, 1) := by decide +kernel
theorem dX7_carriesOut_55 : decode cX7_carriesOut 55 = .ok (.invokevirtual 75, 3) := by decide +kernel
theorem dX7_carriesOut_58 : decode cX7_carriesOut 58 = .ok (.ifCond .ge 5, 3) := by decide +kernel
theorem dX7_carriesOut_61 : decode cX7_carriesOut 61 = .ok (.iconst 0, 1) := by decide +kernel
theorem dX7_carriesOut_62 : decode cX7_carriesOut 62 = .ok (.ireturn, 1) := by decide +kernel
theorem dX7_carriesOut_63 : decode cX7_carriesOut 63 = .ok (.aload_n 0, 1) := by decide +kernel
theorem dX7_carriesOut_64 : decode cX7_carriesOut 64 = .ok (.getfield 7, 3) := by decide +kernel
theorem dX7_carriesOut_67 : decode cX7_carriesOut 67 = .ok (.bipush 13, 2) := by decide +kernel
theorem dX7_carriesOut_69 : decode cX7_carriesOut 69 = .ok (.aload_n 0, 1) := by decide +kernel
theorem dX7_carriesOut_70 : decode cX7_carriesOut 70 = .ok (.aload_n 0, 1) := by decide +kernel
theorem dX7_carriesOut_71 : decode cX7_carriesOut 71 = .ok (.getfield 29, 3) := by decide +kernel
theorem dX7_carriesOut_74 : decode cX7_carriesOut 74 = .ok (.iconst 1, 1) := by decide +kernel
theorem dX7_carriesOut_75 : decode cX7_carriesOut 75 = .ok (.iaload, 1) := by decide +kernel
theorem dX7_carriesOut_76 : decode cX7_carriesOut 76 = .ok (.aload_n 0, 1) := by decide +kernel
theorem dX7_carriesOut_77 : decode cX7_carriesOut 77 = .ok (.getfield 29, 3) := by decide +kernel
theorem dX7_carriesOut_80 : decode cX7_carriesOut 80 = .ok (.iconst 2, 1) := by decide +kernel
theorem dX7_carriesOut_81 : decode cX7_carriesOut 81 = .ok (.iaload, 1) := by decide +kernel
theorem dX7_carriesOut_82 : decode cX7_carriesOut 82 = .ok (.aload_n 0, 1) := by decide +kernel
theorem dX7_carriesOut_83 : decode cX7_carriesOut 83 = .ok (.getfield 29, 3) := by decide +kernel
theorem dX7_carriesOut_86 : decode cX7_carriesOut 86 = .ok (.iconst 3, 1) := by decide +kernel
theorem dX7_carriesOut_87 : decode cX7_carriesOut 87 = .ok (.iaload, 1) := by decide +kernel
theorem dX7_carriesOut_88 : decode cX7_carriesOut 88 = .ok (.invokevirtual 79, 3) := by decide +kernel
theorem dX7_carriesOut_91 : decode cX7_carriesOut 91 = .ok (.iastore, 1) := by decide +kernel
theorem dX7_carriesOut_92 : decode cX7_carriesOut 92 = .ok (.aload_n 0, 1) := by decide +kernel
theorem dX7_carriesOut_93 : decode cX7_carriesOut 93 = .ok (.getfield 7, 3) := by decide +kernel
theorem dX7_carriesOut_96 : decode cX7_carriesOut 96 = .ok (.bipush 13, 2) := by decide +kernel
theorem dX7_carriesOut_98 : decode cX7_carriesOut 98 = .ok (.iaload, 1) := by decide +kernel
theorem dX7_carriesOut_99 : decode cX7_carriesOut 99 = .ok (.ifCond .le 7, 3) := by decide +kernel
theorem dX7_carriesOut_102 : decode cX7_carriesOut 102 = .ok (.iconst 0, 1) := by decide +kernel
theorem dX7_carriesOut_103 : decode cX7_carriesOut 103 = .ok (.goto 25, 3) := by decide +kernel
theorem dX7_carriesOut_106 : decode cX7_carriesOut 106 = .ok (.aload_n 0, 1) := by decide +kernel
theorem dX7_carriesOut_107 : decode cX7_carriesOut 107 = .ok (.aload_n 0, 1) := by decide +kernel
theorem dX7_carriesOut_108 : decode cX7_carriesOut 108 = .ok (.getfield 29, 3) := by decide +kernel
theorem dX7_carriesOut_111 : decode cX7_carriesOut 111 = .ok (.iconst 1, 1) := by decide +kernel
theorem dX7_carriesOut_112 : decode cX7_carriesOut 112 = .ok (.iaload, 1) := by decide +kernel
theorem dX7_carriesOut_113 : decode cX7_carriesOut 113 = .ok (.aload_n 0, 1) := by decide +kernel
theorem dX7_carriesOut_114 : decode cX7_carriesOut 114 = .ok (.getfield 29, 3) := by decide +kernel
theorem dX7_carriesOut_117 : decode cX7_carriesOut 117 = .ok (.iconst 2, 1) := by decide +kernel
theorem dX7_carriesOut_118 : decode cX7_carriesOut 118 = .ok (.iaload, 1) := by decide +kernel
theorem dX7_carriesOut_119 : decode cX7_carriesOut 119 = .ok (.aload_n 0, 1) := by decide +kernel
theorem dX7_carriesOut_120 : decode cX7_carriesOut 120 = .ok (.getfield 29, 3) := by decide +kernel
theorem dX7_carriesOut_123 : decode cX7_carriesOut 123 = .ok (.iconst 3, 1) := by decide +kernel
theorem dX7_carriesOut_124 : decode cX7_carriesOut 124 = .ok (.iaload, 1) := by decide +kernel
theorem dX7_carriesOut_125 : decode cX7_carriesOut 125 = .ok (.invokevirtual 82, 3) := by decide +kernel
theorem dX7_carriesOut_128 : decode cX7_carriesOut 128 = .ok (.istore_n 1, 1) := by decide +kernel
theorem dX7_carriesOut_129 : decode cX7_carriesOut 129 = .ok (.aload_n 0, 1) := by decide +kernel
theorem dX7_carriesOut_130 : decode cX7_carriesOut 130 = .ok (.getfield 7, 3) := by decide +kernel
theorem dX7_carriesOut_133 : decode cX7_carriesOut 133 = .ok (.bipush 13, 2) := by decide +kernel
theorem dX7_carriesOut_135 : decode cX7_carriesOut 135 = .ok (.iaload, 1) := by decide +kernel
theorem dX7_carriesOut_136 : decode cX7_carriesOut 136 = .ok (.ifCond .ne 7, 3) := by decide +kernel
theorem dX7_carriesOut_139 : decode cX7_carriesOut 139 = .ok (.iconst 1, 1) := by decide +kernel
theorem dX7_carriesOut_140 : decode cX7_carriesOut 140 = .ok (.goto 4, 3) := by decide +kernel
theorem dX7_carriesOut_143 : decode cX7_carriesOut 143 = .ok (.iconst 0, 1) := by decide +kernel
theorem dX7_carriesOut_144 : decode cX7_carriesOut 144 = .ok (.ireturn, 1) := by decide +kernel
theorem dX7_carriesOut_145 : decode cX7_carriesOut 145 = .ok (.aload_n 0, 1) := by decide +kernel
theorem dX7_carriesOut_146 : decode cX7_carriesOut 146 = .ok (.aload_n 0, 1) := by decide +kernel
theorem dX7_carriesOut_147 : decode cX7_carriesOut 147 = .ok (.getfield 29, 3) := by decide +kernel
theorem dX7_carriesOut_150 : decode cX7_carriesOut 150 = .ok (.iconst 1, 1) := by decide +kernel
theorem dX7_carriesOut_151 : decode cX7_carriesOut 151 = .ok (.iaload, 1) := by decide +kernel
theorem dX7_carriesOut_152 : decode cX7_carriesOut 152 = .ok (.invokevirtual 88, 3) := by decide +kernel
theorem dX7_carriesOut_155 : decode cX7_carriesOut 155 = .ok (.ifCond .ge 5, 3) := by decide +kernel
theorem dX7_carriesOut_158 : decode cX7_carriesOut 158 = .ok (.iconst 0, 1) := by decide +kernel
theorem dX7_carriesOut_159 : decode cX7_carriesOut 159 = .ok (.ireturn, 1) := by decide +kernel
theorem dX7_carriesOut_160 : decode cX7_carriesOut 160 = .ok (.aload_n 0, 1) := by decide +kernel
theorem dX7_carriesOut_161 : decode cX7_carriesOut 161 = .ok (.getfield 7, 3) := by decide +kernel
theorem dX7_carriesOut_164 : decode cX7_carriesOut 164 = .ok (.aload_n 0, 1) := by decide +kernel
theorem dX7_carriesOut_165 : decode cX7_carriesOut 165 = .ok (.getfield 29, 3) := by decide +kernel
theorem dX7_carriesOut_168 : decode cX7_carriesOut 168 = .ok (.iconst 1, 1) := by decide +kernel
theorem dX7_carriesOut_169 : decode cX7_carriesOut 169 = .ok (.iaload, 1) := by decide +kernel
theorem dX7_carriesOut_170 : decode cX7_carriesOut 170 = .ok (.invokestatic 52, 3) := by decide +kernel
theorem dX7_carriesOut_173 : decode cX7_carriesOut 173 = .ok (.iconst 5, 1) := by decide +kernel
theorem dX7_carriesOut_174 : decode cX7_carriesOut 174 = .ok (.iadd, 1) := by decide +kernel
theorem dX7_carriesOut_175 : decode cX7_carriesOut 175 = .ok (.iconst 1, 1) := by decide +kernel
theorem dX7_carriesOut_176 : decode cX7_carriesOut 176 = .ok (.iastore, 1) := by decide +kernel
theorem dX7_carriesOut_177 : decode cX7_carriesOut 177 = .ok (.iconst 1, 1) := by decide +kernel
theorem dX7_carriesOut_178 : decode cX7_carriesOut 178 = .ok (.ireturn, 1) := by decide +kernel
theorem dX7_carriesOut_179 : decode cX7_carriesOut 179 = .ok (.aload_n 0, 1) := by decide +kernel
theorem dX7_carriesOut_180 : decode cX7_carriesOut 180 = .ok (.aload_n 0, 1) := by decide +kernel
theorem dX7_carriesOut_181 : decode cX7_carriesOut 181 = .ok (.getfield 29, 3) := by decide +kernel
theorem dX7_carriesOut_184 : decode cX7_carriesOut 184 = .ok (.iconst 1, 1) := by decide +kernel
theorem dX7_carriesOut_185 : decode cX7_carriesOut 185 = .ok (.iaload, 1) := by decide +kernel
theorem dX7_carriesOut_186 : decode cX7_carriesOut 186 = .ok (.invokevirtual 113, 3) := by decide +kernel
theorem dX7_carriesOut_189 : decode cX7_carriesOut 189 = .ok (.istore_n 1, 1) := by decide +kernel
theorem dX7_carriesOut_190 : decode cX7_carriesOut 190 = .ok (.iconst 1, 1) := by decide +kernel
theorem dX7_carriesOut_191 : decode cX7_carriesOut 191 = .ok (.ireturn, 1) := by decide +kernel
theorem dX7_carriesOut_192 : decode cX7_carriesOut 192 = .ok (.aload_n 0, 1) := by decide +kernel
theorem dX7_carriesOut_193 : decode cX7_carriesOut 193 = .ok (.aload_n 0, 1) := by decide +kernel
theorem dX7_carriesOut_194 : decode cX7_carriesOut 194 = .ok (.getfield 29, 3) := by decide +kernel
theorem dX7_carriesOut_197 : decode cX7_carriesOut 197 = .ok (.iconst 1, 1) := by decide +kernel
theorem dX7_carriesOut_198 : decode cX7_carriesOut 198 = .ok (.iaload, 1) := by decide +kernel
theorem dX7_carriesOut_199 : decode cX7_carriesOut 199 = .ok (.iconst 1, 1) := by decide +kernel
theorem dX7_carriesOut_200 : decode cX7_carriesOut 200 = .ok (.if_icmp .ne 7, 3) := by decide +kernel
theorem dX7_carriesOut_203 : decode cX7_carriesOut 203 = .ok (.iconst 1, 1) := by decide +kernel
theorem dX7_carriesOut_204 : decode cX7_carriesOut 204 = .ok (.goto 4, 3) := by decide +kernel
theorem dX7_carriesOut_207 : decode cX7_carriesOut 207 = .ok (.iconst 0, 1) := by decide +kernel
theorem dX7_carriesOut_208 : decode cX7_carriesOut 208 = .ok (.invokevirtual 60, 3) := by decide +kernel
theorem dX7_carriesOut_211 : decode cX7_carriesOut 211 = .ok (.istore_n 1, 1) := by decide +kernel
theorem dX7_carriesOut_212 : decode cX7_carriesOut 212 = .ok (.iconst 1, 1) := by decide +kernel
theorem dX7_carriesOut_213 : decode cX7_carriesOut 213 = .ok (.ireturn, 1) := by decide +kernel
theorem dX7_run_0 : decode cX7_run 0 = .ok (.aload_n 0, 1) := by decide +kernel
theorem dX7_run_1 : decode cX7_run 1 = .ok (.invokevirtual 173, 3) := by decide +kernel
theorem dX7_run_4 : decode cX7_run 4 = .ok (.ifCond .ne 6, 3) := by decide +kernel
theorem dX7_run_7 : decode cX7_run 7 = .ok (.bipush (-3), 2) := by decide +kernel
theorem dX7_run_9 : decode cX7_run 9 = .ok (.ireturn, 1) := by decide +kernel
theorem dX7_run_10 : decode cX7_run 10 = .ok (.aload_n 0, 1) := by decide +kernel
theorem dX7_run_11 : decode cX7_run 11 = .ok (.invokevirtual 49, 3) := by decide +kernel
theorem dX7_run_14 : decode cX7_run 14 = .ok (.aload_n 0, 1) := by decide +kernel
theorem dX7_run_15 : decode cX7_run 15 = .ok (.iconst 0, 1) := by decide +kernel
theorem dX7_run_16 : decode cX7_run 16 = .ok (.putfield 154, 3) := by decide +kernel
theorem dX7_run_19 : decode cX7_run 19 = .ok (.iconst 0, 1) := by decide +kernel
theorem dX7_run_20 : decode cX7_run 20 = .ok (.istore_n 1, 1) := by decide +kernel
theorem dX7_run_21 : decode cX7_run 21 = .ok (.aload_n 0, 1) := by decide +kernel
theorem dX7_run_22 : decode cX7_run 22 = .ok (.getfield 154, 3) := by decide +kernel
theorem dX7_run_25 : decode cX7_run 25 = .ok (.aload_n 0, 1) := by decide +kernel
theorem dX7_run_26 : decode cX7_run 26 = .ok (.getfield 151, 3) := by decide +kernel
theorem dX7_run_29 : decode cX7_run 29 = .ok (.if_icmp .ge 40, 3) := by decide +kernel
theorem dX7_run_32 : decode cX7_run 32 = .ok (.aload_n 0, 1) := by decide +kernel
theorem dX7_run_33 : decode cX7_run 33 = .ok (.invokevirtual 169, 3) := by decide +kernel
theorem dX7_run_36 : decode cX7_run 36 = .ok (.ifCond .eq 16, 3) := by decide +kernel
theorem dX7_run_39 : decode cX7_run 39 = .ok (.aload_n 0, 1) := by decide +kernel
theorem dX7_run_40 : decode cX7_run 40 = .ok (.bipush 59, 2) := by decide +kernel
theorem dX7_run_42 : decode cX7_run 42 = .ok (.invokevirtual 163, 3) := by decide +kernel
theorem dX7_run_45 : decode cX7_run 45 = .ok (.ifCond .eq 7, 3) := by decide +kernel
theorem dX7_run_48 : decode cX7_run 48 = .ok (.iconst 1, 1) := by decide +kernel
theorem dX7_run_49 : decode cX7_run 49 = .ok (.goto 4, 3) := by decide +kernel
theorem dX7_run_52 : decode cX7_run 52 = .ok (.iconst 0, 1) := by decide +kernel
theorem dX7_run_53 : decode cX7_run 53 = .ok (.istore_n 2, 1) := by decide +kernel
theorem dX7_run_54 : decode cX7_run 54 = .ok (.aload_n 0, 1) := by decide +kernel
theorem dX7_run_55 : decode cX7_run 55 = .ok (.invokevirtual 176, 3) := by decide +kernel
theorem dX7_run_58 : decode cX7_run 58 = .ok (.ifCond .ne 5, 3) := by decide +kernel
theorem dX7_run_61 : decode cX7_run 61 = .ok (.iload_n 1, 1) := by decide +kernel
theorem dX7_run_62 : decode cX7_run 62 = .ok (.ireturn, 1) := by decide +kernel
theorem dX7_run_63 : decode cX7_run 63 = .ok (.iinc 1 1, 3) := by decide +kernel
theorem dX7_run_66 : decode cX7_run 66 = .ok (.goto (-45), 3) := by decide +kernel
theorem dX7_run_69 : decode cX7_run 69 = .ok (.iload_n 1, 1) := by decide +kernel
theorem dX7_run_70 : decode cX7_run 70 = .ok (.ireturn, 1) := by decide +kernel
theorem dX7_undo_0 : decode cX7_undo 0 = .ok (.aload_n 0, 1) := by decide +kernel
theorem dX7_undo_1 : decode cX7_undo 1 = .ok (.getfield 45, 3) := by decide +kernel
theorem dX7_undo_4 : decode cX7_undo 4 = .ok (.ifCond .ne 6, 3) := by decide +kernel
theorem dX7_undo_7 : decode cX7_undo 7 = .ok (.bipush (-3), 2) := by decide +kernel
theorem dX7_undo_9 : decode cX7_undo 9 = .ok (.ireturn, 1) := by decide +kernel
theorem dX7_undo_10 : decode cX7_undo 10 = .ok (.aload_n 0, 1) := by decide +kernel
theorem dX7_undo_11 : decode cX7_undo 11 = .ok (.dup, 1) := by decide +kernel
theorem dX7_undo_12 : decode cX7_undo 12 = .ok (.getfield 45, 3) := by decide +kernel
theorem dX7_undo_15 : decode cX7_undo 15 = .ok (.iconst 1, 1) := by decide +kernel
theorem dX7_undo_16 : decode cX7_undo 16 = .ok (.isub, 1) := by decide +kernel
theorem dX7_undo_17 : decode cX7_undo 17 = .ok (.putfield 45, 3) := by decide +kernel
theorem dX7_undo_20 : decode cX7_undo 20 = .ok (.iconst 0, 1) := by decide +kernel
theorem dX7_undo_21 : decode cX7_undo 21 = .ok (.istore_n 1, 1) := by decide +kernel
theorem dX7_undo_22 : decode cX7_undo 22 = .ok (.iload_n 1, 1) := by decide +kernel
theorem dX7_undo_23 : decode cX7_undo 23 = .ok (.sipush 154, 3) := by decide +kernel
theorem dX7_undo_26 : decode cX7_undo 26 = .ok (.if_icmp .ge 30, 3) := by decide +kernel
theorem dX7_undo_29 : decode cX7_undo 29 = .ok (.aload_n 0, 1) := by decide +kernel
theorem dX7_undo_30 : decode cX7_undo 30 = .ok (.getfield 7, 3) := by decide +kernel
theorem dX7_undo_33 : decode cX7_undo 33 = .ok (.iload_n 1, 1) := by decide +kernel
theorem dX7_undo_34 : decode cX7_undo 34 = .ok (.aload_n 0, 1) := by decide +kernel
theorem dX7_undo_35 : decode cX7_undo 35 = .ok (.getfield 13, 3) := by decide +kernel
theorem dX7_undo_38 : decode cX7_undo 38 = .ok (.sipush 154, 3) := by decide +kernel
theorem dX7_undo_41 : decode cX7_undo 41 = .ok (.aload_n 0, 1) := by decide +kernel
theorem dX7_undo_42 : decode cX7_undo 42 = .ok (.getfield 45, 3) := by decide +kernel
theorem dX7_undo_45 : decode cX7_undo 45 = .ok (.imul, 1) := by decide +kernel
theorem dX7_undo_46 : decode cX7_undo 46 = .ok (.iload_n 1, 1) := by decide +kernel
theorem dX7_undo_47 : decode cX7_undo 47 = .ok (.iadd, 1) := by decide +kernel
theorem dX7_undo_48 : decode cX7_undo 48 = .ok (.iaload, 1) := by decide +kernel
theorem dX7_undo_49 : decode cX7_undo 49 = .ok (.iastore, 1) := by decide +kernel
theorem dX7_undo_50 : decode cX7_undo 50 = .ok (.iinc 1 1, 3) := by decide +kernel
theorem dX7_undo_53 : decode cX7_undo 53 = .ok (.goto (-31), 3) := by decide +kernel
theorem dX7_undo_56 : decode cX7_undo 56 = .ok (.aload_n 0, 1) := by decide +kernel
theorem dX7_undo_57 : decode cX7_undo 57 = .ok (.getfield 45, 3) := by decide +kernel
theorem dX7_undo_60 : decode cX7_undo 60 = .ok (.ireturn, 1) := by decide +kernel
theorem dX7_keep_0 : decode cX7_keep 0 = .ok (.iload_n 1, 1) := by decide +kernel
theorem dX7_keep_1 : decode cX7_keep 1 = .ok (.iconst 0, 1) := by decide +kernel
theorem dX7_keep_2 : decode cX7_keep 2 = .ok (.iconst 1, 1) := by decide +kernel
theorem dX7_keep_3 : decode cX7_keep 3 = .ok (.invokestatic 41, 3) := by decide +kernel
theorem dX7_keep_6 : decode cX7_keep 6 = .ok (.ifCond .ne 5, 3) := by decide +kernel
theorem dX7_keep_9 : decode cX7_keep 9 = .ok (.iconst (-1), 1) := by decide +kernel
theorem dX7_keep_10 : decode cX7_keep 10 = .ok (.ireturn, 1) := by decide +kernel
theorem dX7_keep_11 : decode cX7_keep 11 = .ok (.iconst 0, 1) := by decide +kernel
theorem dX7_keep_12 : decode cX7_keep 12 = .ok (.istore_n 2, 1) := by decide +kernel
theorem dX7_keep_13 : decode cX7_keep 13 = .ok (.iload_n 2, 1) := by decide +kernel
theorem dX7_keep_14 : decode cX7_keep 14 = .ok (.sipush 154, 3) := by decide +kernel
theorem dX7_keep_17 : decode cX7_keep 17 = .ok (.if_icmp .ge 27, 3) := by decide +kernel
theorem dX7_keep_20 : decode cX7_keep 20 = .ok (.aload_n 0, 1) := by decide +kernel
theorem dX7_keep_21 : decode cX7_keep 21 = .ok (.getfield 19, 3) := by decide +kernel
theorem dX7_keep_24 : decode cX7_keep 24 = .ok (.sipush 154, 3) := by decide +kernel
theorem dX7_keep_27 : decode cX7_keep 27 = .ok (.iload_n 1, 1) := by decide +kernel
theorem dX7_keep_28 : decode cX7_keep 28 = .ok (.imul, 1) := by decide +kernel
theorem dX7_keep_29 : decode cX7_keep 29 = .ok (.iload_n 2, 1) := by decide +kernel
theorem dX7_keep_30 : decode cX7_keep 30 = .ok (.iadd, 1) := by decide +kernel
theorem dX7_keep_31 : decode cX7_keep 31 = .ok (.aload_n 0, 1) := by decide +kernel
theorem dX7_keep_32 : decode cX7_keep 32 = .ok (.getfield 7, 3) := by decide +kernel
theorem dX7_keep_35 : decode cX7_keep 35 = .ok (.iload_n 2, 1) := by decide +kernel
theorem dX7_keep_36 : decode cX7_keep 36 = .ok (.iaload, 1) := by decide +kernel
theorem dX7_keep_37 : decode cX7_keep 37 = .ok (.iastore, 1) := by decide +kernel
theorem dX7_keep_38 : decode cX7_keep 38 = .ok (.iinc 2 1, 3) := by decide +kernel
theorem dX7_keep_41 : decode cX7_keep 41 = .ok (.goto (-28), 3) := by decide +kernel
theorem dX7_keep_44 : decode cX7_keep 44 = .ok (.aload_n 0, 1) := by decide +kernel
theorem dX7_keep_45 : decode cX7_keep 45 = .ok (.getfield 22, 3) := by decide +kernel
theorem dX7_keep_48 : decode cX7_keep 48 = .ok (.iload_n 1, 1) := by decide +kernel
theorem dX7_keep_49 : decode cX7_keep 49 = .ok (.iconst 1, 1) := by decide +kernel
theorem dX7_keep_50 : decode cX7_keep 50 = .ok (.bastore, 1) := by decide +kernel
theorem dX7_keep_51 : decode cX7_keep 51 = .ok (.aload_n 0, 1) := by decide +kernel
theorem dX7_keep_52 : decode cX7_keep 52 = .ok (.getfield 7, 3) := by decide +kernel
theorem dX7_keep_55 : decode cX7_keep 55 = .ok (.iconst 0, 1) := by decide +kernel
theorem dX7_keep_56 : decode cX7_keep 56 = .ok (.iaload, 1) := by decide +kernel
theorem dX7_keep_57 : decode cX7_keep 57 = .ok (.ireturn, 1) := by decide +kernel
theorem dX7_restore_0 : decode cX7_restore 0 = .ok (.iload_n 1, 1) := by decide +kernel
theorem dX7_restore_1 : decode cX7_restore 1 = .ok (.iconst 0, 1) := by decide +kernel
theorem dX7_restore_2 : decode cX7_restore 2 = .ok (.iconst 1, 1) := by decide +kernel
theorem dX7_restore_3 : decode cX7_restore 3 = .ok (.invokestatic 41, 3) := by decide +kernel
theorem dX7_restore_6 : decode cX7_restore 6 = .ok (.ifCond .ne 5, 3) := by decide +kernel
theorem dX7_restore_9 : decode cX7_restore 9 = .ok (.iconst (-1), 1) := by decide +kernel
theorem dX7_restore_10 : decode cX7_restore 10 = .ok (.ireturn, 1) := by decide +kernel
theorem dX7_restore_11 : decode cX7_restore 11 = .ok (.aload_n 0, 1) := by decide +kernel
theorem dX7_restore_12 : decode cX7_restore 12 = .ok (.getfield 22, 3) := by decide +kernel
theorem dX7_restore_15 : decode cX7_restore 15 = .ok (.iload_n 1, 1) := by decide +kernel
theorem dX7_restore_16 : decode cX7_restore 16 = .ok (.baload, 1) := by decide +kernel
theorem dX7_restore_17 : decode cX7_restore 17 = .ok (.ifCond .ne 6, 3) := by decide +kernel
theorem dX7_restore_20 : decode cX7_restore 20 = .ok (.bipush (-3), 2) := by decide +kernel
theorem dX7_restore_22 : decode cX7_restore 22 = .ok (.ireturn, 1) := by decide +kernel
theorem dX7_restore_23 : decode cX7_restore 23 = .ok (.aload_n 0, 1) := by decide +kernel
theorem dX7_restore_24 : decode cX7_restore 24 = .ok (.invokevirtual 49, 3) := by decide +kernel
theorem dX7_restore_27 : decode cX7_restore 27 = .ok (.iconst 0, 1) := by decide +kernel
theorem dX7_restore_28 : decode cX7_restore 28 = .ok (.istore_n 2, 1) := by decide +kernel
theorem dX7_restore_29 : decode cX7_restore 29 = .ok (.iload_n 2, 1) := by decide +kernel
theorem dX7_restore_30 : decode cX7_restore 30 = .ok (.sipush 154, 3) := by decide +kernel
theorem dX7_restore_33 : decode cX7_restore 33 = .ok (.if_icmp .ge 27, 3) := by decide +kernel
theorem dX7_restore_36 : decode cX7_restore 36 = .ok (.aload_n 0, 1) := by decide +kernel
theorem dX7_restore_37 : decode cX7_restore 37 = .ok (.getfield 7, 3) := by decide +kernel
theorem dX7_restore_40 : decode cX7_restore 40 = .ok (.iload_n 2, 1) := by decide +kernel
theorem dX7_restore_41 : decode cX7_restore 41 = .ok (.aload_n 0, 1) := by decide +kernel
theorem dX7_restore_42 : decode cX7_restore 42 = .ok (.getfield 19, 3) := by decide +kernel
theorem dX7_restore_45 : decode cX7_restore 45 = .ok (.sipush 154, 3) := by decide +kernel
theorem dX7_restore_48 : decode cX7_restore 48 = .ok (.iload_n 1, 1) := by decide +kernel
theorem dX7_restore_49 : decode cX7_restore 49 = .ok (.imul, 1) := by decide +kernel
theorem dX7_restore_50 : decode cX7_restore 50 = .ok (.iload_n 2, 1) := by decide +kernel
theorem dX7_restore_51 : decode cX7_restore 51 = .ok (.iadd, 1) := by decide +kernel
theorem dX7_restore_52 : decode cX7_restore 52 = .ok (.iaload, 1) := by decide +kernel
theorem dX7_restore_53 : decode cX7_restore 53 = .ok (.iastore, 1) := by decide +kernel
theorem dX7_restore_54 : decode cX7_restore 54 = .ok (.iinc 2 1, 3) := by decide +kernel
theorem dX7_restore_57 : decode cX7_restore 57 = .ok (.goto (-28), 3) := by decide +kernel
theorem dX7_restore_60 : decode cX7_restore 60 = .ok (.aload_n 0, 1) := by decide +kernel
theorem dX7_restore_61 : decode cX7_restore 61 = .ok (.getfield 7, 3) := by decide +kernel
theorem dX7_restore_64 : decode cX7_restore 64 = .ok (.iconst 0, 1) := by decide +kernel
theorem dX7_restore_65 : decode cX7_restore 65 = .ok (.iaload, 1) := by decide +kernel
theorem dX7_restore_66 : decode cX7_restore 66 = .ok (.ireturn, 1) := by decide +kernel
theorem dX7_more_0 : decode cX7_more 0 = .ok (.ldc2_w 179, 3) := by decide +kernel
theorem dX7_more_3 : decode cX7_more 3 = .ok (.lload_n 0, 1) := by decide +kernel
theorem dX7_more_4 : decode cX7_more 4 = .ok (.lmul, 1) := by decide +kernel
theorem dX7_more_5 : decode cX7_more 5 = .ok (.iload_n 2, 1) := by decide +kernel
theorem dX7_more_6 : decode cX7_more 6 = .ok (.i2l, 1) := by decide +kernel
theorem dX7_more_7 : decode cX7_more 7 = .ok (.ladd, 1) := by decide +kernel
theorem dX7_more_8 : decode cX7_more 8 = .ok (.lreturn, 1) := by decide +kernel
theorem dX7_checksum_0 : decode cX7_checksum 0 = .ok (.ldc2_w 181, 3) := by decide +kernel
theorem dX7_checksum_3 : decode cX7_checksum 3 = .ok (.lstore_n 1, 1) := by decide +kernel
theorem dX7_checksum_4 : decode cX7_checksum 4 = .ok (.iconst 0, 1) := by decide +kernel
theorem dX7_checksum_5 : decode cX7_checksum 5 = .ok (.istore_n 3, 1) := by decide +kernel
theorem dX7_checksum_6 : decode cX7_checksum 6 = .ok (.iload_n 3, 1) := by decide +kernel
theorem dX7_checksum_7 : decode cX7_checksum 7 = .ok (.bipush 18, 2) := by decide +kernel
theorem dX7_checksum_9 : decode cX7_checksum 9 = .ok (.if_icmp .ge 19, 3) := by decide +kernel
theorem dX7_checksum_12 : decode cX7_checksum 12 = .ok (.lload_n 1, 1) := by decide +kernel
theorem dX7_checksum_13 : decode cX7_checksum 13 = .ok (.aload_n 0, 1) := by decide +kernel
theorem dX7_checksum_14 : decode cX7_checksum 14 = .ok (.iload_n 3, 1) := by decide +kernel
theorem dX7_checksum_15 : decode cX7_checksum 15 = .ok (.invokevirtual 122, 3) := by decide +kernel
theorem dX7_checksum_18 : decode cX7_checksum 18 = .ok (.invokestatic 183, 3) := by decide +kernel
theorem dX7_checksum_21 : decode cX7_checksum 21 = .ok (.lstore_n 1, 1) := by decide +kernel
theorem dX7_checksum_22 : decode cX7_checksum 22 = .ok (.iinc 3 1, 3) := by decide +kernel
theorem dX7_checksum_25 : decode cX7_checksum 25 = .ok (.goto (-19), 3) := by decide +kernel
theorem dX7_checksum_28 : decode cX7_checksum 28 = .ok (.iconst 0, 1) := by decide +kernel
theorem dX7_checksum_29 : decode cX7_checksum 29 = .ok (.istore_n 3, 1) := by decide +kernel
theorem dX7_checksum_30 : decode cX7_checksum 30 = .ok (.iload_n 3, 1) := by decide +kernel
theorem dX7_checksum_31 : decode cX7_checksum 31 = .ok (.aload_n 0, 1) := by decide +kernel
theorem dX7_checksum_32 : decode cX7_checksum 32 = .ok (.getfield 7, 3) := by decide +kernel
theorem dX7_checksum_35 : decode cX7_checksum 35 = .ok (.iconst 3, 1) := by decide +kernel
theorem dX7_checksum_36 : decode cX7_checksum 36 = .ok (.iaload, 1) := by decide +kernel
theorem dX7_checksum_37 : decode cX7_checksum 37 = .ok (.if_icmp .ge 55, 3) := by decide +kernel
theorem dX7_checksum_40 : decode cX7_checksum 40 = .ok (.iconst 0, 1) := by decide +kernel
theorem dX7_checksum_41 : decode cX7_checksum 41 = .ok (.istore 4, 2) := by decide +kernel
theorem dX7_checksum_43 : decode cX7_checksum 43 = .ok (.iload 4, 2) := by decide +kernel
theorem dX7_checksum_45 : decode cX7_checksum 45 = .ok (.bipush 8, 2) := by decide +kernel
theorem dX7_checksum_47 : decode cX7_checksum 47 = .ok (.if_icmp .ge 21, 3) := by decide +kernel
theorem dX7_checksum_50 : decode cX7_checksum 50 = .ok (.lload_n 1, 1) := by decide +kernel
theorem dX7_checksum_51 : decode cX7_checksum 51 = .ok (.aload_n 0, 1) := by decide +kernel
theorem dX7_checksum_52 : decode cX7_checksum 52 = .ok (.iload_n 3, 1) := by decide +kernel
theorem dX7_checksum_53 : decode cX7_checksum 53 = .ok (.iload 4, 2) := by decide +kernel
theorem dX7_checksum_55 : decode cX7_checksum 55 = .ok (.invokevirtual 116, 3) := by decide +kernel
theorem dX7_checksum_58 : decode cX7_checksum 58 = .ok (.invokestatic 183, 3) := by decide +kernel
theorem dX7_checksum_61 : decode cX7_checksum 61 = .ok (.lstore_n 1, 1) := by decide +kernel
theorem dX7_checksum_62 : decode cX7_checksum 62 = .ok (.iinc 4 1, 3) := by decide +kernel
theorem dX7_checksum_65 : decode cX7_checksum 65 = .ok (.goto (-22), 3) := by decide +kernel
theorem dX7_checksum_68 : decode cX7_checksum 68 = .ok (.lload_n 1, 1) := by decide +kernel
theorem dX7_checksum_69 : decode cX7_checksum 69 = .ok (.aload_n 0, 1) := by decide +kernel
theorem dX7_checksum_70 : decode cX7_checksum 70 = .ok (.iload_n 3, 1) := by decide +kernel
theorem dX7_checksum_71 : decode cX7_checksum 71 = .ok (.invokevirtual 125, 3) := by decide +kernel
theorem dX7_checksum_74 : decode cX7_checksum 74 = .ok (.invokestatic 183, 3) := by decide +kernel
theorem dX7_checksum_77 : decode cX7_checksum 77 = .ok (.aload_n 0, 1) := by decide +kernel
theorem dX7_checksum_78 : decode cX7_checksum 78 = .ok (.iload_n 3, 1) := by decide +kernel
theorem dX7_checksum_79 : decode cX7_checksum 79 = .ok (.invokevirtual 148, 3) := by decide +kernel
theorem dX7_checksum_82 : decode cX7_checksum 82 = .ok (.invokestatic 183, 3) := by decide +kernel
theorem dX7_checksum_85 : decode cX7_checksum 85 = .ok (.lstore_n 1, 1) := by decide +kernel
theorem dX7_checksum_86 : decode cX7_checksum 86 = .ok (.iinc 3 1, 3) := by decide +kernel
theorem dX7_checksum_89 : decode cX7_checksum 89 = .ok (.goto (-59), 3) := by decide +kernel
theorem dX7_checksum_92 : decode cX7_checksum 92 = .ok (.iconst 0, 1) := by decide +kernel
theorem dX7_checksum_93 : decode cX7_checksum 93 = .ok (.istore_n 3, 1) := by decide +kernel
theorem dX7_checksum_94 : decode cX7_checksum 94 = .ok (.iload_n 3, 1) := by decide +kernel
theorem dX7_checksum_95 : decode cX7_checksum 95 = .ok (.aload_n 0, 1) := by decide +kernel
theorem dX7_checksum_96 : decode cX7_checksum 96 = .ok (.getfield 7, 3) := by decide +kernel
theorem dX7_checksum_99 : decode cX7_checksum 99 = .ok (.iconst 1, 1) := by decide +kernel
theorem dX7_checksum_100 : decode cX7_checksum 100 = .ok (.iaload, 1) := by decide +kernel
theorem dX7_checksum_101 : decode cX7_checksum 101 = .ok (.if_icmp .ge 19, 3) := by decide +kernel
theorem dX7_checksum_104 : decode cX7_checksum 104 = .ok (.lload_n 1, 1) := by decide +kernel
theorem dX7_checksum_105 : decode cX7_checksum 105 = .ok (.aload_n 0, 1) := by decide +kernel
theorem dX7_checksum_106 : decode cX7_checksum 106 = .ok (.iload_n 3, 1) := by decide +kernel
theorem dX7_checksum_107 : decode cX7_checksum 107 = .ok (.invokevirtual 68, 3) := by decide +kernel
theorem dX7_checksum_110 : decode cX7_checksum 110 = .ok (.invokestatic 183, 3) := by decide +kernel
theorem dX7_checksum_113 : decode cX7_checksum 113 = .ok (.lstore_n 1, 1) := by decide +kernel
theorem dX7_checksum_114 : decode cX7_checksum 114 = .ok (.iinc 3 1, 3) := by decide +kernel
theorem dX7_checksum_117 : decode cX7_checksum 117 = .ok (.goto (-23), 3) := by decide +kernel
theorem dX7_checksum_120 : decode cX7_checksum 120 = .ok (.lload_n 1, 1) := by decide +kernel
theorem dX7_checksum_121 : decode cX7_checksum 121 = .ok (.lreturn, 1) := by decide +kernel

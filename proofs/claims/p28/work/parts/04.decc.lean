theorem dX6_init_0 : decode cX6_init 0 = .ok (.aload_n 0, 1) := by decide +kernel
theorem dX6_init_1 : decode cX6_init 1 = .ok (.invokespecial 1, 3) := by decide +kernel
theorem dX6_init_4 : decode cX6_init 4 = .ok (.aload_n 0, 1) := by decide +kernel
theorem dX6_init_5 : decode cX6_init 5 = .ok (.new 7, 3) := by decide +kernel
theorem dX6_init_8 : decode cX6_init 8 = .ok (.dup, 1) := by decide +kernel
theorem dX6_init_9 : decode cX6_init 9 = .ok (.invokespecial 9, 3) := by decide +kernel
theorem dX6_init_12 : decode cX6_init 12 = .ok (.putfield 10, 3) := by decide +kernel
theorem dX6_init_15 : decode cX6_init 15 = .ok (.aload_n 0, 1) := by decide +kernel
theorem dX6_init_16 : decode cX6_init 16 = .ok (.new 7, 3) := by decide +kernel
theorem dX6_init_19 : decode cX6_init 19 = .ok (.dup, 1) := by decide +kernel
theorem dX6_init_20 : decode cX6_init 20 = .ok (.invokespecial 9, 3) := by decide +kernel
theorem dX6_init_23 : decode cX6_init 23 = .ok (.putfield 16, 3) := by decide +kernel
theorem dX6_init_26 : decode cX6_init 26 = .ok (.aload_n 0, 1) := by decide +kernel
theorem dX6_init_27 : decode cX6_init 27 = .ok (.new 19, 3) := by decide +kernel
theorem dX6_init_30 : decode cX6_init 30 = .ok (.dup, 1) := by decide +kernel
theorem dX6_init_31 : decode cX6_init 31 = .ok (.invokespecial 21, 3) := by decide +kernel
theorem dX6_init_34 : decode cX6_init 34 = .ok (.putfield 22, 3) := by decide +kernel
theorem dX6_init_37 : decode cX6_init 37 = .ok (.aload_n 0, 1) := by decide +kernel
theorem dX6_init_38 : decode cX6_init 38 = .ok (.new 26, 3) := by decide +kernel
theorem dX6_init_41 : decode cX6_init 41 = .ok (.dup, 1) := by decide +kernel
theorem dX6_init_42 : decode cX6_init 42 = .ok (.invokespecial 28, 3) := by decide +kernel
theorem dX6_init_45 : decode cX6_init 45 = .ok (.putfield 29, 3) := by decide +kernel
theorem dX6_init_48 : decode cX6_init 48 = .ok (.aload_n 0, 1) := by decide +kernel
theorem dX6_init_49 : decode cX6_init 49 = .ok (.new 33, 3) := by decide +kernel
theorem dX6_init_52 : decode cX6_init 52 = .ok (.dup, 1) := by decide +kernel
theorem dX6_init_53 : decode cX6_init 53 = .ok (.invokespecial 35, 3) := by decide +kernel
theorem dX6_init_56 : decode cX6_init 56 = .ok (.putfield 36, 3) := by decide +kernel
theorem dX6_init_59 : decode cX6_init 59 = .ok (.return_, 1) := by decide +kernel
theorem dX6_begin_0 : decode cX6_begin 0 = .ok (.iload_n 1, 1) := by decide +kernel
theorem dX6_begin_1 : decode cX6_begin 1 = .ok (.iconst 4, 1) := by decide +kernel
theorem dX6_begin_2 : decode cX6_begin 2 = .ok (.if_icmp .lt 9, 3) := by decide +kernel
theorem dX6_begin_5 : decode cX6_begin 5 = .ok (.iload_n 1, 1) := by decide +kernel
theorem dX6_begin_6 : decode cX6_begin 6 = .ok (.bipush 16, 2) := by decide +kernel
theorem dX6_begin_8 : decode cX6_begin 8 = .ok (.if_icmp .le 6, 3) := by decide +kernel
theorem dX6_begin_11 : decode cX6_begin 11 = .ok (.bipush (-2), 2) := by decide +kernel
theorem dX6_begin_13 : decode cX6_begin 13 = .ok (.ireturn, 1) := by decide +kernel
theorem dX6_begin_14 : decode cX6_begin 14 = .ok (.aload_n 0, 1) := by decide +kernel
theorem dX6_begin_15 : decode cX6_begin 15 = .ok (.getfield 22, 3) := by decide +kernel
theorem dX6_begin_18 : decode cX6_begin 18 = .ok (.aload_n 0, 1) := by decide +kernel
theorem dX6_begin_19 : decode cX6_begin 19 = .ok (.getfield 10, 3) := by decide +kernel
theorem dX6_begin_22 : decode cX6_begin 22 = .ok (.invokevirtual 40, 3) := by decide +kernel
theorem dX6_begin_25 : decode cX6_begin 25 = .ok (.aload_n 0, 1) := by decide +kernel
theorem dX6_begin_26 : decode cX6_begin 26 = .ok (.getfield 10, 3) := by decide +kernel
theorem dX6_begin_29 : decode cX6_begin 29 = .ok (.getfield 44, 3) := by decide +kernel
theorem dX6_begin_32 : decode cX6_begin 32 = .ok (.istore_n 2, 1) := by decide +kernel
theorem dX6_begin_33 : decode cX6_begin 33 = .ok (.aload_n 0, 1) := by decide +kernel
theorem dX6_begin_34 : decode cX6_begin 34 = .ok (.getfield 10, 3) := by decide +kernel
theorem dX6_begin_37 : decode cX6_begin 37 = .ok (.iload_n 1, 1) := by decide +kernel
theorem dX6_begin_38 : decode cX6_begin 38 = .ok (.invokevirtual 48, 3) := by decide +kernel
theorem dX6_begin_41 : decode cX6_begin 41 = .ok (.iload_n 2, 1) := by decide +kernel
theorem dX6_begin_42 : decode cX6_begin 42 = .ok (.ireturn, 1) := by decide +kernel
theorem dX6_setLap_0 : decode cX6_setLap 0 = .ok (.iload_n 1, 1) := by decide +kernel
theorem dX6_setLap_1 : decode cX6_setLap 1 = .ok (.iconst 2, 1) := by decide +kernel
theorem dX6_setLap_2 : decode cX6_setLap 2 = .ok (.if_icmp .lt 9, 3) := by decide +kernel
theorem dX6_setLap_5 : decode cX6_setLap 5 = .ok (.iload_n 1, 1) := by decide +kernel
theorem dX6_setLap_6 : decode cX6_setLap 6 = .ok (.bipush 8, 2) := by decide +kernel
theorem dX6_setLap_8 : decode cX6_setLap 8 = .ok (.if_icmp .le 6, 3) := by decide +kernel
theorem dX6_setLap_11 : decode cX6_setLap 11 = .ok (.bipush (-2), 2) := by decide +kernel
theorem dX6_setLap_13 : decode cX6_setLap 13 = .ok (.ireturn, 1) := by decide +kernel
theorem dX6_setLap_14 : decode cX6_setLap 14 = .ok (.aload_n 0, 1) := by decide +kernel
theorem dX6_setLap_15 : decode cX6_setLap 15 = .ok (.getfield 22, 3) := by decide +kernel
theorem dX6_setLap_18 : decode cX6_setLap 18 = .ok (.aload_n 0, 1) := by decide +kernel
theorem dX6_setLap_19 : decode cX6_setLap 19 = .ok (.getfield 10, 3) := by decide +kernel
theorem dX6_setLap_22 : decode cX6_setLap 22 = .ok (.invokevirtual 40, 3) := by decide +kernel
theorem dX6_setLap_25 : decode cX6_setLap 25 = .ok (.aload_n 0, 1) := by decide +kernel
theorem dX6_setLap_26 : decode cX6_setLap 26 = .ok (.getfield 10, 3) := by decide +kernel
theorem dX6_setLap_29 : decode cX6_setLap 29 = .ok (.getfield 52, 3) := by decide +kernel
theorem dX6_setLap_32 : decode cX6_setLap 32 = .ok (.istore_n 2, 1) := by decide +kernel
theorem dX6_setLap_33 : decode cX6_setLap 33 = .ok (.aload_n 0, 1) := by decide +kernel
theorem dX6_setLap_34 : decode cX6_setLap 34 = .ok (.getfield 10, 3) := by decide +kernel
theorem dX6_setLap_37 : decode cX6_setLap 37 = .ok (.iload_n 1, 1) := by decide +kernel
theorem dX6_setLap_38 : decode cX6_setLap 38 = .ok (.invokevirtual 55, 3) := by decide +kernel
theorem dX6_setLap_41 : decode cX6_setLap 41 = .ok (.iload_n 2, 1) := by decide +kernel
theorem dX6_setLap_42 : decode cX6_setLap 42 = .ok (.ireturn, 1) := by decide +kernel
theorem dX6_setLimit_0 : decode cX6_setLimit 0 = .ok (.iload_n 1, 1) := by decide +kernel
theorem dX6_setLimit_1 : decode cX6_setLimit 1 = .ok (.iconst 1, 1) := by decide +kernel
theorem dX6_setLimit_2 : decode cX6_setLimit 2 = .ok (.if_icmp .lt 9, 3) := by decide +kernel
theorem dX6_setLimit_5 : decode cX6_setLimit 5 = .ok (.iload_n 1, 1) := by decide +kernel
theorem dX6_setLimit_6 : decode cX6_setLimit 6 = .ok (.bipush 16, 2) := by decide +kernel
theorem dX6_setLimit_8 : decode cX6_setLimit 8 = .ok (.if_icmp .le 6, 3) := by decide +kernel
theorem dX6_setLimit_11 : decode cX6_setLimit 11 = .ok (.bipush (-2), 2) := by decide +kernel
theorem dX6_setLimit_13 : decode cX6_setLimit 13 = .ok (.ireturn, 1) := by decide +kernel
theorem dX6_setLimit_14 : decode cX6_setLimit 14 = .ok (.aload_n 0, 1) := by decide +kernel
theorem dX6_setLimit_15 : decode cX6_setLimit 15 = .ok (.getfield 22, 3) := by decide +kernel
theorem dX6_setLimit_18 : decode cX6_setLimit 18 = .ok (.aload_n 0, 1) := by decide +kernel
theorem dX6_setLimit_19 : decode cX6_setLimit 19 = .ok (.getfield 10, 3) := by decide +kernel
theorem dX6_setLimit_22 : decode cX6_setLimit 22 = .ok (.invokevirtual 40, 3) := by decide +kernel
theorem dX6_setLimit_25 : decode cX6_setLimit 25 = .ok (.aload_n 0, 1) := by decide +kernel
theorem dX6_setLimit_26 : decode cX6_setLimit 26 = .ok (.getfield 10, 3) := by decide +kernel
theorem dX6_setLimit_29 : decode cX6_setLimit 29 = .ok (.getfield 58, 3) := by decide +kernel
theorem dX6_setLimit_32 : decode cX6_setLimit 32 = .ok (.istore_n 2, 1) := by decide +kernel
theorem dX6_setLimit_33 : decode cX6_setLimit 33 = .ok (.aload_n 0, 1) := by decide +kernel
theorem dX6_setLimit_34 : decode cX6_setLimit 34 = .ok (.getfield 10, 3) := by decide +kernel
theorem dX6_setLimit_37 : decode cX6_setLimit 37 = .ok (.iload_n 1, 1) := by decide +kernel
theorem dX6_setLimit_38 : decode cX6_setLimit 38 = .ok (.putfield 58, 3) := by decide +kernel
theorem dX6_setLimit_41 : decode cX6_setLimit 41 = .ok (.iload_n 2, 1) := by decide +kernel
theorem dX6_setLimit_42 : decode cX6_setLimit 42 = .ok (.ireturn, 1) := by decide +kernel
theorem dX6_setRunway_0 : decode cX6_setRunway 0 = .ok (.aload_n 0, 1) := by decide +kernel
theorem dX6_setRunway_1 : decode cX6_setRunway 1 = .ok (.getfield 22, 3) := by decide +kernel
theorem dX6_setRunway_4 : decode cX6_setRunway 4 = .ok (.aload_n 0, 1) := by decide +kernel
theorem dX6_setRunway_5 : decode cX6_setRunway 5 = .ok (.getfield 10, 3) := by decide +kernel
theorem dX6_setRunway_8 : decode cX6_setRunway 8 = .ok (.invokevirtual 40, 3) := by decide +kernel
theorem dX6_setRunway_11 : decode cX6_setRunway 11 = .ok (.aload_n 0, 1) := by decide +kernel
theorem dX6_setRunway_12 : decode cX6_setRunway 12 = .ok (.getfield 10, 3) := by decide +kernel
theorem dX6_setRunway_15 : decode cX6_setRunway 15 = .ok (.getfield 61, 3) := by decide +kernel
theorem dX6_setRunway_18 : decode cX6_setRunway 18 = .ok (.invokestatic 65, 3) := by decide +kernel
theorem dX6_setRunway_21 : decode cX6_setRunway 21 = .ok (.istore_n 2, 1) := by decide +kernel
theorem dX6_setRunway_22 : decode cX6_setRunway 22 = .ok (.aload_n 0, 1) := by decide +kernel
theorem dX6_setRunway_23 : decode cX6_setRunway 23 = .ok (.getfield 10, 3) := by decide +kernel
theorem dX6_setRunway_26 : decode cX6_setRunway 26 = .ok (.iload_n 1, 1) := by decide +kernel
theorem dX6_setRunway_27 : decode cX6_setRunway 27 = .ok (.putfield 61, 3) := by decide +kernel
theorem dX6_setRunway_30 : decode cX6_setRunway 30 = .ok (.iload_n 2, 1) := by decide +kernel
theorem dX6_setRunway_31 : decode cX6_setRunway 31 = .ok (.ireturn, 1) := by decide +kernel
theorem dX6_setLadder_0 : decode cX6_setLadder 0 = .ok (.aload_n 0, 1) := by decide +kernel
theorem dX6_setLadder_1 : decode cX6_setLadder 1 = .ok (.getfield 22, 3) := by decide +kernel
theorem dX6_setLadder_4 : decode cX6_setLadder 4 = .ok (.aload_n 0, 1) := by decide +kernel
theorem dX6_setLadder_5 : decode cX6_setLadder 5 = .ok (.getfield 10, 3) := by decide +kernel
theorem dX6_setLadder_8 : decode cX6_setLadder 8 = .ok (.invokevirtual 40, 3) := by decide +kernel
theorem dX6_setLadder_11 : decode cX6_setLadder 11 = .ok (.aload_n 0, 1) := by decide +kernel
theorem dX6_setLadder_12 : decode cX6_setLadder 12 = .ok (.getfield 10, 3) := by decide +kernel
theorem dX6_setLadder_15 : decode cX6_setLadder 15 = .ok (.getfield 69, 3) := by decide +kernel
theorem dX6_setLadder_18 : decode cX6_setLadder 18 = .ok (.invokestatic 65, 3) := by decide +kernel
theorem dX6_setLadder_21 : decode cX6_setLadder 21 = .ok (.istore_n 2, 1) := by decide +kernel
theorem dX6_setLadder_22 : decode cX6_setLadder 22 = .ok (.aload_n 0, 1) := by decide +kernel
theorem dX6_setLadder_23 : decode cX6_setLadder 23 = .ok (.getfield 10, 3) := by decide +kernel
theorem dX6_setLadder_26 : decode cX6_setLadder 26 = .ok (.iload_n 1, 1) := by decide +kernel
theorem dX6_setLadder_27 : decode cX6_setLadder 27 = .ok (.putfield 69, 3) := by decide +kernel
theorem dX6_setLadder_30 : decode cX6_setLadder 30 = .ok (.iload_n 2, 1) := by decide +kernel
theorem dX6_setLadder_31 : decode cX6_setLadder 31 = .ok (.ireturn, 1) := by decide +kernel
theorem dX6_enter_0 : decode cX6_enter 0 = .ok (.iload_n 1, 1) := by decide +kernel
theorem dX6_enter_1 : decode cX6_enter 1 = .ok (.invokestatic 72, 3) := by decide +kernel
theorem dX6_enter_4 : decode cX6_enter 4 = .ok (.astore 4, 2) := by decide +kernel
theorem dX6_enter_6 : decode cX6_enter 6 = .ok (.aload_n 0, 1) := by decide +kernel
theorem dX6_enter_7 : decode cX6_enter 7 = .ok (.aload 4, 2) := by decide +kernel
theorem dX6_enter_9 : decode cX6_enter 9 = .ok (.iload_n 2, 1) := by decide +kernel
theorem dX6_enter_10 : decode cX6_enter 10 = .ok (.iload_n 3, 1) := by decide +kernel
theorem dX6_enter_11 : decode cX6_enter 11 = .ok (.invokevirtual 78, 3) := by decide +kernel
theorem dX6_enter_14 : decode cX6_enter 14 = .ok (.istore 5, 2) := by decide +kernel
theorem dX6_enter_16 : decode cX6_enter 16 = .ok (.iload 5, 2) := by decide +kernel
theorem dX6_enter_18 : decode cX6_enter 18 = .ok (.ifCond .eq 6, 3) := by decide +kernel
theorem dX6_enter_21 : decode cX6_enter 21 = .ok (.iload 5, 2) := by decide +kernel
theorem dX6_enter_23 : decode cX6_enter 23 = .ok (.ireturn, 1) := by decide +kernel
theorem dX6_enter_24 : decode cX6_enter 24 = .ok (.aload_n 0, 1) := by decide +kernel
theorem dX6_enter_25 : decode cX6_enter 25 = .ok (.getfield 22, 3) := by decide +kernel
theorem dX6_enter_28 : decode cX6_enter 28 = .ok (.aload_n 0, 1) := by decide +kernel
theorem dX6_enter_29 : decode cX6_enter 29 = .ok (.getfield 10, 3) := by decide +kernel
theorem dX6_enter_32 : decode cX6_enter 32 = .ok (.invokevirtual 40, 3) := by decide +kernel
theorem dX6_enter_35 : decode cX6_enter 35 = .ok (.aload_n 0, 1) := by decide +kernel
theorem dX6_enter_36 : decode cX6_enter 36 = .ok (.getfield 10, 3) := by decide +kernel
theorem dX6_enter_39 : decode cX6_enter 39 = .ok (.aload 4, 2) := by decide +kernel
theorem dX6_enter_41 : decode cX6_enter 41 = .ok (.iload_n 2, 1) := by decide +kernel
theorem dX6_enter_42 : decode cX6_enter 42 = .ok (.iload_n 3, 1) := by decide +kernel
theorem dX6_enter_43 : decode cX6_enter 43 = .ok (.invokevirtual 82, 3) := by decide +kernel
theorem dX6_enter_46 : decode cX6_enter 46 = .ok (.ireturn, 1) := by decide +kernel
theorem dX6_call_0 : decode cX6_call 0 = .ok (.aload_n 0, 1) := by decide +kernel
theorem dX6_call_1 : decode cX6_call 1 = .ok (.iload_n 1, 1) := by decide +kernel
theorem dX6_call_2 : decode cX6_call 2 = .ok (.invokevirtual 85, 3) := by decide +kernel
theorem dX6_call_5 : decode cX6_call 5 = .ok (.istore_n 2, 1) := by decide +kernel
theorem dX6_call_6 : decode cX6_call 6 = .ok (.iload_n 2, 1) := by decide +kernel
theorem dX6_call_7 : decode cX6_call 7 = .ok (.ifCond .eq 5, 3) := by decide +kernel
theorem dX6_call_10 : decode cX6_call 10 = .ok (.iload_n 2, 1) := by decide +kernel
theorem dX6_call_11 : decode cX6_call 11 = .ok (.ireturn, 1) := by decide +kernel
theorem dX6_call_12 : decode cX6_call 12 = .ok (.aload_n 0, 1) := by decide +kernel
theorem dX6_call_13 : decode cX6_call 13 = .ok (.getfield 22, 3) := by decide +kernel
theorem dX6_call_16 : decode cX6_call 16 = .ok (.aload_n 0, 1) := by decide +kernel
theorem dX6_call_17 : decode cX6_call 17 = .ok (.getfield 10, 3) := by decide +kernel
theorem dX6_call_20 : decode cX6_call 20 = .ok (.invokevirtual 40, 3) := by decide +kernel
theorem dX6_call_23 : decode cX6_call 23 = .ok (.aload_n 0, 1) := by decide +kernel
theorem dX6_call_24 : decode cX6_call 24 = .ok (.getfield 10, 3) := by decide +kernel
theorem dX6_call_27 : decode cX6_call 27 = .ok (.iload_n 1, 1) := by decide +kernel
theorem dX6_call_28 : decode cX6_call 28 = .ok (.invokevirtual 89, 3) := by decide +kernel
theorem dX6_call_31 : decode cX6_call 31 = .ok (.ireturn, 1) := by decide +kernel
theorem dX6_pass_0 : decode cX6_pass 0 = .ok (.iload_n 1, 1) := by decide +kernel
theorem dX6_pass_1 : decode cX6_pass 1 = .ok (.iconst 1, 1) := by decide +kernel
theorem dX6_pass_2 : decode cX6_pass 2 = .ok (.if_icmp .lt 9, 3) := by decide +kernel
theorem dX6_pass_5 : decode cX6_pass 5 = .ok (.iload_n 1, 1) := by decide +kernel
theorem dX6_pass_6 : decode cX6_pass 6 = .ok (.bipush 99, 2) := by decide +kernel
theorem dX6_pass_8 : decode cX6_pass 8 = .ok (.if_icmp .le 6, 3) := by decide +kernel
theorem dX6_pass_11 : decode cX6_pass 11 = .ok (.bipush (-2), 2) := by decide +kernel
theorem dX6_pass_13 : decode cX6_pass 13 = .ok (.ireturn, 1) := by decide +kernel
theorem dX6_pass_14 : decode cX6_pass 14 = .ok (.aload_n 0, 1) := by decide +kernel
theorem dX6_pass_15 : decode cX6_pass 15 = .ok (.getfield 22, 3) := by decide +kernel
theorem dX6_pass_18 : decode cX6_pass 18 = .ok (.aload_n 0, 1) := by decide +kernel
theorem dX6_pass_19 : decode cX6_pass 19 = .ok (.getfield 10, 3) := by decide +kernel
theorem dX6_pass_22 : decode cX6_pass 22 = .ok (.invokevirtual 40, 3) := by decide +kernel
theorem dX6_pass_25 : decode cX6_pass 25 = .ok (.aload_n 0, 1) := by decide +kernel
theorem dX6_pass_26 : decode cX6_pass 26 = .ok (.getfield 10, 3) := by decide +kernel
theorem dX6_pass_29 : decode cX6_pass 29 = .ok (.iload_n 1, 1) := by decide +kernel
theorem dX6_pass_30 : decode cX6_pass 30 = .ok (.invokevirtual 92, 3) := by decide +kernel
theorem dX6_pass_33 : decode cX6_pass 33 = .ok (.ireturn, 1) := by decide +kernel
theorem dX6_level_0 : decode cX6_level 0 = .ok (.aload_n 0, 1) := by decide +kernel
theorem dX6_level_1 : decode cX6_level 1 = .ok (.getfield 10, 3) := by decide +kernel
theorem dX6_level_4 : decode cX6_level 4 = .ok (.iload_n 1, 1) := by decide +kernel
theorem dX6_level_5 : decode cX6_level 5 = .ok (.invokevirtual 95, 3) := by decide +kernel
theorem dX6_level_8 : decode cX6_level 8 = .ok (.ifCond .ne 5, 3) := by decide +kernel
theorem dX6_level_11 : decode cX6_level 11 = .ok (.iconst (-1), 1) := by decide +kernel
theorem dX6_level_12 : decode cX6_level 12 = .ok (.ireturn, 1) := by decide +kernel
theorem dX6_level_13 : decode cX6_level 13 = .ok (.aload_n 0, 1) := by decide +kernel
theorem dX6_level_14 : decode cX6_level 14 = .ok (.getfield 10, 3) := by decide +kernel
theorem dX6_level_17 : decode cX6_level 17 = .ok (.iload_n 1, 1) := by decide +kernel
theorem dX6_level_18 : decode cX6_level 18 = .ok (.invokevirtual 99, 3) := by decide +kernel
theorem dX6_level_21 : decode cX6_level 21 = .ok (.astore_n 2, 1) := by decide +kernel
theorem dX6_level_22 : decode cX6_level 22 = .ok (.aload_n 2, 1) := by decide +kernel
theorem dX6_level_23 : decode cX6_level 23 = .ok (.ifnonnull 8, 3) := by decide +kernel
theorem dX6_level_26 : decode cX6_level 26 = .ok (.bipush (-6), 2) := by decide +kernel
theorem dX6_level_28 : decode cX6_level 28 = .ok (.goto 7, 3) := by decide +kernel
theorem dX6_level_31 : decode cX6_level 31 = .ok (.aload_n 2, 1) := by decide +kernel
theorem dX6_level_32 : decode cX6_level 32 = .ok (.getfield 103, 3) := by decide +kernel
theorem dX6_level_35 : decode cX6_level 35 = .ok (.ireturn, 1) := by decide +kernel
theorem dX6_aircraft_0 : decode cX6_aircraft 0 = .ok (.aload_n 0, 1) := by decide +kernel
theorem dX6_aircraft_1 : decode cX6_aircraft 1 = .ok (.getfield 10, 3) := by decide +kernel
theorem dX6_aircraft_4 : decode cX6_aircraft 4 = .ok (.iload_n 1, 1) := by decide +kernel
theorem dX6_aircraft_5 : decode cX6_aircraft 5 = .ok (.invokevirtual 108, 3) := by decide +kernel
theorem dX6_aircraft_8 : decode cX6_aircraft 8 = .ok (.astore_n 3, 1) := by decide +kernel
theorem dX6_aircraft_9 : decode cX6_aircraft 9 = .ok (.aload_n 3, 1) := by decide +kernel
theorem dX6_aircraft_10 : decode cX6_aircraft 10 = .ok (.ifnull 13, 3) := by decide +kernel
theorem dX6_aircraft_13 : decode cX6_aircraft 13 = .ok (.iload_n 2, 1) := by decide +kernel
theorem dX6_aircraft_14 : decode cX6_aircraft 14 = .ok (.ifCond .lt 9, 3) := by decide +kernel
theorem dX6_aircraft_17 : decode cX6_aircraft 17 = .ok (.iload_n 2, 1) := by decide +kernel
theorem dX6_aircraft_18 : decode cX6_aircraft 18 = .ok (.bipush 8, 2) := by decide +kernel
theorem dX6_aircraft_20 : decode cX6_aircraft 20 = .ok (.if_icmp .lt 5, 3) := by decide +kernel
theorem dX6_aircraft_23 : decode cX6_aircraft 23 = .ok (.iconst (-1), 1) := by decide +kernel
theorem dX6_aircraft_24 : decode cX6_aircraft 24 = .ok (.ireturn, 1) := by decide +kernel
theorem dX6_aircraft_25 : decode cX6_aircraft 25 = .ok (.iload_n 2, 1) := by decide +kernel
theorem dX6_aircraft_26 : decode cX6_aircraft 26 = .ok (.tableswitch 89 0 7 #[46, 54, 59, 89, 89, 89, 64, 72], 46) := by decide +kernel
theorem dX6_aircraft_72 : decode cX6_aircraft 72 = .ok (.aload_n 3, 1) := by decide +kernel
theorem dX6_aircraft_73 : decode cX6_aircraft 73 = .ok (.getfield 111, 3) := by decide +kernel
theorem dX6_aircraft_76 : decode cX6_aircraft 76 = .ok (.getfield 115, 3) := by decide +kernel
theorem dX6_aircraft_79 : decode cX6_aircraft 79 = .ok (.ireturn, 1) := by decide +kernel
theorem dX6_aircraft_80 : decode cX6_aircraft 80 = .ok (.aload_n 3, 1) := by decide +kernel
theorem dX6_aircraft_81 : decode cX6_aircraft 81 = .ok (.getfield 116, 3) := by decide +kernel
theorem dX6_aircraft_84 : decode cX6_aircraft 84 = .ok (.ireturn, 1) := by decide +kernel
theorem dX6_aircraft_85 : decode cX6_aircraft 85 = .ok (.aload_n 3, 1) := by decide +kernel
theorem dX6_aircraft_86 : decode cX6_aircraft 86 = .ok (.getfield 119, 3) := by decide +kernel
theorem dX6_aircraft_89 : decode cX6_aircraft 89 = .ok (.ireturn, 1) := by decide +kernel
theorem dX6_aircraft_90 : decode cX6_aircraft 90 = .ok (.aload_n 3, 1) := by decide +kernel
theorem dX6_aircraft_91 : decode cX6_aircraft 91 = .ok (.invokevirtual 122, 3) := by decide +kernel
theorem dX6_aircraft_94 : decode cX6_aircraft 94 = .ok (.invokestatic 65, 3) := by decide +kernel
theorem dX6_aircraft_97 : decode cX6_aircraft 97 = .ok (.ireturn, 1) := by decide +kernel
theorem dX6_aircraft_98 : decode cX6_aircraft 98 = .ok (.aload_n 3, 1) := by decide +kernel
theorem dX6_aircraft_99 : decode cX6_aircraft 99 = .ok (.invokevirtual 126, 3) := by decide +kernel
theorem dX6_aircraft_102 : decode cX6_aircraft 102 = .ok (.ifCond .eq 8, 3) := by decide +kernel
theorem dX6_aircraft_105 : decode cX6_aircraft 105 = .ok (.bipush (-6), 2) := by decide +kernel
theorem dX6_aircraft_107 : decode cX6_aircraft 107 = .ok (.goto 7, 3) := by decide +kernel
theorem dX6_aircraft_110 : decode cX6_aircraft 110 = .ok (.aload_n 3, 1) := by decide +kernel
theorem dX6_aircraft_111 : decode cX6_aircraft 111 = .ok (.getfield 129, 3) := by decide +kernel
theorem dX6_aircraft_114 : decode cX6_aircraft 114 = .ok (.ireturn, 1) := by decide +kernel
theorem dX6_aircraft_115 : decode cX6_aircraft 115 = .ok (.aload_n 3, 1) := by decide +kernel
theorem dX6_aircraft_116 : decode cX6_aircraft 116 = .ok (.invokevirtual 126, 3) := by decide +kernel
theorem dX6_aircraft_119 : decode cX6_aircraft 119 = .ok (.ifCond .eq 11, 3) := by decide +kernel
theorem dX6_aircraft_122 : decode cX6_aircraft 122 = .ok (.aload_n 3, 1) := by decide +kernel
theorem dX6_aircraft_123 : decode cX6_aircraft 123 = .ok (.iload_n 2, 1) := by decide +kernel
theorem dX6_aircraft_124 : decode cX6_aircraft 124 = .ok (.invokestatic 132, 3) := by decide +kernel
theorem dX6_aircraft_127 : decode cX6_aircraft 127 = .ok (.goto 5, 3) := by decide +kernel
theorem dX6_aircraft_130 : decode cX6_aircraft 130 = .ok (.bipush (-6), 2) := by decide +kernel
theorem dX6_aircraft_132 : decode cX6_aircraft 132 = .ok (.ireturn, 1) := by decide +kernel
theorem dX6_tell_0 : decode cX6_tell 0 = .ok (.iload_n 1, 1) := by decide +kernel
theorem dX6_tell_1 : decode cX6_tell 1 = .ok (.ifCond .lt 9, 3) := by decide +kernel
theorem dX6_tell_4 : decode cX6_tell 4 = .ok (.iload_n 1, 1) := by decide +kernel
theorem dX6_tell_5 : decode cX6_tell 5 = .ok (.bipush 18, 2) := by decide +kernel
theorem dX6_tell_7 : decode cX6_tell 7 = .ok (.if_icmp .lt 5, 3) := by decide +kernel
theorem dX6_tell_10 : decode cX6_tell 10 = .ok (.iconst (-1), 1) := by decide +kernel
theorem dX6_tell_11 : decode cX6_tell 11 = .ok (.ireturn, 1) := by decide +kernel
theorem dX6_tell_12 : decode cX6_tell 12 = .ok (.iload_n 1, 1) := by decide +kernel
theorem dX6_tell_13 : decode cX6_tell 13 = .ok (.tableswitch 173 0 17 #[87, 95, 103, 173, 173, 173, 173, 111, 119, 127, 138, 149, 173, 173, 173, 173, 157, 165], 87) := by decide +kernel
theorem dX6_tell_100 : decode cX6_tell 100 = .ok (.aload_n 0, 1) := by decide +kernel
theorem dX6_tell_101 : decode cX6_tell 101 = .ok (.getfield 10, 3) := by decide +kernel
theorem dX6_tell_104 : decode cX6_tell 104 = .ok (.getfield 136, 3) := by decide +kernel
theorem dX6_tell_107 : decode cX6_tell 107 = .ok (.ireturn, 1) := by decide +kernel
theorem dX6_tell_108 : decode cX6_tell 108 = .ok (.aload_n 0, 1) := by decide +kernel
theorem dX6_tell_109 : decode cX6_tell 109 = .ok (.getfield 10, 3) := by decide +kernel
theorem dX6_tell_112 : decode cX6_tell 112 = .ok (.getfield 44, 3) := by decide +kernel
theorem dX6_tell_115 : decode cX6_tell 115 = .ok (.ireturn, 1) := by decide +kernel
theorem dX6_tell_116 : decode cX6_tell 116 = .ok (.aload_n 0, 1) := by decide +kernel
theorem dX6_tell_117 : decode cX6_tell 117 = .ok (.getfield 10, 3) := by decide +kernel
theorem dX6_tell_120 : decode cX6_tell 120 = .ok (.getfield 52, 3) := by decide +kernel
theorem dX6_tell_123 : decode cX6_tell 123 = .ok (.ireturn, 1) := by decide +kernel
theorem dX6_tell_124 : decode cX6_tell 124 = .ok (.aload_n 0, 1) := by decide +kernel
theorem dX6_tell_125 : decode cX6_tell 125 = .ok (.getfield 10, 3) := by decide +kernel
theorem dX6_tell_128 : decode cX6_tell 128 = .ok (.getfield 139, 3) := by decide +kernel
theorem dX6_tell_131 : decode cX6_tell 131 = .ok (.ireturn, 1) := by decide +kernel
theorem dX6_tell_132 : decode cX6_tell 132 = .ok (.aload_n 0, 1) := by decide +kernel
theorem dX6_tell_133 : decode cX6_tell 133 = .ok (.getfield 10, 3) := by decide +kernel
theorem dX6_tell_136 : decode cX6_tell 136 = .ok (.getfield 142, 3) := by decide +kernel
theorem dX6_tell_139 : decode cX6_tell 139 = .ok (.ireturn, 1) := by decide +kernel
theorem dX6_tell_140 : decode cX6_tell 140 = .ok (.aload_n 0, 1) := by decide +kernel
theorem dX6_tell_141 : decode cX6_tell 141 = .ok (.getfield 10, 3) := by decide +kernel
theorem dX6_tell_144 : decode cX6_tell 144 = .ok (.getfield 61, 3) := by decide +kernel
theorem dX6_tell_147 : decode cX6_tell 147 = .ok (.invokestatic 65, 3) := by decide +kernel
theorem dX6_tell_150 : decode cX6_tell 150 = .ok (.ireturn, 1) := by decide +kernel
theorem dX6_tell_151 : decode cX6_tell 151 = .ok (.aload_n 0, 1) := by decide +kernel
theorem dX6_tell_152 : decode cX6_tell 152 = .ok (.getfield 10, 3) := by decide +kernel
theorem dX6_tell_155 : decode cX6_tell 155 = .ok (.getfield 69, 3) := by decide +kernel
theorem dX6_tell_158 : decode cX6_tell 158 = .ok (.invokestatic 65, 3) := by decide +kernel
theorem dX6_tell_161 : decode cX6_tell 161 = .ok (.ireturn, 1) := by decide +kernel
theorem dX6_tell_162 : decode cX6_tell 162 = .ok (.aload_n 0, 1) := by decide +kernel
theorem dX6_tell_163 : decode cX6_tell 163 = .ok (.getfield 10, 3) := by decide +kernel
theorem dX6_tell_166 : decode cX6_tell 166 = .ok (.getfield 58, 3) := by decide +kernel
theorem dX6_tell_169 : decode cX6_tell 169 = .ok (.ireturn, 1) := by decide +kernel
theorem dX6_tell_170 : decode cX6_tell 170 = .ok (.aload_n 0, 1) := by decide +kernel
theorem dX6_tell_171 : decode cX6_tell 171 = .ok (.getfield 10, 3) := by decide +kernel
theorem dX6_tell_174 : decode cX6_tell 174 = .ok (.getfield 145, 3) := by decide +kernel
theorem dX6_tell_177 : decode cX6_tell 177 = .ok (.ireturn, 1) := by decide +kernel
theorem dX6_tell_178 : decode cX6_tell 178 = .ok (.aload_n 0, 1) := by decide +kernel
theorem dX6_tell_179 : decode cX6_tell 179 = .ok (.getfield 22, 3) := by decide +kernel
theorem dX6_tell_182 : decode cX6_tell 182 = .ok (.getfield 148, 3) := by decide +kernel
theorem dX6_tell_185 : decode cX6_tell 185 = .ok (.ireturn, 1) := by decide +kernel
theorem dX6_tell_186 : decode cX6_tell 186 = .ok (.iload_n 1, 1) := by decide +kernel
theorem dX6_tell_187 : decode cX6_tell 187 = .ok (.bipush 7, 2) := by decide +kernel
theorem dX6_tell_189 : decode cX6_tell 189 = .ok (.if_icmp .ge 11, 3) := by decide +kernel
theorem dX6_tell_192 : decode cX6_tell 192 = .ok (.aload_n 0, 1) := by decide +kernel
theorem dX6_tell_193 : decode cX6_tell 193 = .ok (.iload_n 1, 1) := by decide +kernel
theorem dX6_tell_194 : decode cX6_tell 194 = .ok (.invokevirtual 151, 3) := by decide +kernel
theorem dX6_tell_197 : decode cX6_tell 197 = .ok (.goto 8, 3) := by decide +kernel
theorem dX6_tell_200 : decode cX6_tell 200 = .ok (.aload_n 0, 1) := by decide +kernel
theorem dX6_tell_201 : decode cX6_tell 201 = .ok (.iload_n 1, 1) := by decide +kernel
theorem dX6_tell_202 : decode cX6_tell 202 = .ok (.invokevirtual 154, 3) := by decide +kernel
theorem dX6_tell_205 : decode cX6_tell 205 = .ok (.ireturn, 1) := by decide +kernel
theorem dX6_why_0 : decode cX6_why 0 = .ok (.aload_n 0, 1) := by decide +kernel
theorem dX6_why_1 : decode cX6_why 1 = .ok (.getfield 10, 3) := by decide +kernel
theorem dX6_why_4 : decode cX6_why 4 = .ok (.iload_n 1, 1) := by decide +kernel
theorem dX6_why_5 : decode cX6_why 5 = .ok (.invokevirtual 108, 3) := by decide +kernel
theorem dX6_why_8 : decode cX6_why 8 = .ok (.astore_n 2, 1) := by decide +kernel
theorem dX6_why_9 : decode cX6_why 9 = .ok (.aload_n 2, 1) := by decide +kernel
theorem dX6_why_10 : decode cX6_why 10 = .ok (.ifnonnull 5, 3) := by decide +kernel
theorem dX6_why_13 : decode cX6_why 13 = .ok (.iconst (-1), 1) := by decide +kernel
theorem dX6_why_14 : decode cX6_why 14 = .ok (.ireturn, 1) := by decide +kernel
theorem dX6_why_15 : decode cX6_why 15 = .ok (.aload_n 2, 1) := by decide +kernel
theorem dX6_why_16 : decode cX6_why 16 = .ok (.invokevirtual 126, 3) := by decide +kernel
theorem dX6_why_19 : decode cX6_why 19 = .ok (.ifCond .ne 5, 3) := by decide +kernel
theorem dX6_why_22 : decode cX6_why 22 = .ok (.iconst 1, 1) := by decide +kernel
theorem dX6_why_23 : decode cX6_why 23 = .ok (.ireturn, 1) := by decide +kernel
theorem dX6_why_24 : decode cX6_why 24 = .ok (.aload_n 2, 1) := by decide +kernel
theorem dX6_why_25 : decode cX6_why 25 = .ok (.invokevirtual 157, 3) := by decide +kernel
theorem dX6_why_28 : decode cX6_why 28 = .ok (.ifCond .ne 5, 3) := by decide +kernel
theorem dX6_why_31 : decode cX6_why 31 = .ok (.iconst 2, 1) := by decide +kernel
theorem dX6_why_32 : decode cX6_why 32 = .ok (.ireturn, 1) := by decide +kernel
theorem dX6_why_33 : decode cX6_why 33 = .ok (.aload_n 2, 1) := by decide +kernel
theorem dX6_why_34 : decode cX6_why 34 = .ok (.getfield 160, 3) := by decide +kernel
theorem dX6_why_37 : decode cX6_why 37 = .ok (.ifCond .eq 10, 3) := by decide +kernel
theorem dX6_why_40 : decode cX6_why 40 = .ok (.aload_n 2, 1) := by decide +kernel
theorem dX6_why_41 : decode cX6_why 41 = .ok (.invokevirtual 122, 3) := by decide +kernel
theorem dX6_why_44 : decode cX6_why 44 = .ok (.ifCond .eq 29, 3) := by decide +kernel
theorem dX6_why_47 : decode cX6_why 47 = .ok (.aload_n 0, 1) := by decide +kernel
theorem dX6_why_48 : decode cX6_why 48 = .ok (.getfield 10, 3) := by decide +kernel
theorem dX6_why_51 : decode cX6_why 51 = .ok (.getfield 61, 3) := by decide +kernel
theorem dX6_why_54 : decode cX6_why 54 = .ok (.ifCond .eq 17, 3) := by decide +kernel
theorem dX6_why_57 : decode cX6_why 57 = .ok (.aload_n 0, 1) := by decide +kernel
theorem dX6_why_58 : decode cX6_why 58 = .ok (.getfield 10, 3) := by decide +kernel
theorem dX6_why_61 : decode cX6_why 61 = .ok (.getfield 142, 3) := by decide +kernel
theorem dX6_why_64 : decode cX6_why 64 = .ok (.ifCond .ne 7, 3) := by decide +kernel
theorem dX6_why_67 : decode cX6_why 67 = .ok (.iconst 0, 1) := by decide +kernel
theorem dX6_why_68 : decode cX6_why 68 = .ok (.goto 4, 3) := by decide +kernel
theorem dX6_why_71 : decode cX6_why 71 = .ok (.iconst 3, 1) := by decide +kernel
theorem dX6_why_72 : decode cX6_why 72 = .ok (.ireturn, 1) := by decide +kernel
theorem dX6_why_73 : decode cX6_why 73 = .ok (.aload_n 0, 1) := by decide +kernel
theorem dX6_why_74 : decode cX6_why 74 = .ok (.getfield 10, 3) := by decide +kernel
theorem dX6_why_77 : decode cX6_why 77 = .ok (.aload_n 2, 1) := by decide +kernel
theorem dX6_why_78 : decode cX6_why 78 = .ok (.getfield 160, 3) := by decide +kernel
theorem dX6_why_81 : decode cX6_why 81 = .ok (.iconst 1, 1) := by decide +kernel
theorem dX6_why_82 : decode cX6_why 82 = .ok (.isub, 1) := by decide +kernel
theorem dX6_why_83 : decode cX6_why 83 = .ok (.invokevirtual 163, 3) := by decide +kernel
theorem dX6_why_86 : decode cX6_why 86 = .ok (.ifCond .ne 5, 3) := by decide +kernel
theorem dX6_why_89 : decode cX6_why 89 = .ok (.iconst 4, 1) := by decide +kernel
theorem dX6_why_90 : decode cX6_why 90 = .ok (.ireturn, 1) := by decide +kernel
theorem dX6_why_91 : decode cX6_why 91 = .ok (.aload_n 2, 1) := by decide +kernel
theorem dX6_why_92 : decode cX6_why 92 = .ok (.getfield 166, 3) := by decide +kernel
theorem dX6_why_95 : decode cX6_why 95 = .ok (.ifCond .ne 13, 3) := by decide +kernel
theorem dX6_why_98 : decode cX6_why 98 = .ok (.aload_n 0, 1) := by decide +kernel
theorem dX6_why_99 : decode cX6_why 99 = .ok (.getfield 10, 3) := by decide +kernel
theorem dX6_why_102 : decode cX6_why 102 = .ok (.getfield 69, 3) := by decide +kernel
theorem dX6_why_105 : decode cX6_why 105 = .ok (.ifCond .eq 7, 3) := by decide +kernel
theorem dX6_why_108 : decode cX6_why 108 = .ok (.iconst 0, 1) := by decide +kernel
theorem dX6_why_109 : decode cX6_why 109 = .ok (.goto 4, 3) := by decide +kernel
theorem dX6_why_112 : decode cX6_why 112 = .ok (.iconst 5, 1) := by decide +kernel
theorem dX6_why_113 : decode cX6_why 113 = .ok (.ireturn, 1) := by decide +kernel
theorem dX6_minutesLeft_0 : decode cX6_minutesLeft 0 = .ok (.aload_n 0, 1) := by decide +kernel
theorem dX6_minutesLeft_1 : decode cX6_minutesLeft 1 = .ok (.getfield 10, 3) := by decide +kernel
theorem dX6_minutesLeft_4 : decode cX6_minutesLeft 4 = .ok (.iload_n 1, 1) := by decide +kernel
theorem dX6_minutesLeft_5 : decode cX6_minutesLeft 5 = .ok (.invokevirtual 108, 3) := by decide +kernel
theorem dX6_minutesLeft_8 : decode cX6_minutesLeft 8 = .ok (.ifnonnull 5, 3) := by decide +kernel
theorem dX6_minutesLeft_11 : decode cX6_minutesLeft 11 = .ok (.iconst (-1), 1) := by decide +kernel
theorem dX6_minutesLeft_12 : decode cX6_minutesLeft 12 = .ok (.ireturn, 1) := by decide +kernel
theorem dX6_minutesLeft_13 : decode cX6_minutesLeft 13 = .ok (.aload_n 0, 1) := by decide +kernel
theorem dX6_minutesLeft_14 : decode cX6_minutesLeft 14 = .ok (.invokevirtual 169, 3) := by decide +kernel
theorem dX6_minutesLeft_17 : decode cX6_minutesLeft 17 = .ok (.aload_n 0, 1) := by decide +kernel
theorem dX6_minutesLeft_18 : decode cX6_minutesLeft 18 = .ok (.iload_n 1, 1) := by decide +kernel
theorem dX6_minutesLeft_19 : decode cX6_minutesLeft 19 = .ok (.invokevirtual 172, 3) := by decide +kernel
theorem dX6_minutesLeft_22 : decode cX6_minutesLeft 22 = .ok (.ireturn, 1) := by decide +kernel
theorem dX6_landsWith_0 : decode cX6_landsWith 0 = .ok (.aload_n 0, 1) := by decide +kernel
theorem dX6_landsWith_1 : decode cX6_landsWith 1 = .ok (.getfield 10, 3) := by decide +kernel
theorem dX6_landsWith_4 : decode cX6_landsWith 4 = .ok (.iload_n 1, 1) := by decide +kernel
theorem dX6_landsWith_5 : decode cX6_landsWith 5 = .ok (.invokevirtual 108, 3) := by decide +kernel
theorem dX6_landsWith_8 : decode cX6_landsWith 8 = .ok (.ifnonnull 5, 3) := by decide +kernel
theorem dX6_landsWith_11 : decode cX6_landsWith 11 = .ok (.iconst (-1), 1) := by decide +kernel
theorem dX6_landsWith_12 : decode cX6_landsWith 12 = .ok (.ireturn, 1) := by decide +kernel
theorem dX6_landsWith_13 : decode cX6_landsWith 13 = .ok (.aload_n 0, 1) := by decide +kernel
theorem dX6_landsWith_14 : decode cX6_landsWith 14 = .ok (.invokevirtual 169, 3) := by decide +kernel
theorem dX6_landsWith_17 : decode cX6_landsWith 17 = .ok (.aload_n 0, 1) := by decide +kernel
theorem dX6_landsWith_18 : decode cX6_landsWith 18 = .ok (.getfield 16, 3) := by decide +kernel
theorem dX6_landsWith_21 : decode cX6_landsWith 21 = .ok (.iload_n 1, 1) := by decide +kernel
theorem dX6_landsWith_22 : decode cX6_landsWith 22 = .ok (.invokevirtual 108, 3) := by decide +kernel
theorem dX6_landsWith_25 : decode cX6_landsWith 25 = .ok (.astore_n 2, 1) := by decide +kernel
theorem dX6_landsWith_26 : decode cX6_landsWith 26 = .ok (.aload_n 2, 1) := by decide +kernel
theorem dX6_landsWith_27 : decode cX6_landsWith 27 = .ok (.ifnull 18, 3) := by decide +kernel
theorem dX6_landsWith_30 : decode cX6_landsWith 30 = .ok (.aload_n 2, 1) := by decide +kernel
theorem dX6_landsWith_31 : decode cX6_landsWith 31 = .ok (.getfield 119, 3) := by decide +kernel
theorem dX6_landsWith_34 : decode cX6_landsWith 34 = .ok (.iconst 1, 1) := by decide +kernel
theorem dX6_landsWith_35 : decode cX6_landsWith 35 = .ok (.if_icmp .ne 10, 3) := by decide +kernel
theorem dX6_landsWith_38 : decode cX6_landsWith 38 = .ok (.aload_n 2, 1) := by decide +kernel
theorem dX6_landsWith_39 : decode cX6_landsWith 39 = .ok (.getfield 116, 3) := by decide +kernel
theorem dX6_landsWith_42 : decode cX6_landsWith 42 = .ok (.goto 5, 3) := by decide +kernel
theorem dX6_landsWith_45 : decode cX6_landsWith 45 = .ok (.bipush (-6), 2) := by decide +kernel
theorem dX6_landsWith_47 : decode cX6_landsWith 47 = .ok (.ireturn, 1) := by decide +kernel
theorem dX6_endurance_0 : decode cX6_endurance 0 = .ok (.aload_n 0, 1) := by decide +kernel
theorem dX6_endurance_1 : decode cX6_endurance 1 = .ok (.getfield 10, 3) := by decide +kernel
theorem dX6_endurance_4 : decode cX6_endurance 4 = .ok (.iload_n 1, 1) := by decide +kernel
theorem dX6_endurance_5 : decode cX6_endurance 5 = .ok (.invokevirtual 108, 3) := by decide +kernel
theorem dX6_endurance_8 : decode cX6_endurance 8 = .ok (.astore_n 2, 1) := by decide +kernel
theorem dX6_endurance_9 : decode cX6_endurance 9 = .ok (.aload_n 2, 1) := by decide +kernel
theorem dX6_endurance_10 : decode cX6_endurance 10 = .ok (.ifnonnull 5, 3) := by decide +kernel
theorem dX6_endurance_13 : decode cX6_endurance 13 = .ok (.iconst (-1), 1) := by decide +kernel
theorem dX6_endurance_14 : decode cX6_endurance 14 = .ok (.ireturn, 1) := by decide +kernel
theorem dX6_endurance_15 : decode cX6_endurance 15 = .ok (.aload_n 2, 1) := by decide +kernel
theorem dX6_endurance_16 : decode cX6_endurance 16 = .ok (.invokevirtual 126, 3) := by decide +kernel
theorem dX6_endurance_19 : decode cX6_endurance 19 = .ok (.ifCond .eq 10, 3) := by decide +kernel
theorem dX6_endurance_22 : decode cX6_endurance 22 = .ok (.aload_n 2, 1) := by decide +kernel
theorem dX6_endurance_23 : decode cX6_endurance 23 = .ok (.invokevirtual 175, 3) := by decide +kernel
theorem dX6_endurance_26 : decode cX6_endurance 26 = .ok (.goto 5, 3) := by decide +kernel
theorem dX6_endurance_29 : decode cX6_endurance 29 = .ok (.bipush (-3), 2) := by decide +kernel
theorem dX6_endurance_31 : decode cX6_endurance 31 = .ok (.ireturn, 1) := by decide +kernel
theorem dX6_bestLevel_0 : decode cX6_bestLevel 0 = .ok (.iload_n 1, 1) := by decide +kernel
theorem dX6_bestLevel_1 : decode cX6_bestLevel 1 = .ok (.invokestatic 72, 3) := by decide +kernel
theorem dX6_bestLevel_4 : decode cX6_bestLevel 4 = .ok (.astore_n 3, 1) := by decide +kernel
theorem dX6_bestLevel_5 : decode cX6_bestLevel 5 = .ok (.aload_n 3, 1) := by decide +kernel
theorem dX6_bestLevel_6 : decode cX6_bestLevel 6 = .ok (.ifnonnull 5, 3) := by decide +kernel
theorem dX6_bestLevel_9 : decode cX6_bestLevel 9 = .ok (.iconst (-1), 1) := by decide +kernel
theorem dX6_bestLevel_10 : decode cX6_bestLevel 10 = .ok (.ireturn, 1) := by decide +kernel
theorem dX6_bestLevel_11 : decode cX6_bestLevel 11 = .ok (.iload_n 2, 1) := by decide +kernel
theorem dX6_bestLevel_12 : decode cX6_bestLevel 12 = .ok (.invokestatic 179, 3) := by decide +kernel
theorem dX6_bestLevel_15 : decode cX6_bestLevel 15 = .ok (.ifCond .ne 6, 3) := by decide +kernel
theorem dX6_bestLevel_18 : decode cX6_bestLevel 18 = .ok (.bipush (-2), 2) := by decide +kernel
theorem dX6_bestLevel_20 : decode cX6_bestLevel 20 = .ok (.ireturn, 1) := by decide +kernel
theorem dX6_bestLevel_21 : decode cX6_bestLevel 21 = .ok (.aload_n 0, 1) := by decide +kernel
theorem dX6_bestLevel_22 : decode cX6_bestLevel 22 = .ok (.getfield 10, 3) := by decide +kernel
theorem dX6_bestLevel_25 : decode cX6_bestLevel 25 = .ok (.invokevirtual 182, 3) := by decide +kernel
theorem dX6_bestLevel_28 : decode cX6_bestLevel 28 = .ok (.ifCond .eq 6, 3) := by decide +kernel
theorem dX6_bestLevel_31 : decode cX6_bestLevel 31 = .ok (.bipush (-4), 2) := by decide +kernel
theorem dX6_bestLevel_33 : decode cX6_bestLevel 33 = .ok (.ireturn, 1) := by decide +kernel
theorem dX6_bestLevel_34 : decode cX6_bestLevel 34 = .ok (.bipush (-6), 2) := by decide +kernel
theorem dX6_bestLevel_36 : decode cX6_bestLevel 36 = .ok (.istore 4, 2) := by decide +kernel
theorem dX6_bestLevel_38 : decode cX6_bestLevel 38 = .ok (.sipush 601, 3) := by decide +kernel
theorem dX6_bestLevel_41 : decode cX6_bestLevel 41 = .ok (.istore 5, 2) := by decide +kernel
theorem dX6_bestLevel_43 : decode cX6_bestLevel 43 = .ok (.iconst 0, 1) := by decide +kernel
theorem dX6_bestLevel_44 : decode cX6_bestLevel 44 = .ok (.istore 6, 2) := by decide +kernel
theorem dX6_bestLevel_46 : decode cX6_bestLevel 46 = .ok (.iload 6, 2) := by decide +kernel
theorem dX6_bestLevel_48 : decode cX6_bestLevel 48 = .ok (.aload_n 0, 1) := by decide +kernel
theorem dX6_bestLevel_49 : decode cX6_bestLevel 49 = .ok (.getfield 10, 3) := by decide +kernel
theorem dX6_bestLevel_52 : decode cX6_bestLevel 52 = .ok (.getfield 44, 3) := by decide +kernel
theorem dX6_bestLevel_55 : decode cX6_bestLevel 55 = .ok (.if_icmp .ge 77, 3) := by decide +kernel
theorem dX6_bestLevel_58 : decode cX6_bestLevel 58 = .ok (.aload_n 0, 1) := by decide +kernel
theorem dX6_bestLevel_59 : decode cX6_bestLevel 59 = .ok (.getfield 10, 3) := by decide +kernel
theorem dX6_bestLevel_62 : decode cX6_bestLevel 62 = .ok (.aload_n 3, 1) := by decide +kernel
theorem dX6_bestLevel_63 : decode cX6_bestLevel 63 = .ok (.iload_n 2, 1) := by decide +kernel
theorem dX6_bestLevel_64 : decode cX6_bestLevel 64 = .ok (.iload 6, 2) := by decide +kernel
theorem dX6_bestLevel_66 : decode cX6_bestLevel 66 = .ok (.invokevirtual 185, 3) := by decide +kernel
theorem dX6_bestLevel_69 : decode cX6_bestLevel 69 = .ok (.ifCond .ne 57, 3) := by decide +kernel
theorem dX6_bestLevel_72 : decode cX6_bestLevel 72 = .ok (.aload_n 0, 1) := by decide +kernel
theorem dX6_bestLevel_73 : decode cX6_bestLevel 73 = .ok (.getfield 16, 3) := by decide +kernel
theorem dX6_bestLevel_76 : decode cX6_bestLevel 76 = .ok (.aload_n 0, 1) := by decide +kernel
theorem dX6_bestLevel_77 : decode cX6_bestLevel 77 = .ok (.getfield 10, 3) := by decide +kernel
theorem dX6_bestLevel_80 : decode cX6_bestLevel 80 = .ok (.invokevirtual 188, 3) := by decide +kernel
theorem dX6_bestLevel_83 : decode cX6_bestLevel 83 = .ok (.aload_n 0, 1) := by decide +kernel
theorem dX6_bestLevel_84 : decode cX6_bestLevel 84 = .ok (.getfield 16, 3) := by decide +kernel
theorem dX6_bestLevel_87 : decode cX6_bestLevel 87 = .ok (.aload_n 3, 1) := by decide +kernel
theorem dX6_bestLevel_88 : decode cX6_bestLevel 88 = .ok (.iload_n 2, 1) := by decide +kernel
theorem dX6_bestLevel_89 : decode cX6_bestLevel 89 = .ok (.iload 6, 2) := by decide +kernel
theorem dX6_bestLevel_91 : decode cX6_bestLevel 91 = .ok (.invokevirtual 82, 3) := by decide +kernel
theorem dX6_bestLevel_94 : decode cX6_bestLevel 94 = .ok (.istore 7, 2) := by decide +kernel
theorem dX6_bestLevel_96 : decode cX6_bestLevel 96 = .ok (.aload_n 0, 1) := by decide +kernel
theorem dX6_bestLevel_97 : decode cX6_bestLevel 97 = .ok (.getfield 16, 3) := by decide +kernel
theorem dX6_bestLevel_100 : decode cX6_bestLevel 100 = .ok (.iload 7, 2) := by decide +kernel
theorem dX6_bestLevel_102 : decode cX6_bestLevel 102 = .ok (.iload 5, 2) := by decide +kernel
theorem dX6_bestLevel_104 : decode cX6_bestLevel 104 = .ok (.iconst 1, 1) := by decide +kernel
theorem dX6_bestLevel_105 : decode cX6_bestLevel 105 = .ok (.isub, 1) := by decide +kernel
theorem dX6_bestLevel_106 : decode cX6_bestLevel 106 = .ok (.invokevirtual 191, 3) := by decide +kernel
theorem dX6_bestLevel_109 : decode cX6_bestLevel 109 = .ok (.istore 8, 2) := by decide +kernel
theorem dX6_bestLevel_111 : decode cX6_bestLevel 111 = .ok (.iload 8, 2) := by decide +kernel
theorem dX6_bestLevel_113 : decode cX6_bestLevel 113 = .ok (.bipush (-6), 2) := by decide +kernel
theorem dX6_bestLevel_115 : decode cX6_bestLevel 115 = .ok (.if_icmp .eq 11, 3) := by decide +kernel
theorem dX6_bestLevel_118 : decode cX6_bestLevel 118 = .ok (.iload 6, 2) := by decide +kernel
theorem dX6_bestLevel_120 : decode cX6_bestLevel 120 = .ok (.istore 4, 2) := by decide +kernel
theorem dX6_bestLevel_122 : decode cX6_bestLevel 122 = .ok (.iload 8, 2) := by decide +kernel
theorem dX6_bestLevel_124 : decode cX6_bestLevel 124 = .ok (.istore 5, 2) := by decide +kernel
theorem dX6_bestLevel_126 : decode cX6_bestLevel 126 = .ok (.iinc 6 1, 3) := by decide +kernel
theorem dX6_bestLevel_129 : decode cX6_bestLevel 129 = .ok (.goto (-83), 3) := by decide +kernel
theorem dX6_bestLevel_132 : decode cX6_bestLevel 132 = .ok (.iload 4, 2) := by decide +kernel
theorem dX6_bestLevel_134 : decode cX6_bestLevel 134 = .ok (.ireturn, 1) := by decide +kernel
theorem dX6_lands_0 : decode cX6_lands 0 = .ok (.iload_n 1, 1) := by decide +kernel
theorem dX6_lands_1 : decode cX6_lands 1 = .ok (.ifCond .ge 5, 3) := by decide +kernel
theorem dX6_lands_4 : decode cX6_lands 4 = .ok (.iconst (-1), 1) := by decide +kernel
theorem dX6_lands_5 : decode cX6_lands 5 = .ok (.ireturn, 1) := by decide +kernel
theorem dX6_lands_6 : decode cX6_lands 6 = .ok (.aload_n 0, 1) := by decide +kernel
theorem dX6_lands_7 : decode cX6_lands 7 = .ok (.getfield 16, 3) := by decide +kernel
theorem dX6_lands_10 : decode cX6_lands 10 = .ok (.aload_n 0, 1) := by decide +kernel
theorem dX6_lands_11 : decode cX6_lands 11 = .ok (.getfield 10, 3) := by decide +kernel
theorem dX6_lands_14 : decode cX6_lands 14 = .ok (.invokevirtual 188, 3) := by decide +kernel
theorem dX6_lands_17 : decode cX6_lands 17 = .ok (.iconst 0, 1) := by decide +kernel
theorem dX6_lands_18 : decode cX6_lands 18 = .ok (.istore_n 2, 1) := by decide +kernel
theorem dX6_lands_19 : decode cX6_lands 19 = .ok (.iconst 0, 1) := by decide +kernel
theorem dX6_lands_20 : decode cX6_lands 20 = .ok (.istore_n 3, 1) := by decide +kernel
theorem dX6_lands_21 : decode cX6_lands 21 = .ok (.iload_n 3, 1) := by decide +kernel
theorem dX6_lands_22 : decode cX6_lands 22 = .ok (.sipush 600, 3) := by decide +kernel
theorem dX6_lands_25 : decode cX6_lands 25 = .ok (.if_icmp .ge 46, 3) := by decide +kernel
theorem dX6_lands_28 : decode cX6_lands 28 = .ok (.aload_n 0, 1) := by decide +kernel
theorem dX6_lands_29 : decode cX6_lands 29 = .ok (.getfield 16, 3) := by decide +kernel
theorem dX6_lands_32 : decode cX6_lands 32 = .ok (.invokevirtual 195, 3) := by decide +kernel
theorem dX6_lands_35 : decode cX6_lands 35 = .ok (.ifCond .eq 36, 3) := by decide +kernel
theorem dX6_lands_38 : decode cX6_lands 38 = .ok (.aload_n 0, 1) := by decide +kernel
theorem dX6_lands_39 : decode cX6_lands 39 = .ok (.getfield 16, 3) := by decide +kernel
theorem dX6_lands_42 : decode cX6_lands 42 = .ok (.invokevirtual 198, 3) := by decide +kernel
theorem dX6_lands_45 : decode cX6_lands 45 = .ok (.istore 4, 2) := by decide +kernel
theorem dX6_lands_47 : decode cX6_lands 47 = .ok (.iload 4, 2) := by decide +kernel
theorem dX6_lands_49 : decode cX6_lands 49 = .ok (.bipush (-6), 2) := by decide +kernel
theorem dX6_lands_51 : decode cX6_lands 51 = .ok (.if_icmp .eq 14, 3) := by decide +kernel
theorem dX6_lands_54 : decode cX6_lands 54 = .ok (.iload_n 2, 1) := by decide +kernel
theorem dX6_lands_55 : decode cX6_lands 55 = .ok (.iload_n 1, 1) := by decide +kernel
theorem dX6_lands_56 : decode cX6_lands 56 = .ok (.if_icmp .ne 6, 3) := by decide +kernel
theorem dX6_lands_59 : decode cX6_lands 59 = .ok (.iload 4, 2) := by decide +kernel
theorem dX6_lands_61 : decode cX6_lands 61 = .ok (.ireturn, 1) := by decide +kernel
theorem dX6_lands_62 : decode cX6_lands 62 = .ok (.iinc 2 1, 3) := by decide +kernel
theorem dX6_lands_65 : decode cX6_lands 65 = .ok (.iinc 3 1, 3) := by decide +kernel
theorem dX6_lands_68 : decode cX6_lands 68 = .ok (.goto (-47), 3) := by decide +kernel
theorem dX6_lands_71 : decode cX6_lands 71 = .ok (.bipush (-6), 2) := by decide +kernel
theorem dX6_lands_73 : decode cX6_lands 73 = .ok (.ireturn, 1) := by decide +kernel
theorem dX6_append_0 : decode cX6_append 0 = .ok (.iload_n 1, 1) := by decide +kernel
theorem dX6_append_1 : decode cX6_append 1 = .ok (.bipush 32, 2) := by decide +kernel
theorem dX6_append_3 : decode cX6_append 3 = .ok (.if_icmp .lt 9, 3) := by decide +kernel
theorem dX6_append_6 : decode cX6_append 6 = .ok (.iload_n 1, 1) := by decide +kernel
theorem dX6_append_7 : decode cX6_append 7 = .ok (.bipush 126, 2) := by decide +kernel
theorem dX6_append_9 : decode cX6_append 9 = .ok (.if_icmp .le 6, 3) := by decide +kernel
theorem dX6_append_12 : decode cX6_append 12 = .ok (.bipush (-2), 2) := by decide +kernel
theorem dX6_append_14 : decode cX6_append 14 = .ok (.ireturn, 1) := by decide +kernel
theorem dX6_append_15 : decode cX6_append 15 = .ok (.aload_n 0, 1) := by decide +kernel
theorem dX6_append_16 : decode cX6_append 16 = .ok (.getfield 36, 3) := by decide +kernel
theorem dX6_append_19 : decode cX6_append 19 = .ok (.iload_n 1, 1) := by decide +kernel
theorem dX6_append_20 : decode cX6_append 20 = .ok (.i2c, 1) := by decide +kernel
theorem dX6_append_21 : decode cX6_append 21 = .ok (.invokevirtual 201, 3) := by decide +kernel
theorem dX6_append_24 : decode cX6_append 24 = .ok (.ifCond .eq 13, 3) := by decide +kernel
theorem dX6_append_27 : decode cX6_append 27 = .ok (.aload_n 0, 1) := by decide +kernel
theorem dX6_append_28 : decode cX6_append 28 = .ok (.getfield 36, 3) := by decide +kernel
theorem dX6_append_31 : decode cX6_append 31 = .ok (.getfield 205, 3) := by decide +kernel
theorem dX6_append_34 : decode cX6_append 34 = .ok (.goto 5, 3) := by decide +kernel
theorem dX6_append_37 : decode cX6_append 37 = .ok (.bipush (-4), 2) := by decide +kernel
theorem dX6_append_39 : decode cX6_append 39 = .ok (.ireturn, 1) := by decide +kernel
theorem dX6_clearText_0 : decode cX6_clearText 0 = .ok (.aload_n 0, 1) := by decide +kernel
theorem dX6_clearText_1 : decode cX6_clearText 1 = .ok (.getfield 36, 3) := by decide +kernel
theorem dX6_clearText_4 : decode cX6_clearText 4 = .ok (.getfield 205, 3) := by decide +kernel
theorem dX6_clearText_7 : decode cX6_clearText 7 = .ok (.istore_n 1, 1) := by decide +kernel
theorem dX6_clearText_8 : decode cX6_clearText 8 = .ok (.aload_n 0, 1) := by decide +kernel
theorem dX6_clearText_9 : decode cX6_clearText 9 = .ok (.getfield 36, 3) := by decide +kernel
theorem dX6_clearText_12 : decode cX6_clearText 12 = .ok (.iconst 0, 1) := by decide +kernel
theorem dX6_clearText_13 : decode cX6_clearText 13 = .ok (.putfield 205, 3) := by decide +kernel
theorem dX6_clearText_16 : decode cX6_clearText 16 = .ok (.iload_n 1, 1) := by decide +kernel
theorem dX6_clearText_17 : decode cX6_clearText 17 = .ok (.ireturn, 1) := by decide +kernel
theorem dX6_faultPosition_0 : decode cX6_faultPosition 0 = .ok (.aload_n 0, 1) := by decide +kernel
theorem dX6_faultPosition_1 : decode cX6_faultPosition 1 = .ok (.getfield 36, 3) := by decide +kernel
theorem dX6_faultPosition_4 : decode cX6_faultPosition 4 = .ok (.invokevirtual 208, 3) := by decide +kernel
theorem dX6_faultPosition_7 : decode cX6_faultPosition 7 = .ok (.ireturn, 1) := by decide +kernel
theorem dX6_run_0 : decode cX6_run 0 = .ok (.aload_n 0, 1) := by decide +kernel
theorem dX6_run_1 : decode cX6_run 1 = .ok (.getfield 36, 3) := by decide +kernel
theorem dX6_run_4 : decode cX6_run 4 = .ok (.invokevirtual 208, 3) := by decide +kernel
theorem dX6_run_7 : decode cX6_run 7 = .ok (.bipush (-6), 2) := by decide +kernel
theorem dX6_run_9 : decode cX6_run 9 = .ok (.if_icmp .eq 6, 3) := by decide +kernel
theorem dX6_run_12 : decode cX6_run 12 = .ok (.bipush (-3), 2) := by decide +kernel
theorem dX6_run_14 : decode cX6_run 14 = .ok (.ireturn, 1) := by decide +kernel
theorem dX6_run_15 : decode cX6_run 15 = .ok (.aload_n 0, 1) := by decide +kernel
theorem dX6_run_16 : decode cX6_run 16 = .ok (.getfield 22, 3) := by decide +kernel
theorem dX6_run_19 : decode cX6_run 19 = .ok (.aload_n 0, 1) := by decide +kernel
theorem dX6_run_20 : decode cX6_run 20 = .ok (.getfield 10, 3) := by decide +kernel
theorem dX6_run_23 : decode cX6_run 23 = .ok (.invokevirtual 40, 3) := by decide +kernel
theorem dX6_run_26 : decode cX6_run 26 = .ok (.aload_n 0, 1) := by decide +kernel
theorem dX6_run_27 : decode cX6_run 27 = .ok (.getfield 36, 3) := by decide +kernel
theorem dX6_run_30 : decode cX6_run 30 = .ok (.invokevirtual 211, 3) := by decide +kernel
theorem dX6_run_33 : decode cX6_run 33 = .ok (.iconst 0, 1) := by decide +kernel
theorem dX6_run_34 : decode cX6_run 34 = .ok (.istore_n 1, 1) := by decide +kernel
theorem dX6_run_35 : decode cX6_run 35 = .ok (.iload_n 1, 1) := by decide +kernel
theorem dX6_run_36 : decode cX6_run 36 = .ok (.bipush 80, 2) := by decide +kernel
theorem dX6_run_38 : decode cX6_run 38 = .ok (.if_icmp .ge 26, 3) := by decide +kernel
theorem dX6_run_41 : decode cX6_run 41 = .ok (.aload_n 0, 1) := by decide +kernel
theorem dX6_run_42 : decode cX6_run 42 = .ok (.getfield 36, 3) := by decide +kernel
theorem dX6_run_45 : decode cX6_run 45 = .ok (.invokevirtual 214, 3) := by decide +kernel
theorem dX6_run_48 : decode cX6_run 48 = .ok (.ifCond .eq 16, 3) := by decide +kernel
theorem dX6_run_51 : decode cX6_run 51 = .ok (.aload_n 0, 1) := by decide +kernel
theorem dX6_run_52 : decode cX6_run 52 = .ok (.invokevirtual 217, 3) := by decide +kernel
theorem dX6_run_55 : decode cX6_run 55 = .ok (.ifCond .lt 9, 3) := by decide +kernel
theorem dX6_run_58 : decode cX6_run 58 = .ok (.iinc 1 1, 3) := by decide +kernel
theorem dX6_run_61 : decode cX6_run 61 = .ok (.goto (-26), 3) := by decide +kernel
theorem dX6_run_64 : decode cX6_run 64 = .ok (.iload_n 1, 1) := by decide +kernel
theorem dX6_run_65 : decode cX6_run 65 = .ok (.ireturn, 1) := by decide +kernel
theorem dX6_undo_0 : decode cX6_undo 0 = .ok (.aload_n 0, 1) := by decide +kernel
theorem dX6_undo_1 : decode cX6_undo 1 = .ok (.getfield 22, 3) := by decide +kernel
theorem dX6_undo_4 : decode cX6_undo 4 = .ok (.aload_n 0, 1) := by decide +kernel
theorem dX6_undo_5 : decode cX6_undo 5 = .ok (.getfield 10, 3) := by decide +kernel
theorem dX6_undo_8 : decode cX6_undo 8 = .ok (.invokevirtual 220, 3) := by decide +kernel
theorem dX6_undo_11 : decode cX6_undo 11 = .ok (.ifCond .eq 13, 3) := by decide +kernel
theorem dX6_undo_14 : decode cX6_undo 14 = .ok (.aload_n 0, 1) := by decide +kernel
theorem dX6_undo_15 : decode cX6_undo 15 = .ok (.getfield 22, 3) := by decide +kernel
theorem dX6_undo_18 : decode cX6_undo 18 = .ok (.getfield 148, 3) := by decide +kernel
theorem dX6_undo_21 : decode cX6_undo 21 = .ok (.goto 5, 3) := by decide +kernel
theorem dX6_undo_24 : decode cX6_undo 24 = .ok (.bipush (-3), 2) := by decide +kernel
theorem dX6_undo_26 : decode cX6_undo 26 = .ok (.ireturn, 1) := by decide +kernel
theorem dX6_keep_0 : decode cX6_keep 0 = .ok (.aload_n 0, 1) := by decide +kernel
theorem dX6_keep_1 : decode cX6_keep 1 = .ok (.getfield 29, 3) := by decide +kernel
theorem dX6_keep_4 : decode cX6_keep 4 = .ok (.iload_n 1, 1) := by decide +kernel
theorem dX6_keep_5 : decode cX6_keep 5 = .ok (.aload_n 0, 1) := by decide +kernel
theorem dX6_keep_6 : decode cX6_keep 6 = .ok (.getfield 10, 3) := by decide +kernel
theorem dX6_keep_9 : decode cX6_keep 9 = .ok (.invokevirtual 224, 3) := by decide +kernel
theorem dX6_keep_12 : decode cX6_keep 12 = .ok (.ifCond .eq 13, 3) := by decide +kernel
theorem dX6_keep_15 : decode cX6_keep 15 = .ok (.aload_n 0, 1) := by decide +kernel
theorem dX6_keep_16 : decode cX6_keep 16 = .ok (.getfield 10, 3) := by decide +kernel
theorem dX6_keep_19 : decode cX6_keep 19 = .ok (.getfield 136, 3) := by decide +kernel
theorem dX6_keep_22 : decode cX6_keep 22 = .ok (.goto 4, 3) := by decide +kernel
theorem dX6_keep_25 : decode cX6_keep 25 = .ok (.iconst (-1), 1) := by decide +kernel
theorem dX6_keep_26 : decode cX6_keep 26 = .ok (.ireturn, 1) := by decide +kernel
theorem dX6_restore_0 : decode cX6_restore 0 = .ok (.iload_n 1, 1) := by decide +kernel
theorem dX6_restore_1 : decode cX6_restore 1 = .ok (.ifCond .lt 8, 3) := by decide +kernel
theorem dX6_restore_4 : decode cX6_restore 4 = .ok (.iload_n 1, 1) := by decide +kernel
theorem dX6_restore_5 : decode cX6_restore 5 = .ok (.iconst 2, 1) := by decide +kernel
theorem dX6_restore_6 : decode cX6_restore 6 = .ok (.if_icmp .lt 5, 3) := by decide +kernel
theorem dX6_restore_9 : decode cX6_restore 9 = .ok (.iconst (-1), 1) := by decide +kernel
theorem dX6_restore_10 : decode cX6_restore 10 = .ok (.ireturn, 1) := by decide +kernel
theorem dX6_restore_11 : decode cX6_restore 11 = .ok (.aload_n 0, 1) := by decide +kernel
theorem dX6_restore_12 : decode cX6_restore 12 = .ok (.getfield 29, 3) := by decide +kernel
theorem dX6_restore_15 : decode cX6_restore 15 = .ok (.iload_n 1, 1) := by decide +kernel
theorem dX6_restore_16 : decode cX6_restore 16 = .ok (.invokevirtual 228, 3) := by decide +kernel
theorem dX6_restore_19 : decode cX6_restore 19 = .ok (.astore_n 2, 1) := by decide +kernel
theorem dX6_restore_20 : decode cX6_restore 20 = .ok (.aload_n 2, 1) := by decide +kernel
theorem dX6_restore_21 : decode cX6_restore 21 = .ok (.ifnonnull 6, 3) := by decide +kernel
theorem dX6_restore_24 : decode cX6_restore 24 = .ok (.bipush (-3), 2) := by decide +kernel
theorem dX6_restore_26 : decode cX6_restore 26 = .ok (.ireturn, 1) := by decide +kernel
theorem dX6_restore_27 : decode cX6_restore 27 = .ok (.aload_n 0, 1) := by decide +kernel
theorem dX6_restore_28 : decode cX6_restore 28 = .ok (.getfield 22, 3) := by decide +kernel
theorem dX6_restore_31 : decode cX6_restore 31 = .ok (.aload_n 0, 1) := by decide +kernel
theorem dX6_restore_32 : decode cX6_restore 32 = .ok (.getfield 10, 3) := by decide +kernel
theorem dX6_restore_35 : decode cX6_restore 35 = .ok (.invokevirtual 40, 3) := by decide +kernel
theorem dX6_restore_38 : decode cX6_restore 38 = .ok (.aload_n 0, 1) := by decide +kernel
theorem dX6_restore_39 : decode cX6_restore 39 = .ok (.getfield 10, 3) := by decide +kernel
theorem dX6_restore_42 : decode cX6_restore 42 = .ok (.aload_n 2, 1) := by decide +kernel
theorem dX6_restore_43 : decode cX6_restore 43 = .ok (.invokevirtual 188, 3) := by decide +kernel
theorem dX6_restore_46 : decode cX6_restore 46 = .ok (.aload_n 0, 1) := by decide +kernel
theorem dX6_restore_47 : decode cX6_restore 47 = .ok (.getfield 10, 3) := by decide +kernel
theorem dX6_restore_50 : decode cX6_restore 50 = .ok (.getfield 136, 3) := by decide +kernel
theorem dX6_restore_53 : decode cX6_restore 53 = .ok (.ireturn, 1) := by decide +kernel
theorem dX6_checksum_0 : decode cX6_checksum 0 = .ok (.ldc2_w 232, 3) := by decide +kernel
theorem dX6_checksum_3 : decode cX6_checksum 3 = .ok (.lstore_n 1, 1) := by decide +kernel
theorem dX6_checksum_4 : decode cX6_checksum 4 = .ok (.iconst 0, 1) := by decide +kernel
theorem dX6_checksum_5 : decode cX6_checksum 5 = .ok (.istore_n 3, 1) := by decide +kernel
theorem dX6_checksum_6 : decode cX6_checksum 6 = .ok (.iload_n 3, 1) := by decide +kernel
theorem dX6_checksum_7 : decode cX6_checksum 7 = .ok (.bipush 18, 2) := by decide +kernel
theorem dX6_checksum_9 : decode cX6_checksum 9 = .ok (.if_icmp .ge 22, 3) := by decide +kernel
theorem dX6_checksum_12 : decode cX6_checksum 12 = .ok (.ldc2_w 234, 3) := by decide +kernel
theorem dX6_checksum_15 : decode cX6_checksum 15 = .ok (.lload_n 1, 1) := by decide +kernel
theorem dX6_checksum_16 : decode cX6_checksum 16 = .ok (.lmul, 1) := by decide +kernel
theorem dX6_checksum_17 : decode cX6_checksum 17 = .ok (.aload_n 0, 1) := by decide +kernel
theorem dX6_checksum_18 : decode cX6_checksum 18 = .ok (.iload_n 3, 1) := by decide +kernel
theorem dX6_checksum_19 : decode cX6_checksum 19 = .ok (.invokevirtual 236, 3) := by decide +kernel
theorem dX6_checksum_22 : decode cX6_checksum 22 = .ok (.i2l, 1) := by decide +kernel
theorem dX6_checksum_23 : decode cX6_checksum 23 = .ok (.ladd, 1) := by decide +kernel
theorem dX6_checksum_24 : decode cX6_checksum 24 = .ok (.lstore_n 1, 1) := by decide +kernel
theorem dX6_checksum_25 : decode cX6_checksum 25 = .ok (.iinc 3 1, 3) := by decide +kernel
theorem dX6_checksum_28 : decode cX6_checksum 28 = .ok (.goto (-22), 3) := by decide +kernel
theorem dX6_checksum_31 : decode cX6_checksum 31 = .ok (.aload_n 0, 1) := by decide +kernel
theorem dX6_checksum_32 : decode cX6_checksum 32 = .ok (.invokevirtual 169, 3) := by decide +kernel
theorem dX6_checksum_35 : decode cX6_checksum 35 = .ok (.iconst 0, 1) := by decide +kernel
theorem dX6_checksum_36 : decode cX6_checksum 36 = .ok (.istore_n 3, 1) := by decide +kernel
theorem dX6_checksum_37 : decode cX6_checksum 37 = .ok (.iload_n 3, 1) := by decide +kernel
theorem dX6_checksum_38 : decode cX6_checksum 38 = .ok (.aload_n 0, 1) := by decide +kernel
theorem dX6_checksum_39 : decode cX6_checksum 39 = .ok (.getfield 10, 3) := by decide +kernel
theorem dX6_checksum_42 : decode cX6_checksum 42 = .ok (.getfield 239, 3) := by decide +kernel
theorem dX6_checksum_45 : decode cX6_checksum 45 = .ok (.if_icmp .ge 66, 3) := by decide +kernel
theorem dX6_checksum_48 : decode cX6_checksum 48 = .ok (.iconst 0, 1) := by decide +kernel
theorem dX6_checksum_49 : decode cX6_checksum 49 = .ok (.istore 4, 2) := by decide +kernel
theorem dX6_checksum_51 : decode cX6_checksum 51 = .ok (.iload 4, 2) := by decide +kernel
theorem dX6_checksum_53 : decode cX6_checksum 53 = .ok (.bipush 8, 2) := by decide +kernel
theorem dX6_checksum_55 : decode cX6_checksum 55 = .ok (.if_icmp .ge 24, 3) := by decide +kernel
theorem dX6_checksum_58 : decode cX6_checksum 58 = .ok (.ldc2_w 234, 3) := by decide +kernel
theorem dX6_checksum_61 : decode cX6_checksum 61 = .ok (.lload_n 1, 1) := by decide +kernel
theorem dX6_checksum_62 : decode cX6_checksum 62 = .ok (.lmul, 1) := by decide +kernel
theorem dX6_checksum_63 : decode cX6_checksum 63 = .ok (.aload_n 0, 1) := by decide +kernel
theorem dX6_checksum_64 : decode cX6_checksum 64 = .ok (.iload_n 3, 1) := by decide +kernel
theorem dX6_checksum_65 : decode cX6_checksum 65 = .ok (.iload 4, 2) := by decide +kernel
theorem dX6_checksum_67 : decode cX6_checksum 67 = .ok (.invokevirtual 242, 3) := by decide +kernel
theorem dX6_checksum_70 : decode cX6_checksum 70 = .ok (.i2l, 1) := by decide +kernel
theorem dX6_checksum_71 : decode cX6_checksum 71 = .ok (.ladd, 1) := by decide +kernel
theorem dX6_checksum_72 : decode cX6_checksum 72 = .ok (.lstore_n 1, 1) := by decide +kernel
theorem dX6_checksum_73 : decode cX6_checksum 73 = .ok (.iinc 4 1, 3) := by decide +kernel
theorem dX6_checksum_76 : decode cX6_checksum 76 = .ok (.goto (-25), 3) := by decide +kernel
theorem dX6_checksum_79 : decode cX6_checksum 79 = .ok (.ldc2_w 234, 3) := by decide +kernel
theorem dX6_checksum_82 : decode cX6_checksum 82 = .ok (.lload_n 1, 1) := by decide +kernel
theorem dX6_checksum_83 : decode cX6_checksum 83 = .ok (.lmul, 1) := by decide +kernel
theorem dX6_checksum_84 : decode cX6_checksum 84 = .ok (.aload_n 0, 1) := by decide +kernel
theorem dX6_checksum_85 : decode cX6_checksum 85 = .ok (.iload_n 3, 1) := by decide +kernel
theorem dX6_checksum_86 : decode cX6_checksum 86 = .ok (.invokevirtual 245, 3) := by decide +kernel
theorem dX6_checksum_89 : decode cX6_checksum 89 = .ok (.i2l, 1) := by decide +kernel
theorem dX6_checksum_90 : decode cX6_checksum 90 = .ok (.ladd, 1) := by decide +kernel
theorem dX6_checksum_91 : decode cX6_checksum 91 = .ok (.lstore_n 1, 1) := by decide +kernel
theorem dX6_checksum_92 : decode cX6_checksum 92 = .ok (.ldc2_w 234, 3) := by decide +kernel
theorem dX6_checksum_95 : decode cX6_checksum 95 = .ok (.lload_n 1, 1) := by decide +kernel
theorem dX6_checksum_96 : decode cX6_checksum 96 = .ok (.lmul, 1) := by decide +kernel
theorem dX6_checksum_97 : decode cX6_checksum 97 = .ok (.aload_n 0, 1) := by decide +kernel
theorem dX6_checksum_98 : decode cX6_checksum 98 = .ok (.iload_n 3, 1) := by decide +kernel
theorem dX6_checksum_99 : decode cX6_checksum 99 = .ok (.invokevirtual 172, 3) := by decide +kernel
theorem dX6_checksum_102 : decode cX6_checksum 102 = .ok (.i2l, 1) := by decide +kernel
theorem dX6_checksum_103 : decode cX6_checksum 103 = .ok (.ladd, 1) := by decide +kernel
theorem dX6_checksum_104 : decode cX6_checksum 104 = .ok (.lstore_n 1, 1) := by decide +kernel
theorem dX6_checksum_105 : decode cX6_checksum 105 = .ok (.iinc 3 1, 3) := by decide +kernel
theorem dX6_checksum_108 : decode cX6_checksum 108 = .ok (.goto (-71), 3) := by decide +kernel
theorem dX6_checksum_111 : decode cX6_checksum 111 = .ok (.iconst 0, 1) := by decide +kernel
theorem dX6_checksum_112 : decode cX6_checksum 112 = .ok (.istore_n 3, 1) := by decide +kernel
theorem dX6_checksum_113 : decode cX6_checksum 113 = .ok (.iload_n 3, 1) := by decide +kernel
theorem dX6_checksum_114 : decode cX6_checksum 114 = .ok (.aload_n 0, 1) := by decide +kernel
theorem dX6_checksum_115 : decode cX6_checksum 115 = .ok (.getfield 10, 3) := by decide +kernel
theorem dX6_checksum_118 : decode cX6_checksum 118 = .ok (.getfield 44, 3) := by decide +kernel
theorem dX6_checksum_121 : decode cX6_checksum 121 = .ok (.if_icmp .ge 22, 3) := by decide +kernel
theorem dX6_checksum_124 : decode cX6_checksum 124 = .ok (.ldc2_w 234, 3) := by decide +kernel
theorem dX6_checksum_127 : decode cX6_checksum 127 = .ok (.lload_n 1, 1) := by decide +kernel
theorem dX6_checksum_128 : decode cX6_checksum 128 = .ok (.lmul, 1) := by decide +kernel
theorem dX6_checksum_129 : decode cX6_checksum 129 = .ok (.aload_n 0, 1) := by decide +kernel
theorem dX6_checksum_130 : decode cX6_checksum 130 = .ok (.iload_n 3, 1) := by decide +kernel
theorem dX6_checksum_131 : decode cX6_checksum 131 = .ok (.invokevirtual 248, 3) := by decide +kernel
theorem dX6_checksum_134 : decode cX6_checksum 134 = .ok (.i2l, 1) := by decide +kernel
theorem dX6_checksum_135 : decode cX6_checksum 135 = .ok (.ladd, 1) := by decide +kernel
theorem dX6_checksum_136 : decode cX6_checksum 136 = .ok (.lstore_n 1, 1) := by decide +kernel
theorem dX6_checksum_137 : decode cX6_checksum 137 = .ok (.iinc 3 1, 3) := by decide +kernel
theorem dX6_checksum_140 : decode cX6_checksum 140 = .ok (.goto (-27), 3) := by decide +kernel
theorem dX6_checksum_143 : decode cX6_checksum 143 = .ok (.lload_n 1, 1) := by decide +kernel
theorem dX6_checksum_144 : decode cX6_checksum 144 = .ok (.lreturn, 1) := by decide +kernel
theorem dX6_asNumber_0 : decode cX6_asNumber 0 = .ok (.iload_n 0, 1) := by decide +kernel
theorem dX6_asNumber_1 : decode cX6_asNumber 1 = .ok (.ifCond .eq 7, 3) := by decide +kernel
theorem dX6_asNumber_4 : decode cX6_asNumber 4 = .ok (.iconst 1, 1) := by decide +kernel
theorem dX6_asNumber_5 : decode cX6_asNumber 5 = .ok (.goto 4, 3) := by decide +kernel
theorem dX6_asNumber_8 : decode cX6_asNumber 8 = .ok (.iconst 0, 1) := by decide +kernel
theorem dX6_asNumber_9 : decode cX6_asNumber 9 = .ok (.ireturn, 1) := by decide +kernel
theorem dX6_isFuel_0 : decode cX6_isFuel 0 = .ok (.iload_n 0, 1) := by decide +kernel
theorem dX6_isFuel_1 : decode cX6_isFuel 1 = .ok (.iconst 1, 1) := by decide +kernel
theorem dX6_isFuel_2 : decode cX6_isFuel 2 = .ok (.if_icmp .lt 14, 3) := by decide +kernel
theorem dX6_isFuel_5 : decode cX6_isFuel 5 = .ok (.iload_n 0, 1) := by decide +kernel
theorem dX6_isFuel_6 : decode cX6_isFuel 6 = .ok (.sipush 9999, 3) := by decide +kernel
theorem dX6_isFuel_9 : decode cX6_isFuel 9 = .ok (.if_icmp .gt 7, 3) := by decide +kernel
theorem dX6_isFuel_12 : decode cX6_isFuel 12 = .ok (.iconst 1, 1) := by decide +kernel
theorem dX6_isFuel_13 : decode cX6_isFuel 13 = .ok (.goto 4, 3) := by decide +kernel
theorem dX6_isFuel_16 : decode cX6_isFuel 16 = .ok (.iconst 0, 1) := by decide +kernel
theorem dX6_isFuel_17 : decode cX6_isFuel 17 = .ok (.ireturn, 1) := by decide +kernel
theorem dX6_tellHolding_0 : decode cX6_tellHolding 0 = .ok (.iload_n 1, 1) := by decide +kernel
theorem dX6_tellHolding_1 : decode cX6_tellHolding 1 = .ok (.iconst 3, 1) := by decide +kernel
theorem dX6_tellHolding_2 : decode cX6_tellHolding 2 = .ok (.if_icmp .ne 8, 3) := by decide +kernel
theorem dX6_tellHolding_5 : decode cX6_tellHolding 5 = .ok (.aload_n 0, 1) := by decide +kernel
theorem dX6_tellHolding_6 : decode cX6_tellHolding 6 = .ok (.getfield 160, 3) := by decide +kernel
theorem dX6_tellHolding_9 : decode cX6_tellHolding 9 = .ok (.ireturn, 1) := by decide +kernel
theorem dX6_tellHolding_10 : decode cX6_tellHolding 10 = .ok (.iload_n 1, 1) := by decide +kernel
theorem dX6_tellHolding_11 : decode cX6_tellHolding 11 = .ok (.iconst 4, 1) := by decide +kernel
theorem dX6_tellHolding_12 : decode cX6_tellHolding 12 = .ok (.if_icmp .ne 10, 3) := by decide +kernel
theorem dX6_tellHolding_15 : decode cX6_tellHolding 15 = .ok (.aload_n 0, 1) := by decide +kernel
theorem dX6_tellHolding_16 : decode cX6_tellHolding 16 = .ok (.getfield 250, 3) := by decide +kernel
theorem dX6_tellHolding_19 : decode cX6_tellHolding 19 = .ok (.goto 10, 3) := by decide +kernel
theorem dX6_tellHolding_22 : decode cX6_tellHolding 22 = .ok (.aload_n 0, 1) := by decide +kernel
theorem dX6_tellHolding_23 : decode cX6_tellHolding 23 = .ok (.getfield 166, 3) := by decide +kernel
theorem dX6_tellHolding_26 : decode cX6_tellHolding 26 = .ok (.invokestatic 65, 3) := by decide +kernel
theorem dX6_tellHolding_29 : decode cX6_tellHolding 29 = .ok (.ireturn, 1) := by decide +kernel
theorem dX6_tellNumberOfAircraft_0 : decode cX6_tellNumberOfAircraft 0 = .ok (.iload_n 1, 1) := by decide +kernel
theorem dX6_tellNumberOfAircraft_1 : decode cX6_tellNumberOfAircraft 1 = .ok (.iconst 3, 1) := by decide +kernel
theorem dX6_tellNumberOfAircraft_2 : decode cX6_tellNumberOfAircraft 2 = .ok (.if_icmp .ne 11, 3) := by decide +kernel
theorem dX6_tellNumberOfAircraft_5 : decode cX6_tellNumberOfAircraft 5 = .ok (.aload_n 0, 1) := by decide +kernel
theorem dX6_tellNumberOfAircraft_6 : decode cX6_tellNumberOfAircraft 6 = .ok (.getfield 10, 3) := by decide +kernel
theorem dX6_tellNumberOfAircraft_9 : decode cX6_tellNumberOfAircraft 9 = .ok (.getfield 239, 3) := by decide +kernel
theorem dX6_tellNumberOfAircraft_12 : decode cX6_tellNumberOfAircraft 12 = .ok (.ireturn, 1) := by decide +kernel
theorem dX6_tellNumberOfAircraft_13 : decode cX6_tellNumberOfAircraft 13 = .ok (.aload_n 0, 1) := by decide +kernel
theorem dX6_tellNumberOfAircraft_14 : decode cX6_tellNumberOfAircraft 14 = .ok (.getfield 10, 3) := by decide +kernel
theorem dX6_tellNumberOfAircraft_17 : decode cX6_tellNumberOfAircraft 17 = .ok (.iload_n 1, 1) := by decide +kernel
theorem dX6_tellNumberOfAircraft_18 : decode cX6_tellNumberOfAircraft 18 = .ok (.iconst 4, 1) := by decide +kernel
theorem dX6_tellNumberOfAircraft_19 : decode cX6_tellNumberOfAircraft 19 = .ok (.if_icmp .ne 7, 3) := by decide +kernel
theorem dX6_tellNumberOfAircraft_22 : decode cX6_tellNumberOfAircraft 22 = .ok (.iconst 0, 1) := by decide +kernel
theorem dX6_tellNumberOfAircraft_23 : decode cX6_tellNumberOfAircraft 23 = .ok (.goto 13, 3) := by decide +kernel
theorem dX6_tellNumberOfAircraft_26 : decode cX6_tellNumberOfAircraft 26 = .ok (.iload_n 1, 1) := by decide +kernel
theorem dX6_tellNumberOfAircraft_27 : decode cX6_tellNumberOfAircraft 27 = .ok (.iconst 5, 1) := by decide +kernel
theorem dX6_tellNumberOfAircraft_28 : decode cX6_tellNumberOfAircraft 28 = .ok (.if_icmp .ne 7, 3) := by decide +kernel
theorem dX6_tellNumberOfAircraft_31 : decode cX6_tellNumberOfAircraft 31 = .ok (.iconst 1, 1) := by decide +kernel
theorem dX6_tellNumberOfAircraft_32 : decode cX6_tellNumberOfAircraft 32 = .ok (.goto 4, 3) := by decide +kernel
theorem dX6_tellNumberOfAircraft_35 : decode cX6_tellNumberOfAircraft 35 = .ok (.iconst 2, 1) := by decide +kernel
theorem dX6_tellNumberOfAircraft_36 : decode cX6_tellNumberOfAircraft 36 = .ok (.invokevirtual 253, 3) := by decide +kernel
theorem dX6_tellNumberOfAircraft_39 : decode cX6_tellNumberOfAircraft 39 = .ok (.ireturn, 1) := by decide +kernel
theorem dX6_tellFuel_0 : decode cX6_tellFuel 0 = .ok (.iload_n 1, 1) := by decide +kernel
theorem dX6_tellFuel_1 : decode cX6_tellFuel 1 = .ok (.bipush 12, 2) := by decide +kernel
theorem dX6_tellFuel_3 : decode cX6_tellFuel 3 = .ok (.if_icmp .ne 11, 3) := by decide +kernel
theorem dX6_tellFuel_6 : decode cX6_tellFuel 6 = .ok (.aload_n 0, 1) := by decide +kernel
theorem dX6_tellFuel_7 : decode cX6_tellFuel 7 = .ok (.getfield 10, 3) := by decide +kernel
theorem dX6_tellFuel_10 : decode cX6_tellFuel 10 = .ok (.getfield 256, 3) := by decide +kernel
theorem dX6_tellFuel_13 : decode cX6_tellFuel 13 = .ok (.ireturn, 1) := by decide +kernel
theorem dX6_tellFuel_14 : decode cX6_tellFuel 14 = .ok (.iload_n 1, 1) := by decide +kernel
theorem dX6_tellFuel_15 : decode cX6_tellFuel 15 = .ok (.bipush 13, 2) := by decide +kernel
theorem dX6_tellFuel_17 : decode cX6_tellFuel 17 = .ok (.if_icmp .ne 11, 3) := by decide +kernel
theorem dX6_tellFuel_20 : decode cX6_tellFuel 20 = .ok (.aload_n 0, 1) := by decide +kernel
theorem dX6_tellFuel_21 : decode cX6_tellFuel 21 = .ok (.getfield 10, 3) := by decide +kernel
theorem dX6_tellFuel_24 : decode cX6_tellFuel 24 = .ok (.getfield 259, 3) := by decide +kernel
theorem dX6_tellFuel_27 : decode cX6_tellFuel 27 = .ok (.ireturn, 1) := by decide +kernel
theorem dX6_tellFuel_28 : decode cX6_tellFuel 28 = .ok (.iload_n 1, 1) := by decide +kernel
theorem dX6_tellFuel_29 : decode cX6_tellFuel 29 = .ok (.bipush 14, 2) := by decide +kernel
theorem dX6_tellFuel_31 : decode cX6_tellFuel 31 = .ok (.if_icmp .ne 13, 3) := by decide +kernel
theorem dX6_tellFuel_34 : decode cX6_tellFuel 34 = .ok (.aload_n 0, 1) := by decide +kernel
theorem dX6_tellFuel_35 : decode cX6_tellFuel 35 = .ok (.getfield 10, 3) := by decide +kernel
theorem dX6_tellFuel_38 : decode cX6_tellFuel 38 = .ok (.getfield 262, 3) := by decide +kernel
theorem dX6_tellFuel_41 : decode cX6_tellFuel 41 = .ok (.goto 10, 3) := by decide +kernel
theorem dX6_tellFuel_44 : decode cX6_tellFuel 44 = .ok (.aload_n 0, 1) := by decide +kernel
theorem dX6_tellFuel_45 : decode cX6_tellFuel 45 = .ok (.getfield 10, 3) := by decide +kernel
theorem dX6_tellFuel_48 : decode cX6_tellFuel 48 = .ok (.getfield 265, 3) := by decide +kernel
theorem dX6_tellFuel_51 : decode cX6_tellFuel 51 = .ok (.ireturn, 1) := by decide +kernel
theorem dX6_checkEntry_0 : decode cX6_checkEntry 0 = .ok (.aload_n 1, 1) := by decide +kernel
theorem dX6_checkEntry_1 : decode cX6_checkEntry 1 = .ok (.ifnull 14, 3) := by decide +kernel
theorem dX6_checkEntry_4 : decode cX6_checkEntry 4 = .ok (.aload_n 0, 1) := by decide +kernel
theorem dX6_checkEntry_5 : decode cX6_checkEntry 5 = .ok (.getfield 10, 3) := by decide +kernel
theorem dX6_checkEntry_8 : decode cX6_checkEntry 8 = .ok (.iload_n 3, 1) := by decide +kernel
theorem dX6_checkEntry_9 : decode cX6_checkEntry 9 = .ok (.invokevirtual 95, 3) := by decide +kernel
theorem dX6_checkEntry_12 : decode cX6_checkEntry 12 = .ok (.ifCond .ne 5, 3) := by decide +kernel
theorem dX6_checkEntry_15 : decode cX6_checkEntry 15 = .ok (.iconst (-1), 1) := by decide +kernel
theorem dX6_checkEntry_16 : decode cX6_checkEntry 16 = .ok (.ireturn, 1) := by decide +kernel
theorem dX6_checkEntry_17 : decode cX6_checkEntry 17 = .ok (.iload_n 2, 1) := by decide +kernel
theorem dX6_checkEntry_18 : decode cX6_checkEntry 18 = .ok (.invokestatic 179, 3) := by decide +kernel
theorem dX6_checkEntry_21 : decode cX6_checkEntry 21 = .ok (.ifCond .ne 6, 3) := by decide +kernel
theorem dX6_checkEntry_24 : decode cX6_checkEntry 24 = .ok (.bipush (-2), 2) := by decide +kernel
theorem dX6_checkEntry_26 : decode cX6_checkEntry 26 = .ok (.ireturn, 1) := by decide +kernel
theorem dX6_checkEntry_27 : decode cX6_checkEntry 27 = .ok (.aload_n 0, 1) := by decide +kernel
theorem dX6_checkEntry_28 : decode cX6_checkEntry 28 = .ok (.getfield 10, 3) := by decide +kernel
theorem dX6_checkEntry_31 : decode cX6_checkEntry 31 = .ok (.invokevirtual 182, 3) := by decide +kernel
theorem dX6_checkEntry_34 : decode cX6_checkEntry 34 = .ok (.ifCond .eq 6, 3) := by decide +kernel
theorem dX6_checkEntry_37 : decode cX6_checkEntry 37 = .ok (.bipush (-4), 2) := by decide +kernel
theorem dX6_checkEntry_39 : decode cX6_checkEntry 39 = .ok (.ireturn, 1) := by decide +kernel
theorem dX6_checkEntry_40 : decode cX6_checkEntry 40 = .ok (.aload_n 0, 1) := by decide +kernel
theorem dX6_checkEntry_41 : decode cX6_checkEntry 41 = .ok (.getfield 10, 3) := by decide +kernel
theorem dX6_checkEntry_44 : decode cX6_checkEntry 44 = .ok (.aload_n 1, 1) := by decide +kernel
theorem dX6_checkEntry_45 : decode cX6_checkEntry 45 = .ok (.iload_n 2, 1) := by decide +kernel
theorem dX6_checkEntry_46 : decode cX6_checkEntry 46 = .ok (.iload_n 3, 1) := by decide +kernel
theorem dX6_checkEntry_47 : decode cX6_checkEntry 47 = .ok (.invokevirtual 185, 3) := by decide +kernel
theorem dX6_checkEntry_50 : decode cX6_checkEntry 50 = .ok (.istore 4, 2) := by decide +kernel
theorem dX6_checkEntry_52 : decode cX6_checkEntry 52 = .ok (.iload 4, 2) := by decide +kernel
theorem dX6_checkEntry_54 : decode cX6_checkEntry 54 = .ok (.ifCond .ne 5, 3) := by decide +kernel
theorem dX6_checkEntry_57 : decode cX6_checkEntry 57 = .ok (.iconst 0, 1) := by decide +kernel
theorem dX6_checkEntry_58 : decode cX6_checkEntry 58 = .ok (.ireturn, 1) := by decide +kernel
theorem dX6_checkEntry_59 : decode cX6_checkEntry 59 = .ok (.aload_n 0, 1) := by decide +kernel
theorem dX6_checkEntry_60 : decode cX6_checkEntry 60 = .ok (.getfield 10, 3) := by decide +kernel
theorem dX6_checkEntry_63 : decode cX6_checkEntry 63 = .ok (.iload 4, 2) := by decide +kernel
theorem dX6_checkEntry_65 : decode cX6_checkEntry 65 = .ok (.putfield 145, 3) := by decide +kernel
theorem dX6_checkEntry_68 : decode cX6_checkEntry 68 = .ok (.bipush (-5), 2) := by decide +kernel
theorem dX6_checkEntry_70 : decode cX6_checkEntry 70 = .ok (.ireturn, 1) := by decide +kernel
theorem dX6_checkCall_0 : decode cX6_checkCall 0 = .ok (.aload_n 0, 1) := by decide +kernel
theorem dX6_checkCall_1 : decode cX6_checkCall 1 = .ok (.getfield 10, 3) := by decide +kernel
theorem dX6_checkCall_4 : decode cX6_checkCall 4 = .ok (.iload_n 1, 1) := by decide +kernel
theorem dX6_checkCall_5 : decode cX6_checkCall 5 = .ok (.invokevirtual 108, 3) := by decide +kernel
theorem dX6_checkCall_8 : decode cX6_checkCall 8 = .ok (.astore_n 2, 1) := by decide +kernel
theorem dX6_checkCall_9 : decode cX6_checkCall 9 = .ok (.aload_n 2, 1) := by decide +kernel
theorem dX6_checkCall_10 : decode cX6_checkCall 10 = .ok (.ifnonnull 5, 3) := by decide +kernel
theorem dX6_checkCall_13 : decode cX6_checkCall 13 = .ok (.iconst (-1), 1) := by decide +kernel
theorem dX6_checkCall_14 : decode cX6_checkCall 14 = .ok (.ireturn, 1) := by decide +kernel
theorem dX6_checkCall_15 : decode cX6_checkCall 15 = .ok (.aload_n 2, 1) := by decide +kernel
theorem dX6_checkCall_16 : decode cX6_checkCall 16 = .ok (.invokevirtual 126, 3) := by decide +kernel
theorem dX6_checkCall_19 : decode cX6_checkCall 19 = .ok (.ifCond .eq 21, 3) := by decide +kernel
theorem dX6_checkCall_22 : decode cX6_checkCall 22 = .ok (.aload_n 2, 1) := by decide +kernel
theorem dX6_checkCall_23 : decode cX6_checkCall 23 = .ok (.getfield 160, 3) := by decide +kernel
theorem dX6_checkCall_26 : decode cX6_checkCall 26 = .ok (.ifCond .le 14, 3) := by decide +kernel
theorem dX6_checkCall_29 : decode cX6_checkCall 29 = .ok (.aload_n 2, 1) := by decide +kernel
theorem dX6_checkCall_30 : decode cX6_checkCall 30 = .ok (.getfield 166, 3) := by decide +kernel
theorem dX6_checkCall_33 : decode cX6_checkCall 33 = .ok (.ifCond .ne 7, 3) := by decide +kernel
theorem dX6_checkCall_36 : decode cX6_checkCall 36 = .ok (.iconst 0, 1) := by decide +kernel
theorem dX6_checkCall_37 : decode cX6_checkCall 37 = .ok (.goto 5, 3) := by decide +kernel
theorem dX6_checkCall_40 : decode cX6_checkCall 40 = .ok (.bipush (-3), 2) := by decide +kernel
theorem dX6_checkCall_42 : decode cX6_checkCall 42 = .ok (.ireturn, 1) := by decide +kernel
theorem dX6_carryOutStrip_0 : decode cX6_carryOutStrip 0 = .ok (.aload_n 0, 1) := by decide +kernel
theorem dX6_carryOutStrip_1 : decode cX6_carryOutStrip 1 = .ok (.getfield 36, 3) := by decide +kernel
theorem dX6_carryOutStrip_4 : decode cX6_carryOutStrip 4 = .ok (.getfield 268, 3) := by decide +kernel
theorem dX6_carryOutStrip_7 : decode cX6_carryOutStrip 7 = .ok (.lookupswitch 146 #[(43, 33), (99, 96), (116, 131)], 33) := by decide +kernel
theorem dX6_carryOutStrip_40 : decode cX6_carryOutStrip 40 = .ok (.aload_n 0, 1) := by decide +kernel
theorem dX6_carryOutStrip_41 : decode cX6_carryOutStrip 41 = .ok (.aload_n 0, 1) := by decide +kernel
theorem dX6_carryOutStrip_42 : decode cX6_carryOutStrip 42 = .ok (.getfield 36, 3) := by decide +kernel
theorem dX6_carryOutStrip_45 : decode cX6_carryOutStrip 45 = .ok (.getfield 272, 3) := by decide +kernel
theorem dX6_carryOutStrip_48 : decode cX6_carryOutStrip 48 = .ok (.aload_n 0, 1) := by decide +kernel
theorem dX6_carryOutStrip_49 : decode cX6_carryOutStrip 49 = .ok (.getfield 36, 3) := by decide +kernel
theorem dX6_carryOutStrip_52 : decode cX6_carryOutStrip 52 = .ok (.getfield 273, 3) := by decide +kernel
theorem dX6_carryOutStrip_55 : decode cX6_carryOutStrip 55 = .ok (.aload_n 0, 1) := by decide +kernel
theorem dX6_carryOutStrip_56 : decode cX6_carryOutStrip 56 = .ok (.getfield 36, 3) := by decide +kernel
theorem dX6_carryOutStrip_59 : decode cX6_carryOutStrip 59 = .ok (.getfield 274, 3) := by decide +kernel
theorem dX6_carryOutStrip_62 : decode cX6_carryOutStrip 62 = .ok (.invokevirtual 78, 3) := by decide +kernel
theorem dX6_carryOutStrip_65 : decode cX6_carryOutStrip 65 = .ok (.istore_n 1, 1) := by decide +kernel
theorem dX6_carryOutStrip_66 : decode cX6_carryOutStrip 66 = .ok (.iload_n 1, 1) := by decide +kernel
theorem dX6_carryOutStrip_67 : decode cX6_carryOutStrip 67 = .ok (.ifCond .eq 7, 3) := by decide +kernel
theorem dX6_carryOutStrip_70 : decode cX6_carryOutStrip 70 = .ok (.iload_n 1, 1) := by decide +kernel
theorem dX6_carryOutStrip_71 : decode cX6_carryOutStrip 71 = .ok (.goto 31, 3) := by decide +kernel
theorem dX6_carryOutStrip_74 : decode cX6_carryOutStrip 74 = .ok (.aload_n 0, 1) := by decide +kernel
theorem dX6_carryOutStrip_75 : decode cX6_carryOutStrip 75 = .ok (.getfield 10, 3) := by decide +kernel
theorem dX6_carryOutStrip_78 : decode cX6_carryOutStrip 78 = .ok (.aload_n 0, 1) := by decide +kernel
theorem dX6_carryOutStrip_79 : decode cX6_carryOutStrip 79 = .ok (.getfield 36, 3) := by decide +kernel
theorem dX6_carryOutStrip_82 : decode cX6_carryOutStrip 82 = .ok (.getfield 272, 3) := by decide +kernel
theorem dX6_carryOutStrip_85 : decode cX6_carryOutStrip 85 = .ok (.aload_n 0, 1) := by decide +kernel
theorem dX6_carryOutStrip_86 : decode cX6_carryOutStrip 86 = .ok (.getfield 36, 3) := by decide +kernel
theorem dX6_carryOutStrip_89 : decode cX6_carryOutStrip 89 = .ok (.getfield 273, 3) := by decide +kernel
theorem dX6_carryOutStrip_92 : decode cX6_carryOutStrip 92 = .ok (.aload_n 0, 1) := by decide +kernel
theorem dX6_carryOutStrip_93 : decode cX6_carryOutStrip 93 = .ok (.getfield 36, 3) := by decide +kernel
theorem dX6_carryOutStrip_96 : decode cX6_carryOutStrip 96 = .ok (.getfield 274, 3) := by decide +kernel
theorem dX6_carryOutStrip_99 : decode cX6_carryOutStrip 99 = .ok (.invokevirtual 82, 3) := by decide +kernel
theorem dX6_carryOutStrip_102 : decode cX6_carryOutStrip 102 = .ok (.ireturn, 1) := by decide +kernel
theorem dX6_carryOutStrip_103 : decode cX6_carryOutStrip 103 = .ok (.aload_n 0, 1) := by decide +kernel
theorem dX6_carryOutStrip_104 : decode cX6_carryOutStrip 104 = .ok (.aload_n 0, 1) := by decide +kernel
theorem dX6_carryOutStrip_105 : decode cX6_carryOutStrip 105 = .ok (.getfield 36, 3) := by decide +kernel
theorem dX6_carryOutStrip_108 : decode cX6_carryOutStrip 108 = .ok (.getfield 274, 3) := by decide +kernel
theorem dX6_carryOutStrip_111 : decode cX6_carryOutStrip 111 = .ok (.invokevirtual 85, 3) := by decide +kernel
theorem dX6_carryOutStrip_114 : decode cX6_carryOutStrip 114 = .ok (.istore_n 1, 1) := by decide +kernel
theorem dX6_carryOutStrip_115 : decode cX6_carryOutStrip 115 = .ok (.iload_n 1, 1) := by decide +kernel
theorem dX6_carryOutStrip_116 : decode cX6_carryOutStrip 116 = .ok (.ifCond .eq 7, 3) := by decide +kernel
theorem dX6_carryOutStrip_119 : decode cX6_carryOutStrip 119 = .ok (.iload_n 1, 1) := by decide +kernel
theorem dX6_carryOutStrip_120 : decode cX6_carryOutStrip 120 = .ok (.goto 17, 3) := by decide +kernel
theorem dX6_carryOutStrip_123 : decode cX6_carryOutStrip 123 = .ok (.aload_n 0, 1) := by decide +kernel
theorem dX6_carryOutStrip_124 : decode cX6_carryOutStrip 124 = .ok (.getfield 10, 3) := by decide +kernel
theorem dX6_carryOutStrip_127 : decode cX6_carryOutStrip 127 = .ok (.aload_n 0, 1) := by decide +kernel
theorem dX6_carryOutStrip_128 : decode cX6_carryOutStrip 128 = .ok (.getfield 36, 3) := by decide +kernel
theorem dX6_carryOutStrip_131 : decode cX6_carryOutStrip 131 = .ok (.getfield 274, 3) := by decide +kernel
theorem dX6_carryOutStrip_134 : decode cX6_carryOutStrip 134 = .ok (.invokevirtual 89, 3) := by decide +kernel
theorem dX6_carryOutStrip_137 : decode cX6_carryOutStrip 137 = .ok (.ireturn, 1) := by decide +kernel
theorem dX6_carryOutStrip_138 : decode cX6_carryOutStrip 138 = .ok (.aload_n 0, 1) := by decide +kernel
theorem dX6_carryOutStrip_139 : decode cX6_carryOutStrip 139 = .ok (.getfield 10, 3) := by decide +kernel
theorem dX6_carryOutStrip_142 : decode cX6_carryOutStrip 142 = .ok (.aload_n 0, 1) := by decide +kernel
theorem dX6_carryOutStrip_143 : decode cX6_carryOutStrip 143 = .ok (.getfield 36, 3) := by decide +kernel
theorem dX6_carryOutStrip_146 : decode cX6_carryOutStrip 146 = .ok (.getfield 274, 3) := by decide +kernel
theorem dX6_carryOutStrip_149 : decode cX6_carryOutStrip 149 = .ok (.invokevirtual 92, 3) := by decide +kernel
theorem dX6_carryOutStrip_152 : decode cX6_carryOutStrip 152 = .ok (.ireturn, 1) := by decide +kernel
theorem dX6_carryOutStrip_153 : decode cX6_carryOutStrip 153 = .ok (.aload_n 0, 1) := by decide +kernel
theorem dX6_carryOutStrip_154 : decode cX6_carryOutStrip 154 = .ok (.getfield 10, 3) := by decide +kernel
theorem dX6_carryOutStrip_157 : decode cX6_carryOutStrip 157 = .ok (.aload_n 0, 1) := by decide +kernel
theorem dX6_carryOutStrip_158 : decode cX6_carryOutStrip 158 = .ok (.getfield 36, 3) := by decide +kernel
theorem dX6_carryOutStrip_161 : decode cX6_carryOutStrip 161 = .ok (.getfield 268, 3) := by decide +kernel
theorem dX6_carryOutStrip_164 : decode cX6_carryOutStrip 164 = .ok (.bipush 111, 2) := by decide +kernel
theorem dX6_carryOutStrip_166 : decode cX6_carryOutStrip 166 = .ok (.if_icmp .ne 7, 3) := by decide +kernel
theorem dX6_carryOutStrip_169 : decode cX6_carryOutStrip 169 = .ok (.iconst 1, 1) := by decide +kernel
theorem dX6_carryOutStrip_170 : decode cX6_carryOutStrip 170 = .ok (.goto 4, 3) := by decide +kernel
theorem dX6_carryOutStrip_173 : decode cX6_carryOutStrip 173 = .ok (.iconst 0, 1) := by decide +kernel
theorem dX6_carryOutStrip_174 : decode cX6_carryOutStrip 174 = .ok (.putfield 61, 3) := by decide +kernel
theorem dX6_carryOutStrip_177 : decode cX6_carryOutStrip 177 = .ok (.iconst 0, 1) := by decide +kernel
theorem dX6_carryOutStrip_178 : decode cX6_carryOutStrip 178 = .ok (.ireturn, 1) := by decide +kernel
theorem dX6_forecast_0 : decode cX6_forecast 0 = .ok (.aload_n 0, 1) := by decide +kernel
theorem dX6_forecast_1 : decode cX6_forecast 1 = .ok (.getfield 16, 3) := by decide +kernel
theorem dX6_forecast_4 : decode cX6_forecast 4 = .ok (.aload_n 0, 1) := by decide +kernel
theorem dX6_forecast_5 : decode cX6_forecast 5 = .ok (.getfield 10, 3) := by decide +kernel
theorem dX6_forecast_8 : decode cX6_forecast 8 = .ok (.invokevirtual 188, 3) := by decide +kernel
theorem dX6_forecast_11 : decode cX6_forecast 11 = .ok (.iconst 0, 1) := by decide +kernel
theorem dX6_forecast_12 : decode cX6_forecast 12 = .ok (.istore_n 1, 1) := by decide +kernel
theorem dX6_forecast_13 : decode cX6_forecast 13 = .ok (.iload_n 1, 1) := by decide +kernel
theorem dX6_forecast_14 : decode cX6_forecast 14 = .ok (.sipush 600, 3) := by decide +kernel
theorem dX6_forecast_17 : decode cX6_forecast 17 = .ok (.if_icmp .ge 27, 3) := by decide +kernel
theorem dX6_forecast_20 : decode cX6_forecast 20 = .ok (.aload_n 0, 1) := by decide +kernel
theorem dX6_forecast_21 : decode cX6_forecast 21 = .ok (.getfield 16, 3) := by decide +kernel
theorem dX6_forecast_24 : decode cX6_forecast 24 = .ok (.invokevirtual 195, 3) := by decide +kernel
theorem dX6_forecast_27 : decode cX6_forecast 27 = .ok (.ifCond .eq 17, 3) := by decide +kernel
theorem dX6_forecast_30 : decode cX6_forecast 30 = .ok (.aload_n 0, 1) := by decide +kernel
theorem dX6_forecast_31 : decode cX6_forecast 31 = .ok (.getfield 16, 3) := by decide +kernel
theorem dX6_forecast_34 : decode cX6_forecast 34 = .ok (.invokevirtual 198, 3) := by decide +kernel
theorem dX6_forecast_37 : decode cX6_forecast 37 = .ok (.pop, 1) := by decide +kernel
theorem dX6_forecast_38 : decode cX6_forecast 38 = .ok (.iinc 1 1, 3) := by decide +kernel
theorem dX6_forecast_41 : decode cX6_forecast 41 = .ok (.goto (-28), 3) := by decide +kernel
theorem dX6_forecast_44 : decode cX6_forecast 44 = .ok (.return_, 1) := by decide +kernel
theorem dX6_forecastMinutes_0 : decode cX6_forecastMinutes 0 = .ok (.aload_n 0, 1) := by decide +kernel
theorem dX6_forecastMinutes_1 : decode cX6_forecastMinutes 1 = .ok (.getfield 10, 3) := by decide +kernel
theorem dX6_forecastMinutes_4 : decode cX6_forecastMinutes 4 = .ok (.iload_n 1, 1) := by decide +kernel
theorem dX6_forecastMinutes_5 : decode cX6_forecastMinutes 5 = .ok (.invokevirtual 108, 3) := by decide +kernel
theorem dX6_forecastMinutes_8 : decode cX6_forecastMinutes 8 = .ok (.astore_n 2, 1) := by decide +kernel
theorem dX6_forecastMinutes_9 : decode cX6_forecastMinutes 9 = .ok (.aload_n 0, 1) := by decide +kernel
theorem dX6_forecastMinutes_10 : decode cX6_forecastMinutes 10 = .ok (.getfield 16, 3) := by decide +kernel
theorem dX6_forecastMinutes_13 : decode cX6_forecastMinutes 13 = .ok (.iload_n 1, 1) := by decide +kernel
theorem dX6_forecastMinutes_14 : decode cX6_forecastMinutes 14 = .ok (.invokevirtual 108, 3) := by decide +kernel
theorem dX6_forecastMinutes_17 : decode cX6_forecastMinutes 17 = .ok (.astore_n 3, 1) := by decide +kernel
theorem dX6_forecastMinutes_18 : decode cX6_forecastMinutes 18 = .ok (.aload_n 2, 1) := by decide +kernel
theorem dX6_forecastMinutes_19 : decode cX6_forecastMinutes 19 = .ok (.ifnull 15, 3) := by decide +kernel
theorem dX6_forecastMinutes_22 : decode cX6_forecastMinutes 22 = .ok (.aload_n 3, 1) := by decide +kernel
theorem dX6_forecastMinutes_23 : decode cX6_forecastMinutes 23 = .ok (.ifnull 11, 3) := by decide +kernel
theorem dX6_forecastMinutes_26 : decode cX6_forecastMinutes 26 = .ok (.aload_n 3, 1) := by decide +kernel
theorem dX6_forecastMinutes_27 : decode cX6_forecastMinutes 27 = .ok (.getfield 119, 3) := by decide +kernel
theorem dX6_forecastMinutes_30 : decode cX6_forecastMinutes 30 = .ok (.iconst 1, 1) := by decide +kernel
theorem dX6_forecastMinutes_31 : decode cX6_forecastMinutes 31 = .ok (.if_icmp .eq 6, 3) := by decide +kernel
theorem dX6_forecastMinutes_34 : decode cX6_forecastMinutes 34 = .ok (.bipush (-6), 2) := by decide +kernel
theorem dX6_forecastMinutes_36 : decode cX6_forecastMinutes 36 = .ok (.ireturn, 1) := by decide +kernel
theorem dX6_forecastMinutes_37 : decode cX6_forecastMinutes 37 = .ok (.aload_n 2, 1) := by decide +kernel
theorem dX6_forecastMinutes_38 : decode cX6_forecastMinutes 38 = .ok (.getfield 119, 3) := by decide +kernel
theorem dX6_forecastMinutes_41 : decode cX6_forecastMinutes 41 = .ok (.iconst 1, 1) := by decide +kernel
theorem dX6_forecastMinutes_42 : decode cX6_forecastMinutes 42 = .ok (.if_icmp .ne 7, 3) := by decide +kernel
theorem dX6_forecastMinutes_45 : decode cX6_forecastMinutes 45 = .ok (.iconst 0, 1) := by decide +kernel
theorem dX6_forecastMinutes_46 : decode cX6_forecastMinutes 46 = .ok (.goto 17, 3) := by decide +kernel
theorem dX6_forecastMinutes_49 : decode cX6_forecastMinutes 49 = .ok (.aload_n 3, 1) := by decide +kernel
theorem dX6_forecastMinutes_50 : decode cX6_forecastMinutes 50 = .ok (.getfield 129, 3) := by decide +kernel
theorem dX6_forecastMinutes_53 : decode cX6_forecastMinutes 53 = .ok (.aload_n 0, 1) := by decide +kernel
theorem dX6_forecastMinutes_54 : decode cX6_forecastMinutes 54 = .ok (.getfield 10, 3) := by decide +kernel
theorem dX6_forecastMinutes_57 : decode cX6_forecastMinutes 57 = .ok (.getfield 136, 3) := by decide +kernel
theorem dX6_forecastMinutes_60 : decode cX6_forecastMinutes 60 = .ok (.isub, 1) := by decide +kernel
theorem dX6_forecastMinutes_61 : decode cX6_forecastMinutes 61 = .ok (.iconst 1, 1) := by decide +kernel
theorem dX6_forecastMinutes_62 : decode cX6_forecastMinutes 62 = .ok (.iadd, 1) := by decide +kernel
theorem dX6_forecastMinutes_63 : decode cX6_forecastMinutes 63 = .ok (.ireturn, 1) := by decide +kernel

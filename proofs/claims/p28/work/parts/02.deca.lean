theorem dX0_init_0 : decode cX0_init 0 = .ok (.aload_n 0, 1) := by decide +kernel
theorem dX0_init_1 : decode cX0_init 1 = .ok (.invokespecial 3, 3) := by decide +kernel
theorem dX0_init_4 : decode cX0_init 4 = .ok (.aload_n 0, 1) := by decide +kernel
theorem dX0_init_5 : decode cX0_init 5 = .ok (.getstatic 9, 3) := by decide +kernel
theorem dX0_init_8 : decode cX0_init 8 = .ok (.putfield 15, 3) := by decide +kernel
theorem dX0_init_11 : decode cX0_init 11 = .ok (.aload_n 0, 1) := by decide +kernel
theorem dX0_init_12 : decode cX0_init 12 = .ok (.iload_n 1, 1) := by decide +kernel
theorem dX0_init_13 : decode cX0_init 13 = .ok (.putfield 20, 3) := by decide +kernel
theorem dX0_init_16 : decode cX0_init 16 = .ok (.return_, 1) := by decide +kernel
theorem dX0_copyFrom_0 : decode cX0_copyFrom 0 = .ok (.aload_n 0, 1) := by decide +kernel
theorem dX0_copyFrom_1 : decode cX0_copyFrom 1 = .ok (.aload_n 1, 1) := by decide +kernel
theorem dX0_copyFrom_2 : decode cX0_copyFrom 2 = .ok (.getfield 15, 3) := by decide +kernel
theorem dX0_copyFrom_5 : decode cX0_copyFrom 5 = .ok (.putfield 15, 3) := by decide +kernel
theorem dX0_copyFrom_8 : decode cX0_copyFrom 8 = .ok (.aload_n 0, 1) := by decide +kernel
theorem dX0_copyFrom_9 : decode cX0_copyFrom 9 = .ok (.aload_n 1, 1) := by decide +kernel
theorem dX0_copyFrom_10 : decode cX0_copyFrom 10 = .ok (.getfield 24, 3) := by decide +kernel
theorem dX0_copyFrom_13 : decode cX0_copyFrom 13 = .ok (.putfield 24, 3) := by decide +kernel
theorem dX0_copyFrom_16 : decode cX0_copyFrom 16 = .ok (.aload_n 0, 1) := by decide +kernel
theorem dX0_copyFrom_17 : decode cX0_copyFrom 17 = .ok (.aload_n 1, 1) := by decide +kernel
theorem dX0_copyFrom_18 : decode cX0_copyFrom 18 = .ok (.getfield 27, 3) := by decide +kernel
theorem dX0_copyFrom_21 : decode cX0_copyFrom 21 = .ok (.putfield 27, 3) := by decide +kernel
theorem dX0_copyFrom_24 : decode cX0_copyFrom 24 = .ok (.aload_n 0, 1) := by decide +kernel
theorem dX0_copyFrom_25 : decode cX0_copyFrom 25 = .ok (.aload_n 1, 1) := by decide +kernel
theorem dX0_copyFrom_26 : decode cX0_copyFrom 26 = .ok (.getfield 30, 3) := by decide +kernel
theorem dX0_copyFrom_29 : decode cX0_copyFrom 29 = .ok (.putfield 30, 3) := by decide +kernel
theorem dX0_copyFrom_32 : decode cX0_copyFrom 32 = .ok (.aload_n 0, 1) := by decide +kernel
theorem dX0_copyFrom_33 : decode cX0_copyFrom 33 = .ok (.aload_n 1, 1) := by decide +kernel
theorem dX0_copyFrom_34 : decode cX0_copyFrom 34 = .ok (.getfield 33, 3) := by decide +kernel
theorem dX0_copyFrom_37 : decode cX0_copyFrom 37 = .ok (.putfield 33, 3) := by decide +kernel
theorem dX0_copyFrom_40 : decode cX0_copyFrom 40 = .ok (.aload_n 0, 1) := by decide +kernel
theorem dX0_copyFrom_41 : decode cX0_copyFrom 41 = .ok (.aload_n 1, 1) := by decide +kernel
theorem dX0_copyFrom_42 : decode cX0_copyFrom 42 = .ok (.getfield 36, 3) := by decide +kernel
theorem dX0_copyFrom_45 : decode cX0_copyFrom 45 = .ok (.putfield 36, 3) := by decide +kernel
theorem dX0_copyFrom_48 : decode cX0_copyFrom 48 = .ok (.aload_n 0, 1) := by decide +kernel
theorem dX0_copyFrom_49 : decode cX0_copyFrom 49 = .ok (.aload_n 1, 1) := by decide +kernel
theorem dX0_copyFrom_50 : decode cX0_copyFrom 50 = .ok (.getfield 40, 3) := by decide +kernel
theorem dX0_copyFrom_53 : decode cX0_copyFrom 53 = .ok (.putfield 40, 3) := by decide +kernel
theorem dX0_copyFrom_56 : decode cX0_copyFrom 56 = .ok (.return_, 1) := by decide +kernel
theorem dX0_isHolding_0 : decode cX0_isHolding 0 = .ok (.aload_n 0, 1) := by decide +kernel
theorem dX0_isHolding_1 : decode cX0_isHolding 1 = .ok (.getfield 27, 3) := by decide +kernel
theorem dX0_isHolding_4 : decode cX0_isHolding 4 = .ok (.ifCond .ne 7, 3) := by decide +kernel
theorem dX0_isHolding_7 : decode cX0_isHolding 7 = .ok (.iconst 1, 1) := by decide +kernel
theorem dX0_isHolding_8 : decode cX0_isHolding 8 = .ok (.goto 4, 3) := by decide +kernel
theorem dX0_isHolding_11 : decode cX0_isHolding 11 = .ok (.iconst 0, 1) := by decide +kernel
theorem dX0_isHolding_12 : decode cX0_isHolding 12 = .ok (.ireturn, 1) := by decide +kernel
theorem dX0_isOverFix_0 : decode cX0_isOverFix 0 = .ok (.aload_n 0, 1) := by decide +kernel
theorem dX0_isOverFix_1 : decode cX0_isOverFix 1 = .ok (.getfield 33, 3) := by decide +kernel
theorem dX0_isOverFix_4 : decode cX0_isOverFix 4 = .ok (.ifCond .ne 7, 3) := by decide +kernel
theorem dX0_isOverFix_7 : decode cX0_isOverFix 7 = .ok (.iconst 1, 1) := by decide +kernel
theorem dX0_isOverFix_8 : decode cX0_isOverFix 8 = .ok (.goto 4, 3) := by decide +kernel
theorem dX0_isOverFix_11 : decode cX0_isOverFix 11 = .ok (.iconst 0, 1) := by decide +kernel
theorem dX0_isOverFix_12 : decode cX0_isOverFix 12 = .ok (.ireturn, 1) := by decide +kernel
theorem dX0_isShort_0 : decode cX0_isShort 0 = .ok (.aload_n 0, 1) := by decide +kernel
theorem dX0_isShort_1 : decode cX0_isShort 1 = .ok (.getfield 24, 3) := by decide +kernel
theorem dX0_isShort_4 : decode cX0_isShort 4 = .ok (.aload_n 0, 1) := by decide +kernel
theorem dX0_isShort_5 : decode cX0_isShort 5 = .ok (.getfield 15, 3) := by decide +kernel
theorem dX0_isShort_8 : decode cX0_isShort 8 = .ok (.getfield 43, 3) := by decide +kernel
theorem dX0_isShort_11 : decode cX0_isShort 11 = .ok (.if_icmp .gt 7, 3) := by decide +kernel
theorem dX0_isShort_14 : decode cX0_isShort 14 = .ok (.iconst 1, 1) := by decide +kernel
theorem dX0_isShort_15 : decode cX0_isShort 15 = .ok (.goto 4, 3) := by decide +kernel
theorem dX0_isShort_18 : decode cX0_isShort 18 = .ok (.iconst 0, 1) := by decide +kernel
theorem dX0_isShort_19 : decode cX0_isShort 19 = .ok (.ireturn, 1) := by decide +kernel
theorem dX0_mustDivert_0 : decode cX0_mustDivert 0 = .ok (.iconst 2, 1) := by decide +kernel
theorem dX0_mustDivert_1 : decode cX0_mustDivert 1 = .ok (.aload_n 0, 1) := by decide +kernel
theorem dX0_mustDivert_2 : decode cX0_mustDivert 2 = .ok (.getfield 24, 3) := by decide +kernel
theorem dX0_mustDivert_5 : decode cX0_mustDivert 5 = .ok (.imul, 1) := by decide +kernel
theorem dX0_mustDivert_6 : decode cX0_mustDivert 6 = .ok (.aload_n 0, 1) := by decide +kernel
theorem dX0_mustDivert_7 : decode cX0_mustDivert 7 = .ok (.getfield 15, 3) := by decide +kernel
theorem dX0_mustDivert_10 : decode cX0_mustDivert 10 = .ok (.getfield 43, 3) := by decide +kernel
theorem dX0_mustDivert_13 : decode cX0_mustDivert 13 = .ok (.if_icmp .ge 7, 3) := by decide +kernel
theorem dX0_mustDivert_16 : decode cX0_mustDivert 16 = .ok (.iconst 1, 1) := by decide +kernel
theorem dX0_mustDivert_17 : decode cX0_mustDivert 17 = .ok (.goto 4, 3) := by decide +kernel
theorem dX0_mustDivert_20 : decode cX0_mustDivert 20 = .ok (.iconst 0, 1) := by decide +kernel
theorem dX0_mustDivert_21 : decode cX0_mustDivert 21 = .ok (.ireturn, 1) := by decide +kernel
theorem dX0_burnPerMinute_0 : decode cX0_burnPerMinute 0 = .ok (.aload_n 0, 1) := by decide +kernel
theorem dX0_burnPerMinute_1 : decode cX0_burnPerMinute 1 = .ok (.getfield 15, 3) := by decide +kernel
theorem dX0_burnPerMinute_4 : decode cX0_burnPerMinute 4 = .ok (.getfield 46, 3) := by decide +kernel
theorem dX0_burnPerMinute_7 : decode cX0_burnPerMinute 7 = .ok (.aload_n 0, 1) := by decide +kernel
theorem dX0_burnPerMinute_8 : decode cX0_burnPerMinute 8 = .ok (.getfield 15, 3) := by decide +kernel
theorem dX0_burnPerMinute_11 : decode cX0_burnPerMinute 11 = .ok (.getfield 46, 3) := by decide +kernel
theorem dX0_burnPerMinute_14 : decode cX0_burnPerMinute 14 = .ok (.aload_n 0, 1) := by decide +kernel
theorem dX0_burnPerMinute_15 : decode cX0_burnPerMinute 15 = .ok (.getfield 30, 3) := by decide +kernel
theorem dX0_burnPerMinute_18 : decode cX0_burnPerMinute 18 = .ok (.imul, 1) := by decide +kernel
theorem dX0_burnPerMinute_19 : decode cX0_burnPerMinute 19 = .ok (.bipush 40, 2) := by decide +kernel
theorem dX0_burnPerMinute_21 : decode cX0_burnPerMinute 21 = .ok (.idiv, 1) := by decide +kernel
theorem dX0_burnPerMinute_22 : decode cX0_burnPerMinute 22 = .ok (.isub, 1) := by decide +kernel
theorem dX0_burnPerMinute_23 : decode cX0_burnPerMinute 23 = .ok (.ireturn, 1) := by decide +kernel
theorem dX0_minutesUntilShort_0 : decode cX0_minutesUntilShort 0 = .ok (.aload_n 0, 1) := by decide +kernel
theorem dX0_minutesUntilShort_1 : decode cX0_minutesUntilShort 1 = .ok (.getfield 24, 3) := by decide +kernel
theorem dX0_minutesUntilShort_4 : decode cX0_minutesUntilShort 4 = .ok (.aload_n 0, 1) := by decide +kernel
theorem dX0_minutesUntilShort_5 : decode cX0_minutesUntilShort 5 = .ok (.getfield 15, 3) := by decide +kernel
theorem dX0_minutesUntilShort_8 : decode cX0_minutesUntilShort 8 = .ok (.getfield 43, 3) := by decide +kernel
theorem dX0_minutesUntilShort_11 : decode cX0_minutesUntilShort 11 = .ok (.isub, 1) := by decide +kernel
theorem dX0_minutesUntilShort_12 : decode cX0_minutesUntilShort 12 = .ok (.istore_n 1, 1) := by decide +kernel
theorem dX0_minutesUntilShort_13 : decode cX0_minutesUntilShort 13 = .ok (.aload_n 0, 1) := by decide +kernel
theorem dX0_minutesUntilShort_14 : decode cX0_minutesUntilShort 14 = .ok (.invokevirtual 49, 3) := by decide +kernel
theorem dX0_minutesUntilShort_17 : decode cX0_minutesUntilShort 17 = .ok (.istore_n 2, 1) := by decide +kernel
theorem dX0_minutesUntilShort_18 : decode cX0_minutesUntilShort 18 = .ok (.iload_n 1, 1) := by decide +kernel
theorem dX0_minutesUntilShort_19 : decode cX0_minutesUntilShort 19 = .ok (.ifCond .le 7, 3) := by decide +kernel
theorem dX0_minutesUntilShort_22 : decode cX0_minutesUntilShort 22 = .ok (.iload_n 2, 1) := by decide +kernel
theorem dX0_minutesUntilShort_23 : decode cX0_minutesUntilShort 23 = .ok (.ifCond .gt 7, 3) := by decide +kernel
theorem dX0_minutesUntilShort_26 : decode cX0_minutesUntilShort 26 = .ok (.iconst 0, 1) := by decide +kernel
theorem dX0_minutesUntilShort_27 : decode cX0_minutesUntilShort 27 = .ok (.goto 10, 3) := by decide +kernel
theorem dX0_minutesUntilShort_30 : decode cX0_minutesUntilShort 30 = .ok (.iload_n 1, 1) := by decide +kernel
theorem dX0_minutesUntilShort_31 : decode cX0_minutesUntilShort 31 = .ok (.iload_n 2, 1) := by decide +kernel
theorem dX0_minutesUntilShort_32 : decode cX0_minutesUntilShort 32 = .ok (.iadd, 1) := by decide +kernel
theorem dX0_minutesUntilShort_33 : decode cX0_minutesUntilShort 33 = .ok (.iconst 1, 1) := by decide +kernel
theorem dX0_minutesUntilShort_34 : decode cX0_minutesUntilShort 34 = .ok (.isub, 1) := by decide +kernel
theorem dX0_minutesUntilShort_35 : decode cX0_minutesUntilShort 35 = .ok (.iload_n 2, 1) := by decide +kernel
theorem dX0_minutesUntilShort_36 : decode cX0_minutesUntilShort 36 = .ok (.idiv, 1) := by decide +kernel
theorem dX0_minutesUntilShort_37 : decode cX0_minutesUntilShort 37 = .ok (.ireturn, 1) := by decide +kernel
theorem dX0_burnForMinute_0 : decode cX0_burnForMinute 0 = .ok (.aload_n 0, 1) := by decide +kernel
theorem dX0_burnForMinute_1 : decode cX0_burnForMinute 1 = .ok (.invokevirtual 49, 3) := by decide +kernel
theorem dX0_burnForMinute_4 : decode cX0_burnForMinute 4 = .ok (.aload_n 0, 1) := by decide +kernel
theorem dX0_burnForMinute_5 : decode cX0_burnForMinute 5 = .ok (.getfield 24, 3) := by decide +kernel
theorem dX0_burnForMinute_8 : decode cX0_burnForMinute 8 = .ok (.invokestatic 53, 3) := by decide +kernel
theorem dX0_burnForMinute_11 : decode cX0_burnForMinute 11 = .ok (.istore_n 1, 1) := by decide +kernel
theorem dX0_burnForMinute_12 : decode cX0_burnForMinute 12 = .ok (.aload_n 0, 1) := by decide +kernel
theorem dX0_burnForMinute_13 : decode cX0_burnForMinute 13 = .ok (.dup, 1) := by decide +kernel
theorem dX0_burnForMinute_14 : decode cX0_burnForMinute 14 = .ok (.getfield 24, 3) := by decide +kernel
theorem dX0_burnForMinute_17 : decode cX0_burnForMinute 17 = .ok (.iload_n 1, 1) := by decide +kernel
theorem dX0_burnForMinute_18 : decode cX0_burnForMinute 18 = .ok (.isub, 1) := by decide +kernel
theorem dX0_burnForMinute_19 : decode cX0_burnForMinute 19 = .ok (.putfield 24, 3) := by decide +kernel
theorem dX0_burnForMinute_22 : decode cX0_burnForMinute 22 = .ok (.iload_n 1, 1) := by decide +kernel
theorem dX0_burnForMinute_23 : decode cX0_burnForMinute 23 = .ok (.ireturn, 1) := by decide +kernel
theorem dX0_flyMinute_0 : decode cX0_flyMinute 0 = .ok (.aload_n 0, 1) := by decide +kernel
theorem dX0_flyMinute_1 : decode cX0_flyMinute 1 = .ok (.aload_n 0, 1) := by decide +kernel
theorem dX0_flyMinute_2 : decode cX0_flyMinute 2 = .ok (.getfield 33, 3) := by decide +kernel
theorem dX0_flyMinute_5 : decode cX0_flyMinute 5 = .ok (.iconst 1, 1) := by decide +kernel
theorem dX0_flyMinute_6 : decode cX0_flyMinute 6 = .ok (.iadd, 1) := by decide +kernel
theorem dX0_flyMinute_7 : decode cX0_flyMinute 7 = .ok (.iload_n 1, 1) := by decide +kernel
theorem dX0_flyMinute_8 : decode cX0_flyMinute 8 = .ok (.if_icmp .lt 7, 3) := by decide +kernel
theorem dX0_flyMinute_11 : decode cX0_flyMinute 11 = .ok (.iconst 0, 1) := by decide +kernel
theorem dX0_flyMinute_12 : decode cX0_flyMinute 12 = .ok (.goto 9, 3) := by decide +kernel
theorem dX0_flyMinute_15 : decode cX0_flyMinute 15 = .ok (.aload_n 0, 1) := by decide +kernel
theorem dX0_flyMinute_16 : decode cX0_flyMinute 16 = .ok (.getfield 33, 3) := by decide +kernel
theorem dX0_flyMinute_19 : decode cX0_flyMinute 19 = .ok (.iconst 1, 1) := by decide +kernel
theorem dX0_flyMinute_20 : decode cX0_flyMinute 20 = .ok (.iadd, 1) := by decide +kernel
theorem dX0_flyMinute_21 : decode cX0_flyMinute 21 = .ok (.putfield 33, 3) := by decide +kernel
theorem dX0_flyMinute_24 : decode cX0_flyMinute 24 = .ok (.return_, 1) := by decide +kernel
theorem dX1_init_0 : decode cX1_init 0 = .ok (.aload_n 0, 1) := by decide +kernel
theorem dX1_init_1 : decode cX1_init 1 = .ok (.invokespecial 3, 3) := by decide +kernel
theorem dX1_init_4 : decode cX1_init 4 = .ok (.aload_n 0, 1) := by decide +kernel
theorem dX1_init_5 : decode cX1_init 5 = .ok (.iconst 5, 1) := by decide +kernel
theorem dX1_init_6 : decode cX1_init 6 = .ok (.anewarray 9, 3) := by decide +kernel
theorem dX1_init_9 : decode cX1_init 9 = .ok (.putfield 11, 3) := by decide +kernel
theorem dX1_init_12 : decode cX1_init 12 = .ok (.iconst 0, 1) := by decide +kernel
theorem dX1_init_13 : decode cX1_init 13 = .ok (.istore_n 1, 1) := by decide +kernel
theorem dX1_init_14 : decode cX1_init 14 = .ok (.iload_n 1, 1) := by decide +kernel
theorem dX1_init_15 : decode cX1_init 15 = .ok (.aload_n 0, 1) := by decide +kernel
theorem dX1_init_16 : decode cX1_init 16 = .ok (.getfield 11, 3) := by decide +kernel
theorem dX1_init_19 : decode cX1_init 19 = .ok (.arraylength, 1) := by decide +kernel
theorem dX1_init_20 : decode cX1_init 20 = .ok (.if_icmp .ge 22, 3) := by decide +kernel
theorem dX1_init_23 : decode cX1_init 23 = .ok (.aload_n 0, 1) := by decide +kernel
theorem dX1_init_24 : decode cX1_init 24 = .ok (.getfield 11, 3) := by decide +kernel
theorem dX1_init_27 : decode cX1_init 27 = .ok (.iload_n 1, 1) := by decide +kernel
theorem dX1_init_28 : decode cX1_init 28 = .ok (.new 9, 3) := by decide +kernel
theorem dX1_init_31 : decode cX1_init 31 = .ok (.dup, 1) := by decide +kernel
theorem dX1_init_32 : decode cX1_init 32 = .ok (.invokespecial 17, 3) := by decide +kernel
theorem dX1_init_35 : decode cX1_init 35 = .ok (.aastore, 1) := by decide +kernel
theorem dX1_init_36 : decode cX1_init 36 = .ok (.iinc 1 1, 3) := by decide +kernel
theorem dX1_init_39 : decode cX1_init 39 = .ok (.goto (-25), 3) := by decide +kernel
theorem dX1_init_42 : decode cX1_init 42 = .ok (.return_, 1) := by decide +kernel
theorem dX1_push_0 : decode cX1_push 0 = .ok (.aload_n 0, 1) := by decide +kernel
theorem dX1_push_1 : decode cX1_push 1 = .ok (.getfield 18, 3) := by decide +kernel
theorem dX1_push_4 : decode cX1_push 4 = .ok (.aload_n 0, 1) := by decide +kernel
theorem dX1_push_5 : decode cX1_push 5 = .ok (.getfield 11, 3) := by decide +kernel
theorem dX1_push_8 : decode cX1_push 8 = .ok (.arraylength, 1) := by decide +kernel
theorem dX1_push_9 : decode cX1_push 9 = .ok (.if_icmp .lt 7, 3) := by decide +kernel
theorem dX1_push_12 : decode cX1_push 12 = .ok (.aload_n 0, 1) := by decide +kernel
theorem dX1_push_13 : decode cX1_push 13 = .ok (.invokevirtual 22, 3) := by decide +kernel
theorem dX1_push_16 : decode cX1_push 16 = .ok (.aload_n 0, 1) := by decide +kernel
theorem dX1_push_17 : decode cX1_push 17 = .ok (.getfield 18, 3) := by decide +kernel
theorem dX1_push_20 : decode cX1_push 20 = .ok (.ifCond .lt 38, 3) := by decide +kernel
theorem dX1_push_23 : decode cX1_push 23 = .ok (.aload_n 0, 1) := by decide +kernel
theorem dX1_push_24 : decode cX1_push 24 = .ok (.getfield 18, 3) := by decide +kernel
theorem dX1_push_27 : decode cX1_push 27 = .ok (.aload_n 0, 1) := by decide +kernel
theorem dX1_push_28 : decode cX1_push 28 = .ok (.getfield 11, 3) := by decide +kernel
theorem dX1_push_31 : decode cX1_push 31 = .ok (.arraylength, 1) := by decide +kernel
theorem dX1_push_32 : decode cX1_push 32 = .ok (.if_icmp .ge 26, 3) := by decide +kernel
theorem dX1_push_35 : decode cX1_push 35 = .ok (.aload_n 0, 1) := by decide +kernel
theorem dX1_push_36 : decode cX1_push 36 = .ok (.getfield 11, 3) := by decide +kernel
theorem dX1_push_39 : decode cX1_push 39 = .ok (.aload_n 0, 1) := by decide +kernel
theorem dX1_push_40 : decode cX1_push 40 = .ok (.getfield 18, 3) := by decide +kernel
theorem dX1_push_43 : decode cX1_push 43 = .ok (.aaload, 1) := by decide +kernel
theorem dX1_push_44 : decode cX1_push 44 = .ok (.aload_n 1, 1) := by decide +kernel
theorem dX1_push_45 : decode cX1_push 45 = .ok (.invokevirtual 25, 3) := by decide +kernel
theorem dX1_push_48 : decode cX1_push 48 = .ok (.aload_n 0, 1) := by decide +kernel
theorem dX1_push_49 : decode cX1_push 49 = .ok (.dup, 1) := by decide +kernel
theorem dX1_push_50 : decode cX1_push 50 = .ok (.getfield 18, 3) := by decide +kernel
theorem dX1_push_53 : decode cX1_push 53 = .ok (.iconst 1, 1) := by decide +kernel
theorem dX1_push_54 : decode cX1_push 54 = .ok (.iadd, 1) := by decide +kernel
theorem dX1_push_55 : decode cX1_push 55 = .ok (.putfield 18, 3) := by decide +kernel
theorem dX1_push_58 : decode cX1_push 58 = .ok (.return_, 1) := by decide +kernel
theorem dX1_dropOldest_0 : decode cX1_dropOldest 0 = .ok (.iconst 1, 1) := by decide +kernel
theorem dX1_dropOldest_1 : decode cX1_dropOldest 1 = .ok (.istore_n 1, 1) := by decide +kernel
theorem dX1_dropOldest_2 : decode cX1_dropOldest 2 = .ok (.iload_n 1, 1) := by decide +kernel
theorem dX1_dropOldest_3 : decode cX1_dropOldest 3 = .ok (.aload_n 0, 1) := by decide +kernel
theorem dX1_dropOldest_4 : decode cX1_dropOldest 4 = .ok (.getfield 11, 3) := by decide +kernel
theorem dX1_dropOldest_7 : decode cX1_dropOldest 7 = .ok (.arraylength, 1) := by decide +kernel
theorem dX1_dropOldest_8 : decode cX1_dropOldest 8 = .ok (.if_icmp .ge 39, 3) := by decide +kernel
theorem dX1_dropOldest_11 : decode cX1_dropOldest 11 = .ok (.aload_n 0, 1) := by decide +kernel
theorem dX1_dropOldest_12 : decode cX1_dropOldest 12 = .ok (.getfield 11, 3) := by decide +kernel
theorem dX1_dropOldest_15 : decode cX1_dropOldest 15 = .ok (.iload_n 1, 1) := by decide +kernel
theorem dX1_dropOldest_16 : decode cX1_dropOldest 16 = .ok (.iconst 1, 1) := by decide +kernel
theorem dX1_dropOldest_17 : decode cX1_dropOldest 17 = .ok (.isub, 1) := by decide +kernel
theorem dX1_dropOldest_18 : decode cX1_dropOldest 18 = .ok (.aaload, 1) := by decide +kernel
theorem dX1_dropOldest_19 : decode cX1_dropOldest 19 = .ok (.astore_n 2, 1) := by decide +kernel
theorem dX1_dropOldest_20 : decode cX1_dropOldest 20 = .ok (.aload_n 0, 1) := by decide +kernel
theorem dX1_dropOldest_21 : decode cX1_dropOldest 21 = .ok (.getfield 11, 3) := by decide +kernel
theorem dX1_dropOldest_24 : decode cX1_dropOldest 24 = .ok (.iload_n 1, 1) := by decide +kernel
theorem dX1_dropOldest_25 : decode cX1_dropOldest 25 = .ok (.iconst 1, 1) := by decide +kernel
theorem dX1_dropOldest_26 : decode cX1_dropOldest 26 = .ok (.isub, 1) := by decide +kernel
theorem dX1_dropOldest_27 : decode cX1_dropOldest 27 = .ok (.aload_n 0, 1) := by decide +kernel
theorem dX1_dropOldest_28 : decode cX1_dropOldest 28 = .ok (.getfield 11, 3) := by decide +kernel
theorem dX1_dropOldest_31 : decode cX1_dropOldest 31 = .ok (.iload_n 1, 1) := by decide +kernel
theorem dX1_dropOldest_32 : decode cX1_dropOldest 32 = .ok (.aaload, 1) := by decide +kernel
theorem dX1_dropOldest_33 : decode cX1_dropOldest 33 = .ok (.aastore, 1) := by decide +kernel
theorem dX1_dropOldest_34 : decode cX1_dropOldest 34 = .ok (.aload_n 0, 1) := by decide +kernel
theorem dX1_dropOldest_35 : decode cX1_dropOldest 35 = .ok (.getfield 11, 3) := by decide +kernel
theorem dX1_dropOldest_38 : decode cX1_dropOldest 38 = .ok (.iload_n 1, 1) := by decide +kernel
theorem dX1_dropOldest_39 : decode cX1_dropOldest 39 = .ok (.aload_n 2, 1) := by decide +kernel
theorem dX1_dropOldest_40 : decode cX1_dropOldest 40 = .ok (.aastore, 1) := by decide +kernel
theorem dX1_dropOldest_41 : decode cX1_dropOldest 41 = .ok (.iinc 1 1, 3) := by decide +kernel
theorem dX1_dropOldest_44 : decode cX1_dropOldest 44 = .ok (.goto (-42), 3) := by decide +kernel
theorem dX1_dropOldest_47 : decode cX1_dropOldest 47 = .ok (.aload_n 0, 1) := by decide +kernel
theorem dX1_dropOldest_48 : decode cX1_dropOldest 48 = .ok (.aload_n 0, 1) := by decide +kernel
theorem dX1_dropOldest_49 : decode cX1_dropOldest 49 = .ok (.getfield 11, 3) := by decide +kernel
theorem dX1_dropOldest_52 : decode cX1_dropOldest 52 = .ok (.arraylength, 1) := by decide +kernel
theorem dX1_dropOldest_53 : decode cX1_dropOldest 53 = .ok (.iconst 1, 1) := by decide +kernel
theorem dX1_dropOldest_54 : decode cX1_dropOldest 54 = .ok (.isub, 1) := by decide +kernel
theorem dX1_dropOldest_55 : decode cX1_dropOldest 55 = .ok (.putfield 18, 3) := by decide +kernel
theorem dX1_dropOldest_58 : decode cX1_dropOldest 58 = .ok (.return_, 1) := by decide +kernel
theorem dX1_popInto_0 : decode cX1_popInto 0 = .ok (.aload_n 0, 1) := by decide +kernel
theorem dX1_popInto_1 : decode cX1_popInto 1 = .ok (.getfield 18, 3) := by decide +kernel
theorem dX1_popInto_4 : decode cX1_popInto 4 = .ok (.ifCond .le 15, 3) := by decide +kernel
theorem dX1_popInto_7 : decode cX1_popInto 7 = .ok (.aload_n 0, 1) := by decide +kernel
theorem dX1_popInto_8 : decode cX1_popInto 8 = .ok (.getfield 18, 3) := by decide +kernel
theorem dX1_popInto_11 : decode cX1_popInto 11 = .ok (.aload_n 0, 1) := by decide +kernel
theorem dX1_popInto_12 : decode cX1_popInto 12 = .ok (.getfield 11, 3) := by decide +kernel
theorem dX1_popInto_15 : decode cX1_popInto 15 = .ok (.arraylength, 1) := by decide +kernel
theorem dX1_popInto_16 : decode cX1_popInto 16 = .ok (.if_icmp .le 5, 3) := by decide +kernel
theorem dX1_popInto_19 : decode cX1_popInto 19 = .ok (.iconst 0, 1) := by decide +kernel
theorem dX1_popInto_20 : decode cX1_popInto 20 = .ok (.ireturn, 1) := by decide +kernel
theorem dX1_popInto_21 : decode cX1_popInto 21 = .ok (.aload_n 0, 1) := by decide +kernel
theorem dX1_popInto_22 : decode cX1_popInto 22 = .ok (.dup, 1) := by decide +kernel
theorem dX1_popInto_23 : decode cX1_popInto 23 = .ok (.getfield 18, 3) := by decide +kernel
theorem dX1_popInto_26 : decode cX1_popInto 26 = .ok (.iconst 1, 1) := by decide +kernel
theorem dX1_popInto_27 : decode cX1_popInto 27 = .ok (.isub, 1) := by decide +kernel
theorem dX1_popInto_28 : decode cX1_popInto 28 = .ok (.putfield 18, 3) := by decide +kernel
theorem dX1_popInto_31 : decode cX1_popInto 31 = .ok (.aload_n 1, 1) := by decide +kernel
theorem dX1_popInto_32 : decode cX1_popInto 32 = .ok (.aload_n 0, 1) := by decide +kernel
theorem dX1_popInto_33 : decode cX1_popInto 33 = .ok (.getfield 11, 3) := by decide +kernel
theorem dX1_popInto_36 : decode cX1_popInto 36 = .ok (.aload_n 0, 1) := by decide +kernel
theorem dX1_popInto_37 : decode cX1_popInto 37 = .ok (.getfield 18, 3) := by decide +kernel
theorem dX1_popInto_40 : decode cX1_popInto 40 = .ok (.aaload, 1) := by decide +kernel
theorem dX1_popInto_41 : decode cX1_popInto 41 = .ok (.invokevirtual 25, 3) := by decide +kernel
theorem dX1_popInto_44 : decode cX1_popInto 44 = .ok (.iconst 1, 1) := by decide +kernel
theorem dX1_popInto_45 : decode cX1_popInto 45 = .ok (.ireturn, 1) := by decide +kernel
theorem dX2_of_0 : decode cX2_of 0 = .ok (.iload_n 0, 1) := by decide +kernel
theorem dX2_of_1 : decode cX2_of 1 = .ok (.tableswitch 39 0 2 #[27, 31, 35], 27) := by decide +kernel
theorem dX2_of_28 : decode cX2_of 28 = .ok (.getstatic 3, 3) := by decide +kernel
theorem dX2_of_31 : decode cX2_of 31 = .ok (.areturn, 1) := by decide +kernel
theorem dX2_of_32 : decode cX2_of 32 = .ok (.getstatic 7, 3) := by decide +kernel
theorem dX2_of_35 : decode cX2_of 35 = .ok (.areturn, 1) := by decide +kernel
theorem dX2_of_36 : decode cX2_of 36 = .ok (.getstatic 10, 3) := by decide +kernel
theorem dX2_of_39 : decode cX2_of 39 = .ok (.areturn, 1) := by decide +kernel
theorem dX2_of_40 : decode cX2_of 40 = .ok (.aconst_null, 1) := by decide +kernel
theorem dX2_of_41 : decode cX2_of 41 = .ok (.areturn, 1) := by decide +kernel
theorem dX3_init_0 : decode cX3_init 0 = .ok (.aload_n 0, 1) := by decide +kernel
theorem dX3_init_1 : decode cX3_init 1 = .ok (.invokespecial 3, 3) := by decide +kernel
theorem dX3_init_4 : decode cX3_init 4 = .ok (.aload_n 0, 1) := by decide +kernel
theorem dX3_init_5 : decode cX3_init 5 = .ok (.iconst 2, 1) := by decide +kernel
theorem dX3_init_6 : decode cX3_init 6 = .ok (.anewarray 9, 3) := by decide +kernel
theorem dX3_init_9 : decode cX3_init 9 = .ok (.putfield 11, 3) := by decide +kernel
theorem dX3_init_12 : decode cX3_init 12 = .ok (.aload_n 0, 1) := by decide +kernel
theorem dX3_init_13 : decode cX3_init 13 = .ok (.iconst 2, 1) := by decide +kernel
theorem dX3_init_14 : decode cX3_init 14 = .ok (.newarray .boolean, 2) := by decide +kernel
theorem dX3_init_16 : decode cX3_init 16 = .ok (.putfield 17, 3) := by decide +kernel
theorem dX3_init_19 : decode cX3_init 19 = .ok (.iconst 0, 1) := by decide +kernel
theorem dX3_init_20 : decode cX3_init 20 = .ok (.istore_n 1, 1) := by decide +kernel
theorem dX3_init_21 : decode cX3_init 21 = .ok (.iload_n 1, 1) := by decide +kernel
theorem dX3_init_22 : decode cX3_init 22 = .ok (.aload_n 0, 1) := by decide +kernel
theorem dX3_init_23 : decode cX3_init 23 = .ok (.getfield 11, 3) := by decide +kernel
theorem dX3_init_26 : decode cX3_init 26 = .ok (.arraylength, 1) := by decide +kernel
theorem dX3_init_27 : decode cX3_init 27 = .ok (.if_icmp .ge 22, 3) := by decide +kernel
theorem dX3_init_30 : decode cX3_init 30 = .ok (.aload_n 0, 1) := by decide +kernel
theorem dX3_init_31 : decode cX3_init 31 = .ok (.getfield 11, 3) := by decide +kernel
theorem dX3_init_34 : decode cX3_init 34 = .ok (.iload_n 1, 1) := by decide +kernel
theorem dX3_init_35 : decode cX3_init 35 = .ok (.new 9, 3) := by decide +kernel
theorem dX3_init_38 : decode cX3_init 38 = .ok (.dup, 1) := by decide +kernel
theorem dX3_init_39 : decode cX3_init 39 = .ok (.invokespecial 21, 3) := by decide +kernel
theorem dX3_init_42 : decode cX3_init 42 = .ok (.aastore, 1) := by decide +kernel
theorem dX3_init_43 : decode cX3_init 43 = .ok (.iinc 1 1, 3) := by decide +kernel
theorem dX3_init_46 : decode cX3_init 46 = .ok (.goto (-25), 3) := by decide +kernel
theorem dX3_init_49 : decode cX3_init 49 = .ok (.return_, 1) := by decide +kernel
theorem dX3_has_0 : decode cX3_has 0 = .ok (.iload_n 1, 1) := by decide +kernel
theorem dX3_has_1 : decode cX3_has 1 = .ok (.ifCond .lt 25, 3) := by decide +kernel
theorem dX3_has_4 : decode cX3_has 4 = .ok (.iload_n 1, 1) := by decide +kernel
theorem dX3_has_5 : decode cX3_has 5 = .ok (.aload_n 0, 1) := by decide +kernel
theorem dX3_has_6 : decode cX3_has 6 = .ok (.getfield 11, 3) := by decide +kernel
theorem dX3_has_9 : decode cX3_has 9 = .ok (.arraylength, 1) := by decide +kernel
theorem dX3_has_10 : decode cX3_has 10 = .ok (.if_icmp .ge 16, 3) := by decide +kernel
theorem dX3_has_13 : decode cX3_has 13 = .ok (.iload_n 1, 1) := by decide +kernel
theorem dX3_has_14 : decode cX3_has 14 = .ok (.aload_n 0, 1) := by decide +kernel
theorem dX3_has_15 : decode cX3_has 15 = .ok (.getfield 17, 3) := by decide +kernel
theorem dX3_has_18 : decode cX3_has 18 = .ok (.arraylength, 1) := by decide +kernel
theorem dX3_has_19 : decode cX3_has 19 = .ok (.if_icmp .ge 7, 3) := by decide +kernel
theorem dX3_has_22 : decode cX3_has 22 = .ok (.iconst 1, 1) := by decide +kernel
theorem dX3_has_23 : decode cX3_has 23 = .ok (.goto 4, 3) := by decide +kernel
theorem dX3_has_26 : decode cX3_has 26 = .ok (.iconst 0, 1) := by decide +kernel
theorem dX3_has_27 : decode cX3_has 27 = .ok (.ireturn, 1) := by decide +kernel
theorem dX3_put_0 : decode cX3_put 0 = .ok (.aload_n 0, 1) := by decide +kernel
theorem dX3_put_1 : decode cX3_put 1 = .ok (.iload_n 1, 1) := by decide +kernel
theorem dX3_put_2 : decode cX3_put 2 = .ok (.invokevirtual 22, 3) := by decide +kernel
theorem dX3_put_5 : decode cX3_put 5 = .ok (.ifCond .ne 5, 3) := by decide +kernel
theorem dX3_put_8 : decode cX3_put 8 = .ok (.iconst 0, 1) := by decide +kernel
theorem dX3_put_9 : decode cX3_put 9 = .ok (.ireturn, 1) := by decide +kernel
theorem dX3_put_10 : decode cX3_put 10 = .ok (.aload_n 0, 1) := by decide +kernel
theorem dX3_put_11 : decode cX3_put 11 = .ok (.getfield 11, 3) := by decide +kernel
theorem dX3_put_14 : decode cX3_put 14 = .ok (.iload_n 1, 1) := by decide +kernel
theorem dX3_put_15 : decode cX3_put 15 = .ok (.aaload, 1) := by decide +kernel
theorem dX3_put_16 : decode cX3_put 16 = .ok (.aload_n 2, 1) := by decide +kernel
theorem dX3_put_17 : decode cX3_put 17 = .ok (.invokevirtual 26, 3) := by decide +kernel
theorem dX3_put_20 : decode cX3_put 20 = .ok (.aload_n 0, 1) := by decide +kernel
theorem dX3_put_21 : decode cX3_put 21 = .ok (.getfield 17, 3) := by decide +kernel
theorem dX3_put_24 : decode cX3_put 24 = .ok (.iload_n 1, 1) := by decide +kernel
theorem dX3_put_25 : decode cX3_put 25 = .ok (.iconst 1, 1) := by decide +kernel
theorem dX3_put_26 : decode cX3_put 26 = .ok (.bastore, 1) := by decide +kernel
theorem dX3_put_27 : decode cX3_put 27 = .ok (.iconst 1, 1) := by decide +kernel
theorem dX3_put_28 : decode cX3_put 28 = .ok (.ireturn, 1) := by decide +kernel
theorem dX3_get_0 : decode cX3_get 0 = .ok (.aload_n 0, 1) := by decide +kernel
theorem dX3_get_1 : decode cX3_get 1 = .ok (.iload_n 1, 1) := by decide +kernel
theorem dX3_get_2 : decode cX3_get 2 = .ok (.invokevirtual 22, 3) := by decide +kernel
theorem dX3_get_5 : decode cX3_get 5 = .ok (.ifCond .eq 21, 3) := by decide +kernel
theorem dX3_get_8 : decode cX3_get 8 = .ok (.aload_n 0, 1) := by decide +kernel
theorem dX3_get_9 : decode cX3_get 9 = .ok (.getfield 17, 3) := by decide +kernel
theorem dX3_get_12 : decode cX3_get 12 = .ok (.iload_n 1, 1) := by decide +kernel
theorem dX3_get_13 : decode cX3_get 13 = .ok (.baload, 1) := by decide +kernel
theorem dX3_get_14 : decode cX3_get 14 = .ok (.ifCond .eq 12, 3) := by decide +kernel
theorem dX3_get_17 : decode cX3_get 17 = .ok (.aload_n 0, 1) := by decide +kernel
theorem dX3_get_18 : decode cX3_get 18 = .ok (.getfield 11, 3) := by decide +kernel
theorem dX3_get_21 : decode cX3_get 21 = .ok (.iload_n 1, 1) := by decide +kernel
theorem dX3_get_22 : decode cX3_get 22 = .ok (.aaload, 1) := by decide +kernel
theorem dX3_get_23 : decode cX3_get 23 = .ok (.goto 4, 3) := by decide +kernel
theorem dX3_get_26 : decode cX3_get 26 = .ok (.aconst_null, 1) := by decide +kernel
theorem dX3_get_27 : decode cX3_get 27 = .ok (.areturn, 1) := by decide +kernel
theorem dX5_init_0 : decode cX5_init 0 = .ok (.aload_n 0, 1) := by decide +kernel
theorem dX5_init_1 : decode cX5_init 1 = .ok (.invokespecial 3, 3) := by decide +kernel
theorem dX5_init_4 : decode cX5_init 4 = .ok (.aload_n 0, 1) := by decide +kernel
theorem dX5_init_5 : decode cX5_init 5 = .ok (.bipush 80, 2) := by decide +kernel
theorem dX5_init_7 : decode cX5_init 7 = .ok (.newarray .char, 2) := by decide +kernel
theorem dX5_init_9 : decode cX5_init 9 = .ok (.putfield 9, 3) := by decide +kernel
theorem dX5_init_12 : decode cX5_init 12 = .ok (.aload_n 0, 1) := by decide +kernel
theorem dX5_init_13 : decode cX5_init 13 = .ok (.bipush (-6), 2) := by decide +kernel
theorem dX5_init_15 : decode cX5_init 15 = .ok (.putfield 15, 3) := by decide +kernel
theorem dX5_init_18 : decode cX5_init 18 = .ok (.return_, 1) := by decide +kernel
theorem dX5_add_0 : decode cX5_add 0 = .ok (.aload_n 0, 1) := by decide +kernel
theorem dX5_add_1 : decode cX5_add 1 = .ok (.getfield 19, 3) := by decide +kernel
theorem dX5_add_4 : decode cX5_add 4 = .ok (.ifCond .lt 15, 3) := by decide +kernel
theorem dX5_add_7 : decode cX5_add 7 = .ok (.aload_n 0, 1) := by decide +kernel
theorem dX5_add_8 : decode cX5_add 8 = .ok (.getfield 19, 3) := by decide +kernel
theorem dX5_add_11 : decode cX5_add 11 = .ok (.aload_n 0, 1) := by decide +kernel
theorem dX5_add_12 : decode cX5_add 12 = .ok (.getfield 9, 3) := by decide +kernel
theorem dX5_add_15 : decode cX5_add 15 = .ok (.arraylength, 1) := by decide +kernel
theorem dX5_add_16 : decode cX5_add 16 = .ok (.if_icmp .lt 5, 3) := by decide +kernel
theorem dX5_add_19 : decode cX5_add 19 = .ok (.iconst 0, 1) := by decide +kernel
theorem dX5_add_20 : decode cX5_add 20 = .ok (.ireturn, 1) := by decide +kernel
theorem dX5_add_21 : decode cX5_add 21 = .ok (.aload_n 0, 1) := by decide +kernel
theorem dX5_add_22 : decode cX5_add 22 = .ok (.getfield 9, 3) := by decide +kernel
theorem dX5_add_25 : decode cX5_add 25 = .ok (.aload_n 0, 1) := by decide +kernel
theorem dX5_add_26 : decode cX5_add 26 = .ok (.getfield 19, 3) := by decide +kernel
theorem dX5_add_29 : decode cX5_add 29 = .ok (.iload_n 1, 1) := by decide +kernel
theorem dX5_add_30 : decode cX5_add 30 = .ok (.castore, 1) := by decide +kernel
theorem dX5_add_31 : decode cX5_add 31 = .ok (.aload_n 0, 1) := by decide +kernel
theorem dX5_add_32 : decode cX5_add 32 = .ok (.dup, 1) := by decide +kernel
theorem dX5_add_33 : decode cX5_add 33 = .ok (.getfield 19, 3) := by decide +kernel
theorem dX5_add_36 : decode cX5_add 36 = .ok (.iconst 1, 1) := by decide +kernel
theorem dX5_add_37 : decode cX5_add 37 = .ok (.iadd, 1) := by decide +kernel
theorem dX5_add_38 : decode cX5_add 38 = .ok (.putfield 19, 3) := by decide +kernel
theorem dX5_add_41 : decode cX5_add 41 = .ok (.iconst 1, 1) := by decide +kernel
theorem dX5_add_42 : decode cX5_add 42 = .ok (.ireturn, 1) := by decide +kernel
theorem dX5_restart_0 : decode cX5_restart 0 = .ok (.aload_n 0, 1) := by decide +kernel
theorem dX5_restart_1 : decode cX5_restart 1 = .ok (.iconst 0, 1) := by decide +kernel
theorem dX5_restart_2 : decode cX5_restart 2 = .ok (.putfield 22, 3) := by decide +kernel
theorem dX5_restart_5 : decode cX5_restart 5 = .ok (.aload_n 0, 1) := by decide +kernel
theorem dX5_restart_6 : decode cX5_restart 6 = .ok (.bipush (-6), 2) := by decide +kernel
theorem dX5_restart_8 : decode cX5_restart 8 = .ok (.putfield 15, 3) := by decide +kernel
theorem dX5_restart_11 : decode cX5_restart 11 = .ok (.return_, 1) := by decide +kernel
theorem dX5_findFault_0 : decode cX5_findFault 0 = .ok (.aload_n 0, 1) := by decide +kernel
theorem dX5_findFault_1 : decode cX5_findFault 1 = .ok (.invokevirtual 25, 3) := by decide +kernel
theorem dX5_findFault_4 : decode cX5_findFault 4 = .ok (.iconst 1, 1) := by decide +kernel
theorem dX5_findFault_5 : decode cX5_findFault 5 = .ok (.istore_n 1, 1) := by decide +kernel
theorem dX5_findFault_6 : decode cX5_findFault 6 = .ok (.iconst 0, 1) := by decide +kernel
theorem dX5_findFault_7 : decode cX5_findFault 7 = .ok (.istore_n 2, 1) := by decide +kernel
theorem dX5_findFault_8 : decode cX5_findFault 8 = .ok (.iload_n 2, 1) := by decide +kernel
theorem dX5_findFault_9 : decode cX5_findFault 9 = .ok (.bipush 80, 2) := by decide +kernel
theorem dX5_findFault_11 : decode cX5_findFault 11 = .ok (.if_icmp .ge 18, 3) := by decide +kernel
theorem dX5_findFault_14 : decode cX5_findFault 14 = .ok (.iload_n 1, 1) := by decide +kernel
theorem dX5_findFault_15 : decode cX5_findFault 15 = .ok (.ifCond .eq 14, 3) := by decide +kernel
theorem dX5_findFault_18 : decode cX5_findFault 18 = .ok (.aload_n 0, 1) := by decide +kernel
theorem dX5_findFault_19 : decode cX5_findFault 19 = .ok (.invokevirtual 28, 3) := by decide +kernel
theorem dX5_findFault_22 : decode cX5_findFault 22 = .ok (.istore_n 1, 1) := by decide +kernel
theorem dX5_findFault_23 : decode cX5_findFault 23 = .ok (.iinc 2 1, 3) := by decide +kernel
theorem dX5_findFault_26 : decode cX5_findFault 26 = .ok (.goto (-18), 3) := by decide +kernel
theorem dX5_findFault_29 : decode cX5_findFault 29 = .ok (.aload_n 0, 1) := by decide +kernel
theorem dX5_findFault_30 : decode cX5_findFault 30 = .ok (.getfield 15, 3) := by decide +kernel
theorem dX5_findFault_33 : decode cX5_findFault 33 = .ok (.ireturn, 1) := by decide +kernel
theorem dX5_readStrip_0 : decode cX5_readStrip 0 = .ok (.aload_n 0, 1) := by decide +kernel
theorem dX5_readStrip_1 : decode cX5_readStrip 1 = .ok (.getfield 15, 3) := by decide +kernel
theorem dX5_readStrip_4 : decode cX5_readStrip 4 = .ok (.bipush (-6), 2) := by decide +kernel
theorem dX5_readStrip_6 : decode cX5_readStrip 6 = .ok (.if_icmp .ne 14, 3) := by decide +kernel
theorem dX5_readStrip_9 : decode cX5_readStrip 9 = .ok (.aload_n 0, 1) := by decide +kernel
theorem dX5_readStrip_10 : decode cX5_readStrip 10 = .ok (.getfield 22, 3) := by decide +kernel
theorem dX5_readStrip_13 : decode cX5_readStrip 13 = .ok (.aload_n 0, 1) := by decide +kernel
theorem dX5_readStrip_14 : decode cX5_readStrip 14 = .ok (.getfield 19, 3) := by decide +kernel
theorem dX5_readStrip_17 : decode cX5_readStrip 17 = .ok (.if_icmp .lt 5, 3) := by decide +kernel
theorem dX5_readStrip_20 : decode cX5_readStrip 20 = .ok (.iconst 0, 1) := by decide +kernel
theorem dX5_readStrip_21 : decode cX5_readStrip 21 = .ok (.ireturn, 1) := by decide +kernel
theorem dX5_readStrip_22 : decode cX5_readStrip 22 = .ok (.aload_n 0, 1) := by decide +kernel
theorem dX5_readStrip_23 : decode cX5_readStrip 23 = .ok (.aload_n 0, 1) := by decide +kernel
theorem dX5_readStrip_24 : decode cX5_readStrip 24 = .ok (.invokevirtual 32, 3) := by decide +kernel
theorem dX5_readStrip_27 : decode cX5_readStrip 27 = .ok (.putfield 36, 3) := by decide +kernel
theorem dX5_readStrip_30 : decode cX5_readStrip 30 = .ok (.aload_n 0, 1) := by decide +kernel
theorem dX5_readStrip_31 : decode cX5_readStrip 31 = .ok (.dup, 1) := by decide +kernel
theorem dX5_readStrip_32 : decode cX5_readStrip 32 = .ok (.getfield 22, 3) := by decide +kernel
theorem dX5_readStrip_35 : decode cX5_readStrip 35 = .ok (.iconst 1, 1) := by decide +kernel
theorem dX5_readStrip_36 : decode cX5_readStrip 36 = .ok (.iadd, 1) := by decide +kernel
theorem dX5_readStrip_37 : decode cX5_readStrip 37 = .ok (.putfield 22, 3) := by decide +kernel
theorem dX5_readStrip_40 : decode cX5_readStrip 40 = .ok (.aload_n 0, 1) := by decide +kernel
theorem dX5_readStrip_41 : decode cX5_readStrip 41 = .ok (.getfield 36, 3) := by decide +kernel
theorem dX5_readStrip_44 : decode cX5_readStrip 44 = .ok (.lookupswitch 90 #[(43, 52), (99, 59), (111, 87), (116, 73), (120, 87)], 52) := by decide +kernel
theorem dX5_readStrip_96 : decode cX5_readStrip 96 = .ok (.aload_n 0, 1) := by decide +kernel
theorem dX5_readStrip_97 : decode cX5_readStrip 97 = .ok (.invokevirtual 40, 3) := by decide +kernel
theorem dX5_readStrip_100 : decode cX5_readStrip 100 = .ok (.goto 44, 3) := by decide +kernel
theorem dX5_readStrip_103 : decode cX5_readStrip 103 = .ok (.aload_n 0, 1) := by decide +kernel
theorem dX5_readStrip_104 : decode cX5_readStrip 104 = .ok (.aload_n 0, 1) := by decide +kernel
theorem dX5_readStrip_105 : decode cX5_readStrip 105 = .ok (.iconst 0, 1) := by decide +kernel
theorem dX5_readStrip_106 : decode cX5_readStrip 106 = .ok (.bipush 19, 2) := by decide +kernel
theorem dX5_readStrip_108 : decode cX5_readStrip 108 = .ok (.invokevirtual 43, 3) := by decide +kernel
theorem dX5_readStrip_111 : decode cX5_readStrip 111 = .ok (.putfield 47, 3) := by decide +kernel
theorem dX5_readStrip_114 : decode cX5_readStrip 114 = .ok (.goto 30, 3) := by decide +kernel
theorem dX5_readStrip_117 : decode cX5_readStrip 117 = .ok (.aload_n 0, 1) := by decide +kernel
theorem dX5_readStrip_118 : decode cX5_readStrip 118 = .ok (.aload_n 0, 1) := by decide +kernel
theorem dX5_readStrip_119 : decode cX5_readStrip 119 = .ok (.iconst 1, 1) := by decide +kernel
theorem dX5_readStrip_120 : decode cX5_readStrip 120 = .ok (.bipush 99, 2) := by decide +kernel
theorem dX5_readStrip_122 : decode cX5_readStrip 122 = .ok (.invokevirtual 43, 3) := by decide +kernel
theorem dX5_readStrip_125 : decode cX5_readStrip 125 = .ok (.putfield 47, 3) := by decide +kernel
theorem dX5_readStrip_128 : decode cX5_readStrip 128 = .ok (.goto 16, 3) := by decide +kernel
theorem dX5_readStrip_131 : decode cX5_readStrip 131 = .ok (.goto 13, 3) := by decide +kernel
theorem dX5_readStrip_134 : decode cX5_readStrip 134 = .ok (.aload_n 0, 1) := by decide +kernel
theorem dX5_readStrip_135 : decode cX5_readStrip 135 = .ok (.aload_n 0, 1) := by decide +kernel
theorem dX5_readStrip_136 : decode cX5_readStrip 136 = .ok (.getfield 22, 3) := by decide +kernel
theorem dX5_readStrip_139 : decode cX5_readStrip 139 = .ok (.iconst 1, 1) := by decide +kernel
theorem dX5_readStrip_140 : decode cX5_readStrip 140 = .ok (.isub, 1) := by decide +kernel
theorem dX5_readStrip_141 : decode cX5_readStrip 141 = .ok (.invokevirtual 50, 3) := by decide +kernel
theorem dX5_readStrip_144 : decode cX5_readStrip 144 = .ok (.aload_n 0, 1) := by decide +kernel
theorem dX5_readStrip_145 : decode cX5_readStrip 145 = .ok (.bipush 59, 2) := by decide +kernel
theorem dX5_readStrip_147 : decode cX5_readStrip 147 = .ok (.invokevirtual 54, 3) := by decide +kernel
theorem dX5_readStrip_150 : decode cX5_readStrip 150 = .ok (.aload_n 0, 1) := by decide +kernel
theorem dX5_readStrip_151 : decode cX5_readStrip 151 = .ok (.getfield 15, 3) := by decide +kernel
theorem dX5_readStrip_154 : decode cX5_readStrip 154 = .ok (.bipush (-6), 2) := by decide +kernel
theorem dX5_readStrip_156 : decode cX5_readStrip 156 = .ok (.if_icmp .ne 7, 3) := by decide +kernel
theorem dX5_readStrip_159 : decode cX5_readStrip 159 = .ok (.iconst 1, 1) := by decide +kernel
theorem dX5_readStrip_160 : decode cX5_readStrip 160 = .ok (.goto 4, 3) := by decide +kernel
theorem dX5_readStrip_163 : decode cX5_readStrip 163 = .ok (.iconst 0, 1) := by decide +kernel
theorem dX5_readStrip_164 : decode cX5_readStrip 164 = .ok (.ireturn, 1) := by decide +kernel
theorem dX5_readEntry_0 : decode cX5_readEntry 0 = .ok (.aload_n 0, 1) := by decide +kernel
theorem dX5_readEntry_1 : decode cX5_readEntry 1 = .ok (.aload_n 0, 1) := by decide +kernel
theorem dX5_readEntry_2 : decode cX5_readEntry 2 = .ok (.invokevirtual 58, 3) := by decide +kernel
theorem dX5_readEntry_5 : decode cX5_readEntry 5 = .ok (.putfield 62, 3) := by decide +kernel
theorem dX5_readEntry_8 : decode cX5_readEntry 8 = .ok (.aload_n 0, 1) := by decide +kernel
theorem dX5_readEntry_9 : decode cX5_readEntry 9 = .ok (.aload_n 0, 1) := by decide +kernel
theorem dX5_readEntry_10 : decode cX5_readEntry 10 = .ok (.iconst 1, 1) := by decide +kernel
theorem dX5_readEntry_11 : decode cX5_readEntry 11 = .ok (.sipush 9999, 3) := by decide +kernel
theorem dX5_readEntry_14 : decode cX5_readEntry 14 = .ok (.invokevirtual 43, 3) := by decide +kernel
theorem dX5_readEntry_17 : decode cX5_readEntry 17 = .ok (.putfield 66, 3) := by decide +kernel
theorem dX5_readEntry_20 : decode cX5_readEntry 20 = .ok (.aload_n 0, 1) := by decide +kernel
theorem dX5_readEntry_21 : decode cX5_readEntry 21 = .ok (.bipush 64, 2) := by decide +kernel
theorem dX5_readEntry_23 : decode cX5_readEntry 23 = .ok (.invokevirtual 54, 3) := by decide +kernel
theorem dX5_readEntry_26 : decode cX5_readEntry 26 = .ok (.aload_n 0, 1) := by decide +kernel
theorem dX5_readEntry_27 : decode cX5_readEntry 27 = .ok (.aload_n 0, 1) := by decide +kernel
theorem dX5_readEntry_28 : decode cX5_readEntry 28 = .ok (.iconst 0, 1) := by decide +kernel
theorem dX5_readEntry_29 : decode cX5_readEntry 29 = .ok (.bipush 15, 2) := by decide +kernel
theorem dX5_readEntry_31 : decode cX5_readEntry 31 = .ok (.invokevirtual 43, 3) := by decide +kernel
theorem dX5_readEntry_34 : decode cX5_readEntry 34 = .ok (.putfield 47, 3) := by decide +kernel
theorem dX5_readEntry_37 : decode cX5_readEntry 37 = .ok (.return_, 1) := by decide +kernel
theorem dX5_readKind_0 : decode cX5_readKind 0 = .ok (.aload_n 0, 1) := by decide +kernel
theorem dX5_readKind_1 : decode cX5_readKind 1 = .ok (.invokevirtual 32, 3) := by decide +kernel
theorem dX5_readKind_4 : decode cX5_readKind 4 = .ok (.istore_n 1, 1) := by decide +kernel
theorem dX5_readKind_5 : decode cX5_readKind 5 = .ok (.iload_n 1, 1) := by decide +kernel
theorem dX5_readKind_6 : decode cX5_readKind 6 = .ok (.bipush 108, 2) := by decide +kernel
theorem dX5_readKind_8 : decode cX5_readKind 8 = .ok (.if_icmp .eq 23, 3) := by decide +kernel
theorem dX5_readKind_11 : decode cX5_readKind 11 = .ok (.iload_n 1, 1) := by decide +kernel
theorem dX5_readKind_12 : decode cX5_readKind 12 = .ok (.bipush 109, 2) := by decide +kernel
theorem dX5_readKind_14 : decode cX5_readKind 14 = .ok (.if_icmp .eq 17, 3) := by decide +kernel
theorem dX5_readKind_17 : decode cX5_readKind 17 = .ok (.iload_n 1, 1) := by decide +kernel
theorem dX5_readKind_18 : decode cX5_readKind 18 = .ok (.bipush 104, 2) := by decide +kernel
theorem dX5_readKind_20 : decode cX5_readKind 20 = .ok (.if_icmp .eq 11, 3) := by decide +kernel
theorem dX5_readKind_23 : decode cX5_readKind 23 = .ok (.aload_n 0, 1) := by decide +kernel
theorem dX5_readKind_24 : decode cX5_readKind 24 = .ok (.aload_n 0, 1) := by decide +kernel
theorem dX5_readKind_25 : decode cX5_readKind 25 = .ok (.getfield 22, 3) := by decide +kernel
theorem dX5_readKind_28 : decode cX5_readKind 28 = .ok (.invokevirtual 50, 3) := by decide +kernel
theorem dX5_readKind_31 : decode cX5_readKind 31 = .ok (.aload_n 0, 1) := by decide +kernel
theorem dX5_readKind_32 : decode cX5_readKind 32 = .ok (.dup, 1) := by decide +kernel
theorem dX5_readKind_33 : decode cX5_readKind 33 = .ok (.getfield 22, 3) := by decide +kernel
theorem dX5_readKind_36 : decode cX5_readKind 36 = .ok (.iconst 1, 1) := by decide +kernel
theorem dX5_readKind_37 : decode cX5_readKind 37 = .ok (.iadd, 1) := by decide +kernel
theorem dX5_readKind_38 : decode cX5_readKind 38 = .ok (.putfield 22, 3) := by decide +kernel
theorem dX5_readKind_41 : decode cX5_readKind 41 = .ok (.iload_n 1, 1) := by decide +kernel
theorem dX5_readKind_42 : decode cX5_readKind 42 = .ok (.bipush 108, 2) := by decide +kernel
theorem dX5_readKind_44 : decode cX5_readKind 44 = .ok (.if_icmp .ne 9, 3) := by decide +kernel
theorem dX5_readKind_47 : decode cX5_readKind 47 = .ok (.getstatic 69, 3) := by decide +kernel
theorem dX5_readKind_50 : decode cX5_readKind 50 = .ok (.goto 18, 3) := by decide +kernel
theorem dX5_readKind_53 : decode cX5_readKind 53 = .ok (.iload_n 1, 1) := by decide +kernel
theorem dX5_readKind_54 : decode cX5_readKind 54 = .ok (.bipush 109, 2) := by decide +kernel
theorem dX5_readKind_56 : decode cX5_readKind 56 = .ok (.if_icmp .ne 9, 3) := by decide +kernel
theorem dX5_readKind_59 : decode cX5_readKind 59 = .ok (.getstatic 74, 3) := by decide +kernel
theorem dX5_readKind_62 : decode cX5_readKind 62 = .ok (.goto 6, 3) := by decide +kernel
theorem dX5_readKind_65 : decode cX5_readKind 65 = .ok (.getstatic 77, 3) := by decide +kernel
theorem dX5_readKind_68 : decode cX5_readKind 68 = .ok (.areturn, 1) := by decide +kernel
theorem dX5_readNumber_0 : decode cX5_readNumber 0 = .ok (.aload_n 0, 1) := by decide +kernel
theorem dX5_readNumber_1 : decode cX5_readNumber 1 = .ok (.getfield 22, 3) := by decide +kernel
theorem dX5_readNumber_4 : decode cX5_readNumber 4 = .ok (.istore_n 3, 1) := by decide +kernel
theorem dX5_readNumber_5 : decode cX5_readNumber 5 = .ok (.aload_n 0, 1) := by decide +kernel
theorem dX5_readNumber_6 : decode cX5_readNumber 6 = .ok (.invokevirtual 32, 3) := by decide +kernel
theorem dX5_readNumber_9 : decode cX5_readNumber 9 = .ok (.bipush 48, 2) := by decide +kernel
theorem dX5_readNumber_11 : decode cX5_readNumber 11 = .ok (.if_icmp .ne 7, 3) := by decide +kernel
theorem dX5_readNumber_14 : decode cX5_readNumber 14 = .ok (.iconst 1, 1) := by decide +kernel
theorem dX5_readNumber_15 : decode cX5_readNumber 15 = .ok (.goto 4, 3) := by decide +kernel
theorem dX5_readNumber_18 : decode cX5_readNumber 18 = .ok (.iconst 4, 1) := by decide +kernel
theorem dX5_readNumber_19 : decode cX5_readNumber 19 = .ok (.istore 4, 2) := by decide +kernel
theorem dX5_readNumber_21 : decode cX5_readNumber 21 = .ok (.iconst 0, 1) := by decide +kernel
theorem dX5_readNumber_22 : decode cX5_readNumber 22 = .ok (.istore 5, 2) := by decide +kernel
theorem dX5_readNumber_24 : decode cX5_readNumber 24 = .ok (.iconst 0, 1) := by decide +kernel
theorem dX5_readNumber_25 : decode cX5_readNumber 25 = .ok (.istore 6, 2) := by decide +kernel
theorem dX5_readNumber_27 : decode cX5_readNumber 27 = .ok (.iload 6, 2) := by decide +kernel
theorem dX5_readNumber_29 : decode cX5_readNumber 29 = .ok (.iload 4, 2) := by decide +kernel
theorem dX5_readNumber_31 : decode cX5_readNumber 31 = .ok (.if_icmp .ge 44, 3) := by decide +kernel
theorem dX5_readNumber_34 : decode cX5_readNumber 34 = .ok (.aload_n 0, 1) := by decide +kernel
theorem dX5_readNumber_35 : decode cX5_readNumber 35 = .ok (.invokevirtual 32, 3) := by decide +kernel
theorem dX5_readNumber_38 : decode cX5_readNumber 38 = .ok (.invokestatic 80, 3) := by decide +kernel
theorem dX5_readNumber_41 : decode cX5_readNumber 41 = .ok (.ifCond .eq 34, 3) := by decide +kernel
theorem dX5_readNumber_44 : decode cX5_readNumber 44 = .ok (.bipush 10, 2) := by decide +kernel
theorem dX5_readNumber_46 : decode cX5_readNumber 46 = .ok (.iload 5, 2) := by decide +kernel
theorem dX5_readNumber_48 : decode cX5_readNumber 48 = .ok (.imul, 1) := by decide +kernel
theorem dX5_readNumber_49 : decode cX5_readNumber 49 = .ok (.aload_n 0, 1) := by decide +kernel
theorem dX5_readNumber_50 : decode cX5_readNumber 50 = .ok (.invokevirtual 32, 3) := by decide +kernel
theorem dX5_readNumber_53 : decode cX5_readNumber 53 = .ok (.bipush 48, 2) := by decide +kernel
theorem dX5_readNumber_55 : decode cX5_readNumber 55 = .ok (.isub, 1) := by decide +kernel
theorem dX5_readNumber_56 : decode cX5_readNumber 56 = .ok (.iadd, 1) := by decide +kernel
theorem dX5_readNumber_57 : decode cX5_readNumber 57 = .ok (.istore 5, 2) := by decide +kernel
theorem dX5_readNumber_59 : decode cX5_readNumber 59 = .ok (.aload_n 0, 1) := by decide +kernel
theorem dX5_readNumber_60 : decode cX5_readNumber 60 = .ok (.dup, 1) := by decide +kernel
theorem dX5_readNumber_61 : decode cX5_readNumber 61 = .ok (.getfield 22, 3) := by decide +kernel
theorem dX5_readNumber_64 : decode cX5_readNumber 64 = .ok (.iconst 1, 1) := by decide +kernel
theorem dX5_readNumber_65 : decode cX5_readNumber 65 = .ok (.iadd, 1) := by decide +kernel
theorem dX5_readNumber_66 : decode cX5_readNumber 66 = .ok (.putfield 22, 3) := by decide +kernel
theorem dX5_readNumber_69 : decode cX5_readNumber 69 = .ok (.iinc 6 1, 3) := by decide +kernel
theorem dX5_readNumber_72 : decode cX5_readNumber 72 = .ok (.goto (-45), 3) := by decide +kernel
theorem dX5_readNumber_75 : decode cX5_readNumber 75 = .ok (.aload_n 0, 1) := by decide +kernel
theorem dX5_readNumber_76 : decode cX5_readNumber 76 = .ok (.getfield 22, 3) := by decide +kernel
theorem dX5_readNumber_79 : decode cX5_readNumber 79 = .ok (.iload_n 3, 1) := by decide +kernel
theorem dX5_readNumber_80 : decode cX5_readNumber 80 = .ok (.if_icmp .eq 15, 3) := by decide +kernel
theorem dX5_readNumber_83 : decode cX5_readNumber 83 = .ok (.iload 5, 2) := by decide +kernel
theorem dX5_readNumber_85 : decode cX5_readNumber 85 = .ok (.iload_n 1, 1) := by decide +kernel
theorem dX5_readNumber_86 : decode cX5_readNumber 86 = .ok (.if_icmp .lt 9, 3) := by decide +kernel
theorem dX5_readNumber_89 : decode cX5_readNumber 89 = .ok (.iload 5, 2) := by decide +kernel
theorem dX5_readNumber_91 : decode cX5_readNumber 91 = .ok (.iload_n 2, 1) := by decide +kernel
theorem dX5_readNumber_92 : decode cX5_readNumber 92 = .ok (.if_icmp .le 8, 3) := by decide +kernel
theorem dX5_readNumber_95 : decode cX5_readNumber 95 = .ok (.aload_n 0, 1) := by decide +kernel
theorem dX5_readNumber_96 : decode cX5_readNumber 96 = .ok (.iload_n 3, 1) := by decide +kernel
theorem dX5_readNumber_97 : decode cX5_readNumber 97 = .ok (.invokevirtual 50, 3) := by decide +kernel
theorem dX5_readNumber_100 : decode cX5_readNumber 100 = .ok (.iload 5, 2) := by decide +kernel
theorem dX5_readNumber_102 : decode cX5_readNumber 102 = .ok (.ireturn, 1) := by decide +kernel
theorem dX5_expect_0 : decode cX5_expect 0 = .ok (.aload_n 0, 1) := by decide +kernel
theorem dX5_expect_1 : decode cX5_expect 1 = .ok (.invokevirtual 32, 3) := by decide +kernel
theorem dX5_expect_4 : decode cX5_expect 4 = .ok (.iload_n 1, 1) := by decide +kernel
theorem dX5_expect_5 : decode cX5_expect 5 = .ok (.if_icmp .ne 16, 3) := by decide +kernel
theorem dX5_expect_8 : decode cX5_expect 8 = .ok (.aload_n 0, 1) := by decide +kernel
theorem dX5_expect_9 : decode cX5_expect 9 = .ok (.dup, 1) := by decide +kernel
theorem dX5_expect_10 : decode cX5_expect 10 = .ok (.getfield 22, 3) := by decide +kernel
theorem dX5_expect_13 : decode cX5_expect 13 = .ok (.iconst 1, 1) := by decide +kernel
theorem dX5_expect_14 : decode cX5_expect 14 = .ok (.iadd, 1) := by decide +kernel
theorem dX5_expect_15 : decode cX5_expect 15 = .ok (.putfield 22, 3) := by decide +kernel
theorem dX5_expect_18 : decode cX5_expect 18 = .ok (.goto 11, 3) := by decide +kernel
theorem dX5_expect_21 : decode cX5_expect 21 = .ok (.aload_n 0, 1) := by decide +kernel
theorem dX5_expect_22 : decode cX5_expect 22 = .ok (.aload_n 0, 1) := by decide +kernel
theorem dX5_expect_23 : decode cX5_expect 23 = .ok (.getfield 22, 3) := by decide +kernel
theorem dX5_expect_26 : decode cX5_expect 26 = .ok (.invokevirtual 50, 3) := by decide +kernel
theorem dX5_expect_29 : decode cX5_expect 29 = .ok (.return_, 1) := by decide +kernel
theorem dX5_fail_0 : decode cX5_fail 0 = .ok (.aload_n 0, 1) := by decide +kernel
theorem dX5_fail_1 : decode cX5_fail 1 = .ok (.getfield 15, 3) := by decide +kernel
theorem dX5_fail_4 : decode cX5_fail 4 = .ok (.bipush (-6), 2) := by decide +kernel
theorem dX5_fail_6 : decode cX5_fail 6 = .ok (.if_icmp .ne 8, 3) := by decide +kernel
theorem dX5_fail_9 : decode cX5_fail 9 = .ok (.aload_n 0, 1) := by decide +kernel
theorem dX5_fail_10 : decode cX5_fail 10 = .ok (.iload_n 1, 1) := by decide +kernel
theorem dX5_fail_11 : decode cX5_fail 11 = .ok (.putfield 15, 3) := by decide +kernel
theorem dX5_fail_14 : decode cX5_fail 14 = .ok (.return_, 1) := by decide +kernel
theorem dX5_peek_0 : decode cX5_peek 0 = .ok (.aload_n 0, 1) := by decide +kernel
theorem dX5_peek_1 : decode cX5_peek 1 = .ok (.getfield 22, 3) := by decide +kernel
theorem dX5_peek_4 : decode cX5_peek 4 = .ok (.ifCond .lt 38, 3) := by decide +kernel
theorem dX5_peek_7 : decode cX5_peek 7 = .ok (.aload_n 0, 1) := by decide +kernel
theorem dX5_peek_8 : decode cX5_peek 8 = .ok (.getfield 22, 3) := by decide +kernel
theorem dX5_peek_11 : decode cX5_peek 11 = .ok (.aload_n 0, 1) := by decide +kernel
theorem dX5_peek_12 : decode cX5_peek 12 = .ok (.getfield 19, 3) := by decide +kernel
theorem dX5_peek_15 : decode cX5_peek 15 = .ok (.if_icmp .ge 27, 3) := by decide +kernel
theorem dX5_peek_18 : decode cX5_peek 18 = .ok (.aload_n 0, 1) := by decide +kernel
theorem dX5_peek_19 : decode cX5_peek 19 = .ok (.getfield 22, 3) := by decide +kernel
theorem dX5_peek_22 : decode cX5_peek 22 = .ok (.aload_n 0, 1) := by decide +kernel
theorem dX5_peek_23 : decode cX5_peek 23 = .ok (.getfield 9, 3) := by decide +kernel
theorem dX5_peek_26 : decode cX5_peek 26 = .ok (.arraylength, 1) := by decide +kernel
theorem dX5_peek_27 : decode cX5_peek 27 = .ok (.if_icmp .ge 15, 3) := by decide +kernel
theorem dX5_peek_30 : decode cX5_peek 30 = .ok (.aload_n 0, 1) := by decide +kernel
theorem dX5_peek_31 : decode cX5_peek 31 = .ok (.getfield 9, 3) := by decide +kernel
theorem dX5_peek_34 : decode cX5_peek 34 = .ok (.aload_n 0, 1) := by decide +kernel
theorem dX5_peek_35 : decode cX5_peek 35 = .ok (.getfield 22, 3) := by decide +kernel
theorem dX5_peek_38 : decode cX5_peek 38 = .ok (.caload, 1) := by decide +kernel
theorem dX5_peek_39 : decode cX5_peek 39 = .ok (.goto 4, 3) := by decide +kernel
theorem dX5_peek_42 : decode cX5_peek 42 = .ok (.iconst 0, 1) := by decide +kernel
theorem dX5_peek_43 : decode cX5_peek 43 = .ok (.ireturn, 1) := by decide +kernel
theorem dX5_isDigit_0 : decode cX5_isDigit 0 = .ok (.iload_n 0, 1) := by decide +kernel
theorem dX5_isDigit_1 : decode cX5_isDigit 1 = .ok (.bipush 48, 2) := by decide +kernel
theorem dX5_isDigit_3 : decode cX5_isDigit 3 = .ok (.if_icmp .lt 13, 3) := by decide +kernel
theorem dX5_isDigit_6 : decode cX5_isDigit 6 = .ok (.iload_n 0, 1) := by decide +kernel
theorem dX5_isDigit_7 : decode cX5_isDigit 7 = .ok (.bipush 57, 2) := by decide +kernel
theorem dX5_isDigit_9 : decode cX5_isDigit 9 = .ok (.if_icmp .gt 7, 3) := by decide +kernel
theorem dX5_isDigit_12 : decode cX5_isDigit 12 = .ok (.iconst 1, 1) := by decide +kernel
theorem dX5_isDigit_13 : decode cX5_isDigit 13 = .ok (.goto 4, 3) := by decide +kernel
theorem dX5_isDigit_16 : decode cX5_isDigit 16 = .ok (.iconst 0, 1) := by decide +kernel
theorem dX5_isDigit_17 : decode cX5_isDigit 17 = .ok (.ireturn, 1) := by decide +kernel
theorem dJ9_min_7cf53_0 : decode cJ9_min_7cf53 0 = .ok (.iload_n 0, 1) := by decide +kernel
theorem dJ9_min_7cf53_1 : decode cJ9_min_7cf53 1 = .ok (.iload_n 1, 1) := by decide +kernel
theorem dJ9_min_7cf53_2 : decode cJ9_min_7cf53 2 = .ok (.if_icmp .gt 7, 3) := by decide +kernel
theorem dJ9_min_7cf53_5 : decode cJ9_min_7cf53 5 = .ok (.iload_n 0, 1) := by decide +kernel
theorem dJ9_min_7cf53_6 : decode cJ9_min_7cf53 6 = .ok (.goto 4, 3) := by decide +kernel
theorem dJ9_min_7cf53_9 : decode cJ9_min_7cf53 9 = .ok (.iload_n 1, 1) := by decide +kernel
theorem dJ9_min_7cf53_10 : decode cJ9_min_7cf53 10 = .ok (.ireturn, 1) := by decide +kernel
theorem dJ7_fill_53178_0 : decode cJ7_fill_53178 0 = .ok (.iconst 0, 1) := by decide +kernel
theorem dJ7_fill_53178_1 : decode cJ7_fill_53178 1 = .ok (.istore_n 2, 1) := by decide +kernel
theorem dJ7_fill_53178_2 : decode cJ7_fill_53178 2 = .ok (.aload_n 0, 1) := by decide +kernel
theorem dJ7_fill_53178_3 : decode cJ7_fill_53178 3 = .ok (.arraylength, 1) := by decide +kernel
theorem dJ7_fill_53178_4 : decode cJ7_fill_53178 4 = .ok (.istore_n 3, 1) := by decide +kernel
theorem dJ7_fill_53178_5 : decode cJ7_fill_53178 5 = .ok (.iload_n 2, 1) := by decide +kernel
theorem dJ7_fill_53178_6 : decode cJ7_fill_53178 6 = .ok (.iload_n 3, 1) := by decide +kernel
theorem dJ7_fill_53178_7 : decode cJ7_fill_53178 7 = .ok (.if_icmp .ge 13, 3) := by decide +kernel
theorem dJ7_fill_53178_10 : decode cJ7_fill_53178 10 = .ok (.aload_n 0, 1) := by decide +kernel
theorem dJ7_fill_53178_11 : decode cJ7_fill_53178 11 = .ok (.iload_n 2, 1) := by decide +kernel
theorem dJ7_fill_53178_12 : decode cJ7_fill_53178 12 = .ok (.iload_n 1, 1) := by decide +kernel
theorem dJ7_fill_53178_13 : decode cJ7_fill_53178 13 = .ok (.iastore, 1) := by decide +kernel
theorem dJ7_fill_53178_14 : decode cJ7_fill_53178 14 = .ok (.iinc 2 1, 3) := by decide +kernel
theorem dJ7_fill_53178_17 : decode cJ7_fill_53178 17 = .ok (.goto (-12), 3) := by decide +kernel
theorem dJ7_fill_53178_20 : decode cJ7_fill_53178 20 = .ok (.return_, 1) := by decide +kernel

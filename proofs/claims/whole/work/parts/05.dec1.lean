theorem dX0_init_0 : decode cX0_init 0 = .ok (.aload_n 0, 1) := by decide +kernel
theorem dX0_init_1 : decode cX0_init 1 = .ok (.invokespecial 1, 3) := by decide +kernel
theorem dX0_init_4 : decode cX0_init 4 = .ok (.aload_n 0, 1) := by decide +kernel
theorem dX0_init_5 : decode cX0_init 5 = .ok (.iload_n 1, 1) := by decide +kernel
theorem dX0_init_6 : decode cX0_init 6 = .ok (.newarray .int, 2) := by decide +kernel
theorem dX0_init_8 : decode cX0_init 8 = .ok (.putfield 7, 3) := by decide +kernel
theorem dX0_init_11 : decode cX0_init 11 = .ok (.return_, 1) := by decide +kernel
theorem dX0_clear_0 : decode cX0_clear 0 = .ok (.aload_n 0, 1) := by decide +kernel
theorem dX0_clear_1 : decode cX0_clear 1 = .ok (.iconst 0, 1) := by decide +kernel
theorem dX0_clear_2 : decode cX0_clear 2 = .ok (.putfield 13, 3) := by decide +kernel
theorem dX0_clear_5 : decode cX0_clear 5 = .ok (.return_, 1) := by decide +kernel
theorem dX0_has_0 : decode cX0_has 0 = .ok (.iload_n 1, 1) := by decide +kernel
theorem dX0_has_1 : decode cX0_has 1 = .ok (.ifCond .lt 15, 3) := by decide +kernel
theorem dX0_has_4 : decode cX0_has 4 = .ok (.iload_n 1, 1) := by decide +kernel
theorem dX0_has_5 : decode cX0_has 5 = .ok (.aload_n 0, 1) := by decide +kernel
theorem dX0_has_6 : decode cX0_has 6 = .ok (.getfield 13, 3) := by decide +kernel
theorem dX0_has_9 : decode cX0_has 9 = .ok (.if_icmp .ge 7, 3) := by decide +kernel
theorem dX0_has_12 : decode cX0_has 12 = .ok (.iconst 1, 1) := by decide +kernel
theorem dX0_has_13 : decode cX0_has 13 = .ok (.goto 4, 3) := by decide +kernel
theorem dX0_has_16 : decode cX0_has 16 = .ok (.iconst 0, 1) := by decide +kernel
theorem dX0_has_17 : decode cX0_has 17 = .ok (.ireturn, 1) := by decide +kernel
theorem dX0_at_0 : decode cX0_at 0 = .ok (.iload_n 1, 1) := by decide +kernel
theorem dX0_at_1 : decode cX0_at 1 = .ok (.ifCond .lt 20, 3) := by decide +kernel
theorem dX0_at_4 : decode cX0_at 4 = .ok (.iload_n 1, 1) := by decide +kernel
theorem dX0_at_5 : decode cX0_at 5 = .ok (.aload_n 0, 1) := by decide +kernel
theorem dX0_at_6 : decode cX0_at 6 = .ok (.getfield 13, 3) := by decide +kernel
theorem dX0_at_9 : decode cX0_at 9 = .ok (.if_icmp .ge 12, 3) := by decide +kernel
theorem dX0_at_12 : decode cX0_at 12 = .ok (.aload_n 0, 1) := by decide +kernel
theorem dX0_at_13 : decode cX0_at 13 = .ok (.getfield 7, 3) := by decide +kernel
theorem dX0_at_16 : decode cX0_at 16 = .ok (.iload_n 1, 1) := by decide +kernel
theorem dX0_at_17 : decode cX0_at 17 = .ok (.iaload, 1) := by decide +kernel
theorem dX0_at_18 : decode cX0_at 18 = .ok (.goto 4, 3) := by decide +kernel
theorem dX0_at_21 : decode cX0_at 21 = .ok (.iconst 0, 1) := by decide +kernel
theorem dX0_at_22 : decode cX0_at 22 = .ok (.ireturn, 1) := by decide +kernel
theorem dX0_turnOver_0 : decode cX0_turnOver 0 = .ok (.aload_n 0, 1) := by decide +kernel
theorem dX0_turnOver_1 : decode cX0_turnOver 1 = .ok (.iload_n 1, 1) := by decide +kernel
theorem dX0_turnOver_2 : decode cX0_turnOver 2 = .ok (.invokevirtual 17, 3) := by decide +kernel
theorem dX0_turnOver_5 : decode cX0_turnOver 5 = .ok (.ifCond .eq 13, 3) := by decide +kernel
theorem dX0_turnOver_8 : decode cX0_turnOver 8 = .ok (.aload_n 0, 1) := by decide +kernel
theorem dX0_turnOver_9 : decode cX0_turnOver 9 = .ok (.getfield 7, 3) := by decide +kernel
theorem dX0_turnOver_12 : decode cX0_turnOver 12 = .ok (.iload_n 1, 1) := by decide +kernel
theorem dX0_turnOver_13 : decode cX0_turnOver 13 = .ok (.dup2, 1) := by decide +kernel
theorem dX0_turnOver_14 : decode cX0_turnOver 14 = .ok (.iaload, 1) := by decide +kernel
theorem dX0_turnOver_15 : decode cX0_turnOver 15 = .ok (.iconst 1, 1) := by decide +kernel
theorem dX0_turnOver_16 : decode cX0_turnOver 16 = .ok (.ixor, 1) := by decide +kernel
theorem dX0_turnOver_17 : decode cX0_turnOver 17 = .ok (.iastore, 1) := by decide +kernel
theorem dX0_turnOver_18 : decode cX0_turnOver 18 = .ok (.return_, 1) := by decide +kernel
theorem dX0_add_0 : decode cX0_add 0 = .ok (.aload_n 0, 1) := by decide +kernel
theorem dX0_add_1 : decode cX0_add 1 = .ok (.getfield 13, 3) := by decide +kernel
theorem dX0_add_4 : decode cX0_add 4 = .ok (.aload_n 0, 1) := by decide +kernel
theorem dX0_add_5 : decode cX0_add 5 = .ok (.getfield 7, 3) := by decide +kernel
theorem dX0_add_8 : decode cX0_add 8 = .ok (.arraylength, 1) := by decide +kernel
theorem dX0_add_9 : decode cX0_add 9 = .ok (.if_icmp .ge 25, 3) := by decide +kernel
theorem dX0_add_12 : decode cX0_add 12 = .ok (.aload_n 0, 1) := by decide +kernel
theorem dX0_add_13 : decode cX0_add 13 = .ok (.getfield 7, 3) := by decide +kernel
theorem dX0_add_16 : decode cX0_add 16 = .ok (.aload_n 0, 1) := by decide +kernel
theorem dX0_add_17 : decode cX0_add 17 = .ok (.getfield 13, 3) := by decide +kernel
theorem dX0_add_20 : decode cX0_add 20 = .ok (.iload_n 1, 1) := by decide +kernel
theorem dX0_add_21 : decode cX0_add 21 = .ok (.iconst 1, 1) := by decide +kernel
theorem dX0_add_22 : decode cX0_add 22 = .ok (.iand, 1) := by decide +kernel
theorem dX0_add_23 : decode cX0_add 23 = .ok (.iastore, 1) := by decide +kernel
theorem dX0_add_24 : decode cX0_add 24 = .ok (.aload_n 0, 1) := by decide +kernel
theorem dX0_add_25 : decode cX0_add 25 = .ok (.dup, 1) := by decide +kernel
theorem dX0_add_26 : decode cX0_add 26 = .ok (.getfield 13, 3) := by decide +kernel
theorem dX0_add_29 : decode cX0_add 29 = .ok (.iconst 1, 1) := by decide +kernel
theorem dX0_add_30 : decode cX0_add 30 = .ok (.iadd, 1) := by decide +kernel
theorem dX0_add_31 : decode cX0_add 31 = .ok (.putfield 13, 3) := by decide +kernel
theorem dX0_add_34 : decode cX0_add 34 = .ok (.return_, 1) := by decide +kernel
theorem dX0_addAll_0 : decode cX0_addAll 0 = .ok (.iconst 0, 1) := by decide +kernel
theorem dX0_addAll_1 : decode cX0_addAll 1 = .ok (.istore 4, 2) := by decide +kernel
theorem dX0_addAll_3 : decode cX0_addAll 3 = .ok (.iload 4, 2) := by decide +kernel
theorem dX0_addAll_5 : decode cX0_addAll 5 = .ok (.iload_n 3, 1) := by decide +kernel
theorem dX0_addAll_6 : decode cX0_addAll 6 = .ok (.if_icmp .ge 21, 3) := by decide +kernel
theorem dX0_addAll_9 : decode cX0_addAll 9 = .ok (.aload_n 0, 1) := by decide +kernel
theorem dX0_addAll_10 : decode cX0_addAll 10 = .ok (.aload_n 1, 1) := by decide +kernel
theorem dX0_addAll_11 : decode cX0_addAll 11 = .ok (.iload_n 2, 1) := by decide +kernel
theorem dX0_addAll_12 : decode cX0_addAll 12 = .ok (.iload 4, 2) := by decide +kernel
theorem dX0_addAll_14 : decode cX0_addAll 14 = .ok (.iadd, 1) := by decide +kernel
theorem dX0_addAll_15 : decode cX0_addAll 15 = .ok (.invokevirtual 21, 3) := by decide +kernel
theorem dX0_addAll_18 : decode cX0_addAll 18 = .ok (.invokevirtual 25, 3) := by decide +kernel
theorem dX0_addAll_21 : decode cX0_addAll 21 = .ok (.iinc 4 1, 3) := by decide +kernel
theorem dX0_addAll_24 : decode cX0_addAll 24 = .ok (.goto (-21), 3) := by decide +kernel
theorem dX0_addAll_27 : decode cX0_addAll 27 = .ok (.return_, 1) := by decide +kernel
theorem dX0_addNumber_0 : decode cX0_addNumber 0 = .ok (.iconst 0, 1) := by decide +kernel
theorem dX0_addNumber_1 : decode cX0_addNumber 1 = .ok (.istore_n 3, 1) := by decide +kernel
theorem dX0_addNumber_2 : decode cX0_addNumber 2 = .ok (.iload_n 3, 1) := by decide +kernel
theorem dX0_addNumber_3 : decode cX0_addNumber 3 = .ok (.iload_n 2, 1) := by decide +kernel
theorem dX0_addNumber_4 : decode cX0_addNumber 4 = .ok (.if_icmp .ge 16, 3) := by decide +kernel
theorem dX0_addNumber_7 : decode cX0_addNumber 7 = .ok (.aload_n 0, 1) := by decide +kernel
theorem dX0_addNumber_8 : decode cX0_addNumber 8 = .ok (.iload_n 1, 1) := by decide +kernel
theorem dX0_addNumber_9 : decode cX0_addNumber 9 = .ok (.iload_n 3, 1) := by decide +kernel
theorem dX0_addNumber_10 : decode cX0_addNumber 10 = .ok (.ishr, 1) := by decide +kernel
theorem dX0_addNumber_11 : decode cX0_addNumber 11 = .ok (.invokevirtual 25, 3) := by decide +kernel
theorem dX0_addNumber_14 : decode cX0_addNumber 14 = .ok (.iinc 3 1, 3) := by decide +kernel
theorem dX0_addNumber_17 : decode cX0_addNumber 17 = .ok (.goto (-15), 3) := by decide +kernel
theorem dX0_addNumber_20 : decode cX0_addNumber 20 = .ok (.return_, 1) := by decide +kernel
theorem dX0_addRemainder_0 : decode cX0_addRemainder 0 = .ok (.iload_n 2, 1) := by decide +kernel
theorem dX0_addRemainder_1 : decode cX0_addRemainder 1 = .ok (.iconst 1, 1) := by decide +kernel
theorem dX0_addRemainder_2 : decode cX0_addRemainder 2 = .ok (.isub, 1) := by decide +kernel
theorem dX0_addRemainder_3 : decode cX0_addRemainder 3 = .ok (.istore_n 3, 1) := by decide +kernel
theorem dX0_addRemainder_4 : decode cX0_addRemainder 4 = .ok (.iload_n 3, 1) := by decide +kernel
theorem dX0_addRemainder_5 : decode cX0_addRemainder 5 = .ok (.ifCond .lt 16, 3) := by decide +kernel
theorem dX0_addRemainder_8 : decode cX0_addRemainder 8 = .ok (.aload_n 0, 1) := by decide +kernel
theorem dX0_addRemainder_9 : decode cX0_addRemainder 9 = .ok (.iload_n 1, 1) := by decide +kernel
theorem dX0_addRemainder_10 : decode cX0_addRemainder 10 = .ok (.iload_n 3, 1) := by decide +kernel
theorem dX0_addRemainder_11 : decode cX0_addRemainder 11 = .ok (.ishr, 1) := by decide +kernel
theorem dX0_addRemainder_12 : decode cX0_addRemainder 12 = .ok (.invokevirtual 25, 3) := by decide +kernel
theorem dX0_addRemainder_15 : decode cX0_addRemainder 15 = .ok (.iinc 3 (-1), 3) := by decide +kernel
theorem dX0_addRemainder_18 : decode cX0_addRemainder 18 = .ok (.goto (-14), 3) := by decide +kernel
theorem dX0_addRemainder_21 : decode cX0_addRemainder 21 = .ok (.return_, 1) := by decide +kernel
theorem dX0_numberAt_0 : decode cX0_numberAt 0 = .ok (.iconst 0, 1) := by decide +kernel
theorem dX0_numberAt_1 : decode cX0_numberAt 1 = .ok (.istore_n 3, 1) := by decide +kernel
theorem dX0_numberAt_2 : decode cX0_numberAt 2 = .ok (.iconst 0, 1) := by decide +kernel
theorem dX0_numberAt_3 : decode cX0_numberAt 3 = .ok (.istore 4, 2) := by decide +kernel
theorem dX0_numberAt_5 : decode cX0_numberAt 5 = .ok (.iload 4, 2) := by decide +kernel
theorem dX0_numberAt_7 : decode cX0_numberAt 7 = .ok (.iload_n 2, 1) := by decide +kernel
theorem dX0_numberAt_8 : decode cX0_numberAt 8 = .ok (.if_icmp .ge 23, 3) := by decide +kernel
theorem dX0_numberAt_11 : decode cX0_numberAt 11 = .ok (.iload_n 3, 1) := by decide +kernel
theorem dX0_numberAt_12 : decode cX0_numberAt 12 = .ok (.aload_n 0, 1) := by decide +kernel
theorem dX0_numberAt_13 : decode cX0_numberAt 13 = .ok (.iload_n 1, 1) := by decide +kernel
theorem dX0_numberAt_14 : decode cX0_numberAt 14 = .ok (.iload 4, 2) := by decide +kernel
theorem dX0_numberAt_16 : decode cX0_numberAt 16 = .ok (.iadd, 1) := by decide +kernel
theorem dX0_numberAt_17 : decode cX0_numberAt 17 = .ok (.invokevirtual 21, 3) := by decide +kernel
theorem dX0_numberAt_20 : decode cX0_numberAt 20 = .ok (.iload 4, 2) := by decide +kernel
theorem dX0_numberAt_22 : decode cX0_numberAt 22 = .ok (.ishl, 1) := by decide +kernel
theorem dX0_numberAt_23 : decode cX0_numberAt 23 = .ok (.ior, 1) := by decide +kernel
theorem dX0_numberAt_24 : decode cX0_numberAt 24 = .ok (.istore_n 3, 1) := by decide +kernel
theorem dX0_numberAt_25 : decode cX0_numberAt 25 = .ok (.iinc 4 1, 3) := by decide +kernel
theorem dX0_numberAt_28 : decode cX0_numberAt 28 = .ok (.goto (-23), 3) := by decide +kernel
theorem dX0_numberAt_31 : decode cX0_numberAt 31 = .ok (.iload_n 3, 1) := by decide +kernel
theorem dX0_numberAt_32 : decode cX0_numberAt 32 = .ok (.ireturn, 1) := by decide +kernel
theorem dX0_remainderOf_0 : decode cX0_remainderOf 0 = .ok (.iconst 0, 1) := by decide +kernel
theorem dX0_remainderOf_1 : decode cX0_remainderOf 1 = .ok (.istore 4, 2) := by decide +kernel
theorem dX0_remainderOf_3 : decode cX0_remainderOf 3 = .ok (.iconst 0, 1) := by decide +kernel
theorem dX0_remainderOf_4 : decode cX0_remainderOf 4 = .ok (.istore 5, 2) := by decide +kernel
theorem dX0_remainderOf_6 : decode cX0_remainderOf 6 = .ok (.iload 5, 2) := by decide +kernel
theorem dX0_remainderOf_8 : decode cX0_remainderOf 8 = .ok (.iload_n 1, 1) := by decide +kernel
theorem dX0_remainderOf_9 : decode cX0_remainderOf 9 = .ok (.if_icmp .ge 40, 3) := by decide +kernel
theorem dX0_remainderOf_12 : decode cX0_remainderOf 12 = .ok (.iload 4, 2) := by decide +kernel
theorem dX0_remainderOf_14 : decode cX0_remainderOf 14 = .ok (.iconst 1, 1) := by decide +kernel
theorem dX0_remainderOf_15 : decode cX0_remainderOf 15 = .ok (.ishl, 1) := by decide +kernel
theorem dX0_remainderOf_16 : decode cX0_remainderOf 16 = .ok (.aload_n 0, 1) := by decide +kernel
theorem dX0_remainderOf_17 : decode cX0_remainderOf 17 = .ok (.iload 5, 2) := by decide +kernel
theorem dX0_remainderOf_19 : decode cX0_remainderOf 19 = .ok (.invokevirtual 21, 3) := by decide +kernel
theorem dX0_remainderOf_22 : decode cX0_remainderOf 22 = .ok (.iload_n 3, 1) := by decide +kernel
theorem dX0_remainderOf_23 : decode cX0_remainderOf 23 = .ok (.ishl, 1) := by decide +kernel
theorem dX0_remainderOf_24 : decode cX0_remainderOf 24 = .ok (.ixor, 1) := by decide +kernel
theorem dX0_remainderOf_25 : decode cX0_remainderOf 25 = .ok (.istore 4, 2) := by decide +kernel
theorem dX0_remainderOf_27 : decode cX0_remainderOf 27 = .ok (.iload 4, 2) := by decide +kernel
theorem dX0_remainderOf_29 : decode cX0_remainderOf 29 = .ok (.iload_n 3, 1) := by decide +kernel
theorem dX0_remainderOf_30 : decode cX0_remainderOf 30 = .ok (.ishr, 1) := by decide +kernel
theorem dX0_remainderOf_31 : decode cX0_remainderOf 31 = .ok (.iconst 1, 1) := by decide +kernel
theorem dX0_remainderOf_32 : decode cX0_remainderOf 32 = .ok (.iand, 1) := by decide +kernel
theorem dX0_remainderOf_33 : decode cX0_remainderOf 33 = .ok (.iconst 1, 1) := by decide +kernel
theorem dX0_remainderOf_34 : decode cX0_remainderOf 34 = .ok (.if_icmp .ne 9, 3) := by decide +kernel
theorem dX0_remainderOf_37 : decode cX0_remainderOf 37 = .ok (.iload 4, 2) := by decide +kernel
theorem dX0_remainderOf_39 : decode cX0_remainderOf 39 = .ok (.iload_n 2, 1) := by decide +kernel
theorem dX0_remainderOf_40 : decode cX0_remainderOf 40 = .ok (.ixor, 1) := by decide +kernel
theorem dX0_remainderOf_41 : decode cX0_remainderOf 41 = .ok (.istore 4, 2) := by decide +kernel
theorem dX0_remainderOf_43 : decode cX0_remainderOf 43 = .ok (.iinc 5 1, 3) := by decide +kernel
theorem dX0_remainderOf_46 : decode cX0_remainderOf 46 = .ok (.goto (-40), 3) := by decide +kernel
theorem dX0_remainderOf_49 : decode cX0_remainderOf 49 = .ok (.iload 4, 2) := by decide +kernel
theorem dX0_remainderOf_51 : decode cX0_remainderOf 51 = .ok (.ireturn, 1) := by decide +kernel
theorem dX0_holds_0 : decode cX0_holds 0 = .ok (.aload_n 0, 1) := by decide +kernel
theorem dX0_holds_1 : decode cX0_holds 1 = .ok (.iload_n 1, 1) := by decide +kernel
theorem dX0_holds_2 : decode cX0_holds 2 = .ok (.iload_n 2, 1) := by decide +kernel
theorem dX0_holds_3 : decode cX0_holds 3 = .ok (.iload_n 3, 1) := by decide +kernel
theorem dX0_holds_4 : decode cX0_holds 4 = .ok (.invokevirtual 29, 3) := by decide +kernel
theorem dX0_holds_7 : decode cX0_holds 7 = .ok (.istore 4, 2) := by decide +kernel
theorem dX0_holds_9 : decode cX0_holds 9 = .ok (.iconst 0, 1) := by decide +kernel
theorem dX0_holds_10 : decode cX0_holds 10 = .ok (.istore 5, 2) := by decide +kernel
theorem dX0_holds_12 : decode cX0_holds 12 = .ok (.iload 5, 2) := by decide +kernel
theorem dX0_holds_14 : decode cX0_holds 14 = .ok (.iload_n 3, 1) := by decide +kernel
theorem dX0_holds_15 : decode cX0_holds 15 = .ok (.if_icmp .ge 33, 3) := by decide +kernel
theorem dX0_holds_18 : decode cX0_holds 18 = .ok (.aload_n 0, 1) := by decide +kernel
theorem dX0_holds_19 : decode cX0_holds 19 = .ok (.iload_n 1, 1) := by decide +kernel
theorem dX0_holds_20 : decode cX0_holds 20 = .ok (.iload 5, 2) := by decide +kernel
theorem dX0_holds_22 : decode cX0_holds 22 = .ok (.iadd, 1) := by decide +kernel
theorem dX0_holds_23 : decode cX0_holds 23 = .ok (.invokevirtual 21, 3) := by decide +kernel
theorem dX0_holds_26 : decode cX0_holds 26 = .ok (.iload 4, 2) := by decide +kernel
theorem dX0_holds_28 : decode cX0_holds 28 = .ok (.iload_n 3, 1) := by decide +kernel
theorem dX0_holds_29 : decode cX0_holds 29 = .ok (.iconst 1, 1) := by decide +kernel
theorem dX0_holds_30 : decode cX0_holds 30 = .ok (.isub, 1) := by decide +kernel
theorem dX0_holds_31 : decode cX0_holds 31 = .ok (.iload 5, 2) := by decide +kernel
theorem dX0_holds_33 : decode cX0_holds 33 = .ok (.isub, 1) := by decide +kernel
theorem dX0_holds_34 : decode cX0_holds 34 = .ok (.ishr, 1) := by decide +kernel
theorem dX0_holds_35 : decode cX0_holds 35 = .ok (.iconst 1, 1) := by decide +kernel
theorem dX0_holds_36 : decode cX0_holds 36 = .ok (.iand, 1) := by decide +kernel
theorem dX0_holds_37 : decode cX0_holds 37 = .ok (.if_icmp .eq 5, 3) := by decide +kernel
theorem dX0_holds_40 : decode cX0_holds 40 = .ok (.iconst 0, 1) := by decide +kernel
theorem dX0_holds_41 : decode cX0_holds 41 = .ok (.ireturn, 1) := by decide +kernel
theorem dX0_holds_42 : decode cX0_holds 42 = .ok (.iinc 5 1, 3) := by decide +kernel
theorem dX0_holds_45 : decode cX0_holds 45 = .ok (.goto (-33), 3) := by decide +kernel
theorem dX0_holds_48 : decode cX0_holds 48 = .ok (.iconst 1, 1) := by decide +kernel
theorem dX0_holds_49 : decode cX0_holds 49 = .ok (.ireturn, 1) := by decide +kernel
theorem dX0_whiten_0 : decode cX0_whiten 0 = .ok (.iconst 0, 1) := by decide +kernel
theorem dX0_whiten_1 : decode cX0_whiten 1 = .ok (.istore_n 3, 1) := by decide +kernel
theorem dX0_whiten_2 : decode cX0_whiten 2 = .ok (.iload_n 3, 1) := by decide +kernel
theorem dX0_whiten_3 : decode cX0_whiten 3 = .ok (.aload_n 0, 1) := by decide +kernel
theorem dX0_whiten_4 : decode cX0_whiten 4 = .ok (.getfield 13, 3) := by decide +kernel
theorem dX0_whiten_7 : decode cX0_whiten 7 = .ok (.if_icmp .ge 25, 3) := by decide +kernel
theorem dX0_whiten_10 : decode cX0_whiten 10 = .ok (.aload_n 0, 1) := by decide +kernel
theorem dX0_whiten_11 : decode cX0_whiten 11 = .ok (.getfield 7, 3) := by decide +kernel
theorem dX0_whiten_14 : decode cX0_whiten 14 = .ok (.iload_n 3, 1) := by decide +kernel
theorem dX0_whiten_15 : decode cX0_whiten 15 = .ok (.dup2, 1) := by decide +kernel
theorem dX0_whiten_16 : decode cX0_whiten 16 = .ok (.iaload, 1) := by decide +kernel
theorem dX0_whiten_17 : decode cX0_whiten 17 = .ok (.aload_n 1, 1) := by decide +kernel
theorem dX0_whiten_18 : decode cX0_whiten 18 = .ok (.iload_n 2, 1) := by decide +kernel
theorem dX0_whiten_19 : decode cX0_whiten 19 = .ok (.iload_n 3, 1) := by decide +kernel
theorem dX0_whiten_20 : decode cX0_whiten 20 = .ok (.iadd, 1) := by decide +kernel
theorem dX0_whiten_21 : decode cX0_whiten 21 = .ok (.invokevirtual 21, 3) := by decide +kernel
theorem dX0_whiten_24 : decode cX0_whiten 24 = .ok (.ixor, 1) := by decide +kernel
theorem dX0_whiten_25 : decode cX0_whiten 25 = .ok (.iastore, 1) := by decide +kernel
theorem dX0_whiten_26 : decode cX0_whiten 26 = .ok (.iinc 3 1, 3) := by decide +kernel
theorem dX0_whiten_29 : decode cX0_whiten 29 = .ok (.goto (-27), 3) := by decide +kernel
theorem dX0_whiten_32 : decode cX0_whiten 32 = .ok (.return_, 1) := by decide +kernel
theorem dX1_init_0 : decode cX1_init 0 = .ok (.aload_n 0, 1) := by decide +kernel
theorem dX1_init_1 : decode cX1_init 1 = .ok (.invokespecial 3, 3) := by decide +kernel
theorem dX1_init_4 : decode cX1_init 4 = .ok (.aload_n 0, 1) := by decide +kernel
theorem dX1_init_5 : decode cX1_init 5 = .ok (.new 9, 3) := by decide +kernel
theorem dX1_init_8 : decode cX1_init 8 = .ok (.dup, 1) := by decide +kernel
theorem dX1_init_9 : decode cX1_init 9 = .ok (.sipush 168, 3) := by decide +kernel
theorem dX1_init_12 : decode cX1_init 12 = .ok (.invokespecial 11, 3) := by decide +kernel
theorem dX1_init_15 : decode cX1_init 15 = .ok (.putfield 14, 3) := by decide +kernel
theorem dX1_init_18 : decode cX1_init 18 = .ok (.aload_n 0, 1) := by decide +kernel
theorem dX1_init_19 : decode cX1_init 19 = .ok (.new 9, 3) := by decide +kernel
theorem dX1_init_22 : decode cX1_init 22 = .ok (.dup, 1) := by decide +kernel
theorem dX1_init_23 : decode cX1_init 23 = .ok (.bipush 18, 2) := by decide +kernel
theorem dX1_init_25 : decode cX1_init 25 = .ok (.invokespecial 11, 3) := by decide +kernel
theorem dX1_init_28 : decode cX1_init 28 = .ok (.putfield 20, 3) := by decide +kernel
theorem dX1_init_31 : decode cX1_init 31 = .ok (.aload_n 0, 1) := by decide +kernel
theorem dX1_init_32 : decode cX1_init 32 = .ok (.new 9, 3) := by decide +kernel
theorem dX1_init_35 : decode cX1_init 35 = .ok (.dup, 1) := by decide +kernel
theorem dX1_init_36 : decode cX1_init 36 = .ok (.sipush 150, 3) := by decide +kernel
theorem dX1_init_39 : decode cX1_init 39 = .ok (.invokespecial 11, 3) := by decide +kernel
theorem dX1_init_42 : decode cX1_init 42 = .ok (.putfield 23, 3) := by decide +kernel
theorem dX1_init_45 : decode cX1_init 45 = .ok (.aload_n 0, 1) := by decide +kernel
theorem dX1_init_46 : decode cX1_init 46 = .ok (.new 9, 3) := by decide +kernel
theorem dX1_init_49 : decode cX1_init 49 = .ok (.dup, 1) := by decide +kernel
theorem dX1_init_50 : decode cX1_init 50 = .ok (.bipush 15, 2) := by decide +kernel
theorem dX1_init_52 : decode cX1_init 52 = .ok (.invokespecial 11, 3) := by decide +kernel
theorem dX1_init_55 : decode cX1_init 55 = .ok (.putfield 26, 3) := by decide +kernel
theorem dX1_init_58 : decode cX1_init 58 = .ok (.aload_n 0, 1) := by decide +kernel
theorem dX1_init_59 : decode cX1_init 59 = .ok (.iload_n 1, 1) := by decide +kernel
theorem dX1_init_60 : decode cX1_init 60 = .ok (.putfield 29, 3) := by decide +kernel
theorem dX1_init_63 : decode cX1_init 63 = .ok (.return_, 1) := by decide +kernel
theorem dX1_put_0 : decode cX1_put 0 = .ok (.aload_n 0, 1) := by decide +kernel
theorem dX1_put_1 : decode cX1_put 1 = .ok (.iload_n 2, 1) := by decide +kernel
theorem dX1_put_2 : decode cX1_put 2 = .ok (.invokevirtual 33, 3) := by decide +kernel
theorem dX1_put_5 : decode cX1_put 5 = .ok (.aload_n 0, 1) := by decide +kernel
theorem dX1_put_6 : decode cX1_put 6 = .ok (.aload_n 1, 1) := by decide +kernel
theorem dX1_put_7 : decode cX1_put 7 = .ok (.aload_n 3, 1) := by decide +kernel
theorem dX1_put_8 : decode cX1_put 8 = .ok (.invokevirtual 36, 3) := by decide +kernel
theorem dX1_put_11 : decode cX1_put 11 = .ok (.aload_n 1, 1) := by decide +kernel
theorem dX1_put_12 : decode cX1_put 12 = .ok (.invokevirtual 40, 3) := by decide +kernel
theorem dX1_put_15 : decode cX1_put 15 = .ok (.ifCond .eq 40, 3) := by decide +kernel
theorem dX1_put_18 : decode cX1_put 18 = .ok (.aload_n 0, 1) := by decide +kernel
theorem dX1_put_19 : decode cX1_put 19 = .ok (.aload_n 1, 1) := by decide +kernel
theorem dX1_put_20 : decode cX1_put 20 = .ok (.invokevirtual 46, 3) := by decide +kernel
theorem dX1_put_23 : decode cX1_put 23 = .ok (.aload_n 1, 1) := by decide +kernel
theorem dX1_put_24 : decode cX1_put 24 = .ok (.getfield 50, 3) := by decide +kernel
theorem dX1_put_27 : decode cX1_put 27 = .ok (.iconst 3, 1) := by decide +kernel
theorem dX1_put_28 : decode cX1_put 28 = .ok (.if_icmp .ne 11, 3) := by decide +kernel
theorem dX1_put_31 : decode cX1_put 31 = .ok (.aload_n 0, 1) := by decide +kernel
theorem dX1_put_32 : decode cX1_put 32 = .ok (.aload_n 3, 1) := by decide +kernel
theorem dX1_put_33 : decode cX1_put 33 = .ok (.invokevirtual 53, 3) := by decide +kernel
theorem dX1_put_36 : decode cX1_put 36 = .ok (.goto 19, 3) := by decide +kernel
theorem dX1_put_39 : decode cX1_put 39 = .ok (.aload_n 3, 1) := by decide +kernel
theorem dX1_put_40 : decode cX1_put 40 = .ok (.aload_n 0, 1) := by decide +kernel
theorem dX1_put_41 : decode cX1_put 41 = .ok (.getfield 23, 3) := by decide +kernel
theorem dX1_put_44 : decode cX1_put 44 = .ok (.iconst 0, 1) := by decide +kernel
theorem dX1_put_45 : decode cX1_put 45 = .ok (.aload_n 0, 1) := by decide +kernel
theorem dX1_put_46 : decode cX1_put 46 = .ok (.getfield 23, 3) := by decide +kernel
theorem dX1_put_49 : decode cX1_put 49 = .ok (.getfield 57, 3) := by decide +kernel
theorem dX1_put_52 : decode cX1_put 52 = .ok (.invokevirtual 60, 3) := by decide +kernel
theorem dX1_put_55 : decode cX1_put 55 = .ok (.return_, 1) := by decide +kernel
theorem dX1_take_0 : decode cX1_take 0 = .ok (.aload_n 0, 1) := by decide +kernel
theorem dX1_take_1 : decode cX1_take 1 = .ok (.iload_n 2, 1) := by decide +kernel
theorem dX1_take_2 : decode cX1_take 2 = .ok (.invokevirtual 33, 3) := by decide +kernel
theorem dX1_take_5 : decode cX1_take 5 = .ok (.aload_n 3, 1) := by decide +kernel
theorem dX1_take_6 : decode cX1_take 6 = .ok (.iconst 0, 1) := by decide +kernel
theorem dX1_take_7 : decode cX1_take 7 = .ok (.putfield 64, 3) := by decide +kernel
theorem dX1_take_10 : decode cX1_take 10 = .ok (.aload_n 3, 1) := by decide +kernel
theorem dX1_take_11 : decode cX1_take 11 = .ok (.getfield 67, 3) := by decide +kernel
theorem dX1_take_14 : decode cX1_take 14 = .ok (.invokevirtual 71, 3) := by decide +kernel
theorem dX1_take_17 : decode cX1_take 17 = .ok (.aload_n 0, 1) := by decide +kernel
theorem dX1_take_18 : decode cX1_take 18 = .ok (.aload_n 1, 1) := by decide +kernel
theorem dX1_take_19 : decode cX1_take 19 = .ok (.invokevirtual 76, 3) := by decide +kernel
theorem dX1_take_22 : decode cX1_take 22 = .ok (.aload_n 0, 1) := by decide +kernel
theorem dX1_take_23 : decode cX1_take 23 = .ok (.invokevirtual 79, 3) := by decide +kernel
theorem dX1_take_26 : decode cX1_take 26 = .ok (.ifCond .ne 5, 3) := by decide +kernel
theorem dX1_take_29 : decode cX1_take 29 = .ok (.iconst 5, 1) := by decide +kernel
theorem dX1_take_30 : decode cX1_take 30 = .ok (.ireturn, 1) := by decide +kernel
theorem dX1_take_31 : decode cX1_take 31 = .ok (.aload_n 0, 1) := by decide +kernel
theorem dX1_take_32 : decode cX1_take 32 = .ok (.aload_n 3, 1) := by decide +kernel
theorem dX1_take_33 : decode cX1_take 33 = .ok (.invokevirtual 82, 3) := by decide +kernel
theorem dX1_take_36 : decode cX1_take 36 = .ok (.aload_n 3, 1) := by decide +kernel
theorem dX1_take_37 : decode cX1_take 37 = .ok (.invokevirtual 40, 3) := by decide +kernel
theorem dX1_take_40 : decode cX1_take 40 = .ok (.ifCond .ne 6, 3) := by decide +kernel
theorem dX1_take_43 : decode cX1_take 43 = .ok (.bipush 9, 2) := by decide +kernel
theorem dX1_take_45 : decode cX1_take 45 = .ok (.ireturn, 1) := by decide +kernel
theorem dX1_take_46 : decode cX1_take 46 = .ok (.aload_n 0, 1) := by decide +kernel
theorem dX1_take_47 : decode cX1_take 47 = .ok (.getfield 23, 3) := by decide +kernel
theorem dX1_take_50 : decode cX1_take 50 = .ok (.invokevirtual 85, 3) := by decide +kernel
theorem dX1_take_53 : decode cX1_take 53 = .ok (.aload_n 3, 1) := by decide +kernel
theorem dX1_take_54 : decode cX1_take 54 = .ok (.getfield 50, 3) := by decide +kernel
theorem dX1_take_57 : decode cX1_take 57 = .ok (.iconst 3, 1) := by decide +kernel
theorem dX1_take_58 : decode cX1_take 58 = .ok (.if_icmp .ne 12, 3) := by decide +kernel
theorem dX1_take_61 : decode cX1_take 61 = .ok (.aload_n 0, 1) := by decide +kernel
theorem dX1_take_62 : decode cX1_take 62 = .ok (.aload_n 1, 1) := by decide +kernel
theorem dX1_take_63 : decode cX1_take 63 = .ok (.aload_n 3, 1) := by decide +kernel
theorem dX1_take_64 : decode cX1_take 64 = .ok (.invokevirtual 86, 3) := by decide +kernel
theorem dX1_take_67 : decode cX1_take 67 = .ok (.goto 8, 3) := by decide +kernel
theorem dX1_take_70 : decode cX1_take 70 = .ok (.aload_n 0, 1) := by decide +kernel
theorem dX1_take_71 : decode cX1_take 71 = .ok (.aload_n 1, 1) := by decide +kernel
theorem dX1_take_72 : decode cX1_take 72 = .ok (.invokevirtual 90, 3) := by decide +kernel
theorem dX1_take_75 : decode cX1_take 75 = .ok (.istore 4, 2) := by decide +kernel
theorem dX1_take_77 : decode cX1_take 77 = .ok (.aload_n 0, 1) := by decide +kernel
theorem dX1_take_78 : decode cX1_take 78 = .ok (.getfield 23, 3) := by decide +kernel
theorem dX1_take_81 : decode cX1_take 81 = .ok (.aload_n 0, 1) := by decide +kernel
theorem dX1_take_82 : decode cX1_take 82 = .ok (.getfield 14, 3) := by decide +kernel
theorem dX1_take_85 : decode cX1_take 85 = .ok (.bipush 18, 2) := by decide +kernel
theorem dX1_take_87 : decode cX1_take 87 = .ok (.invokevirtual 94, 3) := by decide +kernel
theorem dX1_take_90 : decode cX1_take 90 = .ok (.iload 4, 2) := by decide +kernel
theorem dX1_take_92 : decode cX1_take 92 = .ok (.ifCond .eq 16, 3) := by decide +kernel
theorem dX1_take_95 : decode cX1_take 95 = .ok (.aload_n 0, 1) := by decide +kernel
theorem dX1_take_96 : decode cX1_take 96 = .ok (.aload_n 3, 1) := by decide +kernel
theorem dX1_take_97 : decode cX1_take 97 = .ok (.invokevirtual 98, 3) := by decide +kernel
theorem dX1_take_100 : decode cX1_take 100 = .ok (.ifCond .eq 8, 3) := by decide +kernel
theorem dX1_take_103 : decode cX1_take 103 = .ok (.bipush 6, 2) := by decide +kernel
theorem dX1_take_105 : decode cX1_take 105 = .ok (.goto 5, 3) := by decide +kernel
theorem dX1_take_108 : decode cX1_take 108 = .ok (.bipush 7, 2) := by decide +kernel
theorem dX1_take_110 : decode cX1_take 110 = .ok (.ireturn, 1) := by decide +kernel
theorem dX1_makeWhite_0 : decode cX1_makeWhite 0 = .ok (.aload_n 0, 1) := by decide +kernel
theorem dX1_makeWhite_1 : decode cX1_makeWhite 1 = .ok (.getfield 14, 3) := by decide +kernel
theorem dX1_makeWhite_4 : decode cX1_makeWhite 4 = .ok (.invokevirtual 85, 3) := by decide +kernel
theorem dX1_makeWhite_7 : decode cX1_makeWhite 7 = .ok (.aload_n 0, 1) := by decide +kernel
theorem dX1_makeWhite_8 : decode cX1_makeWhite 8 = .ok (.getfield 14, 3) := by decide +kernel
theorem dX1_makeWhite_11 : decode cX1_makeWhite 11 = .ok (.bipush 64, 2) := by decide +kernel
theorem dX1_makeWhite_13 : decode cX1_makeWhite 13 = .ok (.iload_n 1, 1) := by decide +kernel
theorem dX1_makeWhite_14 : decode cX1_makeWhite 14 = .ok (.bipush 64, 2) := by decide +kernel
theorem dX1_makeWhite_16 : decode cX1_makeWhite 16 = .ok (.irem, 1) := by decide +kernel
theorem dX1_makeWhite_17 : decode cX1_makeWhite 17 = .ok (.iadd, 1) := by decide +kernel
theorem dX1_makeWhite_18 : decode cX1_makeWhite 18 = .ok (.bipush 7, 2) := by decide +kernel
theorem dX1_makeWhite_20 : decode cX1_makeWhite 20 = .ok (.invokevirtual 102, 3) := by decide +kernel
theorem dX1_makeWhite_23 : decode cX1_makeWhite 23 = .ok (.bipush 7, 2) := by decide +kernel
theorem dX1_makeWhite_25 : decode cX1_makeWhite 25 = .ok (.istore_n 2, 1) := by decide +kernel
theorem dX1_makeWhite_26 : decode cX1_makeWhite 26 = .ok (.iload_n 2, 1) := by decide +kernel
theorem dX1_makeWhite_27 : decode cX1_makeWhite 27 = .ok (.sipush 168, 3) := by decide +kernel
theorem dX1_makeWhite_30 : decode cX1_makeWhite 30 = .ok (.if_icmp .ge 38, 3) := by decide +kernel
theorem dX1_makeWhite_33 : decode cX1_makeWhite 33 = .ok (.aload_n 0, 1) := by decide +kernel
theorem dX1_makeWhite_34 : decode cX1_makeWhite 34 = .ok (.getfield 14, 3) := by decide +kernel
theorem dX1_makeWhite_37 : decode cX1_makeWhite 37 = .ok (.aload_n 0, 1) := by decide +kernel
theorem dX1_makeWhite_38 : decode cX1_makeWhite 38 = .ok (.getfield 14, 3) := by decide +kernel
theorem dX1_makeWhite_41 : decode cX1_makeWhite 41 = .ok (.iload_n 2, 1) := by decide +kernel
theorem dX1_makeWhite_42 : decode cX1_makeWhite 42 = .ok (.bipush 7, 2) := by decide +kernel
theorem dX1_makeWhite_44 : decode cX1_makeWhite 44 = .ok (.isub, 1) := by decide +kernel
theorem dX1_makeWhite_45 : decode cX1_makeWhite 45 = .ok (.invokevirtual 106, 3) := by decide +kernel
theorem dX1_makeWhite_48 : decode cX1_makeWhite 48 = .ok (.aload_n 0, 1) := by decide +kernel
theorem dX1_makeWhite_49 : decode cX1_makeWhite 49 = .ok (.getfield 14, 3) := by decide +kernel
theorem dX1_makeWhite_52 : decode cX1_makeWhite 52 = .ok (.iload_n 2, 1) := by decide +kernel
theorem dX1_makeWhite_53 : decode cX1_makeWhite 53 = .ok (.iconst 3, 1) := by decide +kernel
theorem dX1_makeWhite_54 : decode cX1_makeWhite 54 = .ok (.isub, 1) := by decide +kernel
theorem dX1_makeWhite_55 : decode cX1_makeWhite 55 = .ok (.invokevirtual 106, 3) := by decide +kernel
theorem dX1_makeWhite_58 : decode cX1_makeWhite 58 = .ok (.ixor, 1) := by decide +kernel
theorem dX1_makeWhite_59 : decode cX1_makeWhite 59 = .ok (.invokevirtual 110, 3) := by decide +kernel
theorem dX1_makeWhite_62 : decode cX1_makeWhite 62 = .ok (.iinc 2 1, 3) := by decide +kernel
theorem dX1_makeWhite_65 : decode cX1_makeWhite 65 = .ok (.goto (-39), 3) := by decide +kernel
theorem dX1_makeWhite_68 : decode cX1_makeWhite 68 = .ok (.return_, 1) := by decide +kernel
theorem dX1_putHead_0 : decode cX1_putHead 0 = .ok (.aload_n 0, 1) := by decide +kernel
theorem dX1_putHead_1 : decode cX1_putHead 1 = .ok (.getfield 20, 3) := by decide +kernel
theorem dX1_putHead_4 : decode cX1_putHead 4 = .ok (.invokevirtual 85, 3) := by decide +kernel
theorem dX1_putHead_7 : decode cX1_putHead 7 = .ok (.aload_n 0, 1) := by decide +kernel
theorem dX1_putHead_8 : decode cX1_putHead 8 = .ok (.getfield 20, 3) := by decide +kernel
theorem dX1_putHead_11 : decode cX1_putHead 11 = .ok (.aload_n 0, 1) := by decide +kernel
theorem dX1_putHead_12 : decode cX1_putHead 12 = .ok (.getfield 29, 3) := by decide +kernel
theorem dX1_putHead_15 : decode cX1_putHead 15 = .ok (.iconst 3, 1) := by decide +kernel
theorem dX1_putHead_16 : decode cX1_putHead 16 = .ok (.invokevirtual 102, 3) := by decide +kernel
theorem dX1_putHead_19 : decode cX1_putHead 19 = .ok (.aload_n 0, 1) := by decide +kernel
theorem dX1_putHead_20 : decode cX1_putHead 20 = .ok (.getfield 20, 3) := by decide +kernel
theorem dX1_putHead_23 : decode cX1_putHead 23 = .ok (.aload_n 1, 1) := by decide +kernel
theorem dX1_putHead_24 : decode cX1_putHead 24 = .ok (.getfield 50, 3) := by decide +kernel
theorem dX1_putHead_27 : decode cX1_putHead 27 = .ok (.iconst 4, 1) := by decide +kernel
theorem dX1_putHead_28 : decode cX1_putHead 28 = .ok (.invokevirtual 102, 3) := by decide +kernel
theorem dX1_putHead_31 : decode cX1_putHead 31 = .ok (.aload_n 0, 1) := by decide +kernel
theorem dX1_putHead_32 : decode cX1_putHead 32 = .ok (.getfield 20, 3) := by decide +kernel
theorem dX1_putHead_35 : decode cX1_putHead 35 = .ok (.iconst 1, 1) := by decide +kernel
theorem dX1_putHead_36 : decode cX1_putHead 36 = .ok (.invokevirtual 110, 3) := by decide +kernel
theorem dX1_putHead_39 : decode cX1_putHead 39 = .ok (.aload_n 0, 1) := by decide +kernel
theorem dX1_putHead_40 : decode cX1_putHead 40 = .ok (.getfield 20, 3) := by decide +kernel
theorem dX1_putHead_43 : decode cX1_putHead 43 = .ok (.aload_n 1, 1) := by decide +kernel
theorem dX1_putHead_44 : decode cX1_putHead 44 = .ok (.getfield 113, 3) := by decide +kernel
theorem dX1_putHead_47 : decode cX1_putHead 47 = .ok (.invokevirtual 110, 3) := by decide +kernel
theorem dX1_putHead_50 : decode cX1_putHead 50 = .ok (.aload_n 0, 1) := by decide +kernel
theorem dX1_putHead_51 : decode cX1_putHead 51 = .ok (.getfield 20, 3) := by decide +kernel
theorem dX1_putHead_54 : decode cX1_putHead 54 = .ok (.aload_n 1, 1) := by decide +kernel
theorem dX1_putHead_55 : decode cX1_putHead 55 = .ok (.getfield 116, 3) := by decide +kernel
theorem dX1_putHead_58 : decode cX1_putHead 58 = .ok (.invokevirtual 110, 3) := by decide +kernel
theorem dX1_putHead_61 : decode cX1_putHead 61 = .ok (.aload_n 0, 1) := by decide +kernel
theorem dX1_putHead_62 : decode cX1_putHead 62 = .ok (.getfield 20, 3) := by decide +kernel
theorem dX1_putHead_65 : decode cX1_putHead 65 = .ok (.aload_n 0, 1) := by decide +kernel
theorem dX1_putHead_66 : decode cX1_putHead 66 = .ok (.getfield 20, 3) := by decide +kernel
theorem dX1_putHead_69 : decode cX1_putHead 69 = .ok (.bipush 10, 2) := by decide +kernel
theorem dX1_putHead_71 : decode cX1_putHead 71 = .ok (.sipush 423, 3) := by decide +kernel
theorem dX1_putHead_74 : decode cX1_putHead 74 = .ok (.bipush 8, 2) := by decide +kernel
theorem dX1_putHead_76 : decode cX1_putHead 76 = .ok (.invokevirtual 119, 3) := by decide +kernel
theorem dX1_putHead_79 : decode cX1_putHead 79 = .ok (.bipush 8, 2) := by decide +kernel
theorem dX1_putHead_81 : decode cX1_putHead 81 = .ok (.invokevirtual 123, 3) := by decide +kernel
theorem dX1_putHead_84 : decode cX1_putHead 84 = .ok (.aload_n 0, 1) := by decide +kernel
theorem dX1_putHead_85 : decode cX1_putHead 85 = .ok (.getfield 20, 3) := by decide +kernel
theorem dX1_putHead_88 : decode cX1_putHead 88 = .ok (.aload_n 0, 1) := by decide +kernel
theorem dX1_putHead_89 : decode cX1_putHead 89 = .ok (.getfield 14, 3) := by decide +kernel
theorem dX1_putHead_92 : decode cX1_putHead 92 = .ok (.iconst 0, 1) := by decide +kernel
theorem dX1_putHead_93 : decode cX1_putHead 93 = .ok (.invokevirtual 94, 3) := by decide +kernel
theorem dX1_putHead_96 : decode cX1_putHead 96 = .ok (.iconst 0, 1) := by decide +kernel
theorem dX1_putHead_97 : decode cX1_putHead 97 = .ok (.istore_n 3, 1) := by decide +kernel
theorem dX1_putHead_98 : decode cX1_putHead 98 = .ok (.iload_n 3, 1) := by decide +kernel
theorem dX1_putHead_99 : decode cX1_putHead 99 = .ok (.bipush 54, 2) := by decide +kernel
theorem dX1_putHead_101 : decode cX1_putHead 101 = .ok (.if_icmp .ge 23, 3) := by decide +kernel
theorem dX1_putHead_104 : decode cX1_putHead 104 = .ok (.aload_n 2, 1) := by decide +kernel
theorem dX1_putHead_105 : decode cX1_putHead 105 = .ok (.aload_n 0, 1) := by decide +kernel
theorem dX1_putHead_106 : decode cX1_putHead 106 = .ok (.getfield 20, 3) := by decide +kernel
theorem dX1_putHead_109 : decode cX1_putHead 109 = .ok (.iload_n 3, 1) := by decide +kernel
theorem dX1_putHead_110 : decode cX1_putHead 110 = .ok (.iconst 3, 1) := by decide +kernel
theorem dX1_putHead_111 : decode cX1_putHead 111 = .ok (.idiv, 1) := by decide +kernel
theorem dX1_putHead_112 : decode cX1_putHead 112 = .ok (.invokevirtual 106, 3) := by decide +kernel
theorem dX1_putHead_115 : decode cX1_putHead 115 = .ok (.invokevirtual 110, 3) := by decide +kernel
theorem dX1_putHead_118 : decode cX1_putHead 118 = .ok (.iinc 3 1, 3) := by decide +kernel
theorem dX1_putHead_121 : decode cX1_putHead 121 = .ok (.goto (-23), 3) := by decide +kernel
theorem dX1_putHead_124 : decode cX1_putHead 124 = .ok (.return_, 1) := by decide +kernel
theorem dX1_makeLoad_0 : decode cX1_makeLoad 0 = .ok (.aload_n 0, 1) := by decide +kernel
theorem dX1_makeLoad_1 : decode cX1_makeLoad 1 = .ok (.getfield 23, 3) := by decide +kernel
theorem dX1_makeLoad_4 : decode cX1_makeLoad 4 = .ok (.invokevirtual 85, 3) := by decide +kernel
theorem dX1_makeLoad_7 : decode cX1_makeLoad 7 = .ok (.aload_n 0, 1) := by decide +kernel
theorem dX1_makeLoad_8 : decode cX1_makeLoad 8 = .ok (.getfield 23, 3) := by decide +kernel
theorem dX1_makeLoad_11 : decode cX1_makeLoad 11 = .ok (.iconst 4, 1) := by decide +kernel
theorem dX1_makeLoad_12 : decode cX1_makeLoad 12 = .ok (.aload_n 1, 1) := by decide +kernel
theorem dX1_makeLoad_13 : decode cX1_makeLoad 13 = .ok (.getfield 67, 3) := by decide +kernel
theorem dX1_makeLoad_16 : decode cX1_makeLoad 16 = .ok (.getfield 126, 3) := by decide +kernel
theorem dX1_makeLoad_19 : decode cX1_makeLoad 19 = .ok (.imul, 1) := by decide +kernel
theorem dX1_makeLoad_20 : decode cX1_makeLoad 20 = .ok (.aload_n 1, 1) := by decide +kernel
theorem dX1_makeLoad_21 : decode cX1_makeLoad 21 = .ok (.getfield 129, 3) := by decide +kernel
theorem dX1_makeLoad_24 : decode cX1_makeLoad 24 = .ok (.ifCond .eq 7, 3) := by decide +kernel
theorem dX1_makeLoad_27 : decode cX1_makeLoad 27 = .ok (.iconst 2, 1) := by decide +kernel
theorem dX1_makeLoad_28 : decode cX1_makeLoad 28 = .ok (.goto 4, 3) := by decide +kernel
theorem dX1_makeLoad_31 : decode cX1_makeLoad 31 = .ok (.iconst 1, 1) := by decide +kernel
theorem dX1_makeLoad_32 : decode cX1_makeLoad 32 = .ok (.iadd, 1) := by decide +kernel
theorem dX1_makeLoad_33 : decode cX1_makeLoad 33 = .ok (.bipush 8, 2) := by decide +kernel
theorem dX1_makeLoad_35 : decode cX1_makeLoad 35 = .ok (.invokevirtual 102, 3) := by decide +kernel
theorem dX1_makeLoad_38 : decode cX1_makeLoad 38 = .ok (.iconst 0, 1) := by decide +kernel
theorem dX1_makeLoad_39 : decode cX1_makeLoad 39 = .ok (.istore_n 2, 1) := by decide +kernel
theorem dX1_makeLoad_40 : decode cX1_makeLoad 40 = .ok (.iload_n 2, 1) := by decide +kernel
theorem dX1_makeLoad_41 : decode cX1_makeLoad 41 = .ok (.aload_n 1, 1) := by decide +kernel
theorem dX1_makeLoad_42 : decode cX1_makeLoad 42 = .ok (.getfield 67, 3) := by decide +kernel
theorem dX1_makeLoad_45 : decode cX1_makeLoad 45 = .ok (.getfield 126, 3) := by decide +kernel
theorem dX1_makeLoad_48 : decode cX1_makeLoad 48 = .ok (.if_icmp .ge 26, 3) := by decide +kernel
theorem dX1_makeLoad_51 : decode cX1_makeLoad 51 = .ok (.aload_n 0, 1) := by decide +kernel
theorem dX1_makeLoad_52 : decode cX1_makeLoad 52 = .ok (.getfield 23, 3) := by decide +kernel
theorem dX1_makeLoad_55 : decode cX1_makeLoad 55 = .ok (.aload_n 1, 1) := by decide +kernel
theorem dX1_makeLoad_56 : decode cX1_makeLoad 56 = .ok (.getfield 67, 3) := by decide +kernel
theorem dX1_makeLoad_59 : decode cX1_makeLoad 59 = .ok (.iload_n 2, 1) := by decide +kernel
theorem dX1_makeLoad_60 : decode cX1_makeLoad 60 = .ok (.invokevirtual 133, 3) := by decide +kernel
theorem dX1_makeLoad_63 : decode cX1_makeLoad 63 = .ok (.bipush 8, 2) := by decide +kernel
theorem dX1_makeLoad_65 : decode cX1_makeLoad 65 = .ok (.invokevirtual 102, 3) := by decide +kernel
theorem dX1_makeLoad_68 : decode cX1_makeLoad 68 = .ok (.iinc 2 1, 3) := by decide +kernel
theorem dX1_makeLoad_71 : decode cX1_makeLoad 71 = .ok (.goto (-31), 3) := by decide +kernel
theorem dX1_makeLoad_74 : decode cX1_makeLoad 74 = .ok (.aload_n 0, 1) := by decide +kernel
theorem dX1_makeLoad_75 : decode cX1_makeLoad 75 = .ok (.getfield 23, 3) := by decide +kernel
theorem dX1_makeLoad_78 : decode cX1_makeLoad 78 = .ok (.aload_n 0, 1) := by decide +kernel
theorem dX1_makeLoad_79 : decode cX1_makeLoad 79 = .ok (.getfield 23, 3) := by decide +kernel
theorem dX1_makeLoad_82 : decode cX1_makeLoad 82 = .ok (.aload_n 0, 1) := by decide +kernel
theorem dX1_makeLoad_83 : decode cX1_makeLoad 83 = .ok (.getfield 23, 3) := by decide +kernel
theorem dX1_makeLoad_86 : decode cX1_makeLoad 86 = .ok (.getfield 57, 3) := by decide +kernel
theorem dX1_makeLoad_89 : decode cX1_makeLoad 89 = .ok (.ldc 134, 2) := by decide +kernel
theorem dX1_makeLoad_91 : decode cX1_makeLoad 91 = .ok (.bipush 16, 2) := by decide +kernel
theorem dX1_makeLoad_93 : decode cX1_makeLoad 93 = .ok (.invokevirtual 119, 3) := by decide +kernel
theorem dX1_makeLoad_96 : decode cX1_makeLoad 96 = .ok (.bipush 16, 2) := by decide +kernel
theorem dX1_makeLoad_98 : decode cX1_makeLoad 98 = .ok (.invokevirtual 123, 3) := by decide +kernel
theorem dX1_makeLoad_101 : decode cX1_makeLoad 101 = .ok (.aload_n 0, 1) := by decide +kernel
theorem dX1_makeLoad_102 : decode cX1_makeLoad 102 = .ok (.getfield 23, 3) := by decide +kernel
theorem dX1_makeLoad_105 : decode cX1_makeLoad 105 = .ok (.aload_n 0, 1) := by decide +kernel
theorem dX1_makeLoad_106 : decode cX1_makeLoad 106 = .ok (.getfield 14, 3) := by decide +kernel
theorem dX1_makeLoad_109 : decode cX1_makeLoad 109 = .ok (.bipush 18, 2) := by decide +kernel
theorem dX1_makeLoad_111 : decode cX1_makeLoad 111 = .ok (.invokevirtual 94, 3) := by decide +kernel
theorem dX1_makeLoad_114 : decode cX1_makeLoad 114 = .ok (.return_, 1) := by decide +kernel
theorem dX1_putTens_0 : decode cX1_putTens 0 = .ok (.iconst 0, 1) := by decide +kernel
theorem dX1_putTens_1 : decode cX1_putTens 1 = .ok (.istore_n 2, 1) := by decide +kernel
theorem dX1_putTens_2 : decode cX1_putTens 2 = .ok (.iload_n 2, 1) := by decide +kernel
theorem dX1_putTens_3 : decode cX1_putTens 3 = .ok (.aload_n 0, 1) := by decide +kernel
theorem dX1_putTens_4 : decode cX1_putTens 4 = .ok (.getfield 23, 3) := by decide +kernel
theorem dX1_putTens_7 : decode cX1_putTens 7 = .ok (.getfield 57, 3) := by decide +kernel
theorem dX1_putTens_10 : decode cX1_putTens 10 = .ok (.if_icmp .ge 61, 3) := by decide +kernel
theorem dX1_putTens_13 : decode cX1_putTens 13 = .ok (.aload_n 0, 1) := by decide +kernel
theorem dX1_putTens_14 : decode cX1_putTens 14 = .ok (.getfield 26, 3) := by decide +kernel
theorem dX1_putTens_17 : decode cX1_putTens 17 = .ok (.invokevirtual 85, 3) := by decide +kernel
theorem dX1_putTens_20 : decode cX1_putTens 20 = .ok (.aload_n 0, 1) := by decide +kernel
theorem dX1_putTens_21 : decode cX1_putTens 21 = .ok (.getfield 26, 3) := by decide +kernel
theorem dX1_putTens_24 : decode cX1_putTens 24 = .ok (.aload_n 0, 1) := by decide +kernel
theorem dX1_putTens_25 : decode cX1_putTens 25 = .ok (.getfield 23, 3) := by decide +kernel
theorem dX1_putTens_28 : decode cX1_putTens 28 = .ok (.iload_n 2, 1) := by decide +kernel
theorem dX1_putTens_29 : decode cX1_putTens 29 = .ok (.bipush 10, 2) := by decide +kernel
theorem dX1_putTens_31 : decode cX1_putTens 31 = .ok (.invokevirtual 60, 3) := by decide +kernel
theorem dX1_putTens_34 : decode cX1_putTens 34 = .ok (.aload_n 0, 1) := by decide +kernel
theorem dX1_putTens_35 : decode cX1_putTens 35 = .ok (.getfield 26, 3) := by decide +kernel
theorem dX1_putTens_38 : decode cX1_putTens 38 = .ok (.aload_n 0, 1) := by decide +kernel
theorem dX1_putTens_39 : decode cX1_putTens 39 = .ok (.getfield 26, 3) := by decide +kernel
theorem dX1_putTens_42 : decode cX1_putTens 42 = .ok (.bipush 10, 2) := by decide +kernel
theorem dX1_putTens_44 : decode cX1_putTens 44 = .ok (.bipush 53, 2) := by decide +kernel
theorem dX1_putTens_46 : decode cX1_putTens 46 = .ok (.iconst 5, 1) := by decide +kernel
theorem dX1_putTens_47 : decode cX1_putTens 47 = .ok (.invokevirtual 119, 3) := by decide +kernel
theorem dX1_putTens_50 : decode cX1_putTens 50 = .ok (.iconst 5, 1) := by decide +kernel
theorem dX1_putTens_51 : decode cX1_putTens 51 = .ok (.invokevirtual 123, 3) := by decide +kernel
theorem dX1_putTens_54 : decode cX1_putTens 54 = .ok (.aload_n 1, 1) := by decide +kernel
theorem dX1_putTens_55 : decode cX1_putTens 55 = .ok (.aload_n 0, 1) := by decide +kernel
theorem dX1_putTens_56 : decode cX1_putTens 56 = .ok (.getfield 26, 3) := by decide +kernel
theorem dX1_putTens_59 : decode cX1_putTens 59 = .ok (.iconst 0, 1) := by decide +kernel
theorem dX1_putTens_60 : decode cX1_putTens 60 = .ok (.bipush 15, 2) := by decide +kernel
theorem dX1_putTens_62 : decode cX1_putTens 62 = .ok (.invokevirtual 60, 3) := by decide +kernel
theorem dX1_putTens_65 : decode cX1_putTens 65 = .ok (.iinc 2 10, 3) := by decide +kernel
theorem dX1_putTens_68 : decode cX1_putTens 68 = .ok (.goto (-66), 3) := by decide +kernel
theorem dX1_putTens_71 : decode cX1_putTens 71 = .ok (.return_, 1) := by decide +kernel
theorem dX1_takeHead_0 : decode cX1_takeHead 0 = .ok (.aload_n 0, 1) := by decide +kernel
theorem dX1_takeHead_1 : decode cX1_takeHead 1 = .ok (.getfield 20, 3) := by decide +kernel
theorem dX1_takeHead_4 : decode cX1_takeHead 4 = .ok (.invokevirtual 85, 3) := by decide +kernel
theorem dX1_takeHead_7 : decode cX1_takeHead 7 = .ok (.iconst 0, 1) := by decide +kernel
theorem dX1_takeHead_8 : decode cX1_takeHead 8 = .ok (.istore_n 2, 1) := by decide +kernel
theorem dX1_takeHead_9 : decode cX1_takeHead 9 = .ok (.iload_n 2, 1) := by decide +kernel
theorem dX1_takeHead_10 : decode cX1_takeHead 10 = .ok (.bipush 18, 2) := by decide +kernel
theorem dX1_takeHead_12 : decode cX1_takeHead 12 = .ok (.if_icmp .ge 54, 3) := by decide +kernel
theorem dX1_takeHead_15 : decode cX1_takeHead 15 = .ok (.iconst 3, 1) := by decide +kernel
theorem dX1_takeHead_16 : decode cX1_takeHead 16 = .ok (.iload_n 2, 1) := by decide +kernel
theorem dX1_takeHead_17 : decode cX1_takeHead 17 = .ok (.imul, 1) := by decide +kernel
theorem dX1_takeHead_18 : decode cX1_takeHead 18 = .ok (.istore_n 3, 1) := by decide +kernel
theorem dX1_takeHead_19 : decode cX1_takeHead 19 = .ok (.aload_n 1, 1) := by decide +kernel
theorem dX1_takeHead_20 : decode cX1_takeHead 20 = .ok (.iload_n 3, 1) := by decide +kernel
theorem dX1_takeHead_21 : decode cX1_takeHead 21 = .ok (.invokevirtual 106, 3) := by decide +kernel
theorem dX1_takeHead_24 : decode cX1_takeHead 24 = .ok (.aload_n 1, 1) := by decide +kernel
theorem dX1_takeHead_25 : decode cX1_takeHead 25 = .ok (.iload_n 3, 1) := by decide +kernel
theorem dX1_takeHead_26 : decode cX1_takeHead 26 = .ok (.iconst 1, 1) := by decide +kernel
theorem dX1_takeHead_27 : decode cX1_takeHead 27 = .ok (.iadd, 1) := by decide +kernel
theorem dX1_takeHead_28 : decode cX1_takeHead 28 = .ok (.invokevirtual 106, 3) := by decide +kernel
theorem dX1_takeHead_31 : decode cX1_takeHead 31 = .ok (.iadd, 1) := by decide +kernel
theorem dX1_takeHead_32 : decode cX1_takeHead 32 = .ok (.aload_n 1, 1) := by decide +kernel
theorem dX1_takeHead_33 : decode cX1_takeHead 33 = .ok (.iload_n 3, 1) := by decide +kernel
theorem dX1_takeHead_34 : decode cX1_takeHead 34 = .ok (.iconst 2, 1) := by decide +kernel
theorem dX1_takeHead_35 : decode cX1_takeHead 35 = .ok (.iadd, 1) := by decide +kernel
theorem dX1_takeHead_36 : decode cX1_takeHead 36 = .ok (.invokevirtual 106, 3) := by decide +kernel
theorem dX1_takeHead_39 : decode cX1_takeHead 39 = .ok (.iadd, 1) := by decide +kernel
theorem dX1_takeHead_40 : decode cX1_takeHead 40 = .ok (.istore 4, 2) := by decide +kernel
theorem dX1_takeHead_42 : decode cX1_takeHead 42 = .ok (.aload_n 0, 1) := by decide +kernel
theorem dX1_takeHead_43 : decode cX1_takeHead 43 = .ok (.getfield 20, 3) := by decide +kernel
theorem dX1_takeHead_46 : decode cX1_takeHead 46 = .ok (.iload 4, 2) := by decide +kernel
theorem dX1_takeHead_48 : decode cX1_takeHead 48 = .ok (.iconst 2, 1) := by decide +kernel
theorem dX1_takeHead_49 : decode cX1_takeHead 49 = .ok (.if_icmp .lt 7, 3) := by decide +kernel
theorem dX1_takeHead_52 : decode cX1_takeHead 52 = .ok (.iconst 1, 1) := by decide +kernel
theorem dX1_takeHead_53 : decode cX1_takeHead 53 = .ok (.goto 4, 3) := by decide +kernel
theorem dX1_takeHead_56 : decode cX1_takeHead 56 = .ok (.iconst 0, 1) := by decide +kernel
theorem dX1_takeHead_57 : decode cX1_takeHead 57 = .ok (.invokevirtual 110, 3) := by decide +kernel
theorem dX1_takeHead_60 : decode cX1_takeHead 60 = .ok (.iinc 2 1, 3) := by decide +kernel
theorem dX1_takeHead_63 : decode cX1_takeHead 63 = .ok (.goto (-54), 3) := by decide +kernel
theorem dX1_takeHead_66 : decode cX1_takeHead 66 = .ok (.aload_n 0, 1) := by decide +kernel
theorem dX1_takeHead_67 : decode cX1_takeHead 67 = .ok (.getfield 20, 3) := by decide +kernel
theorem dX1_takeHead_70 : decode cX1_takeHead 70 = .ok (.aload_n 0, 1) := by decide +kernel
theorem dX1_takeHead_71 : decode cX1_takeHead 71 = .ok (.getfield 14, 3) := by decide +kernel
theorem dX1_takeHead_74 : decode cX1_takeHead 74 = .ok (.iconst 0, 1) := by decide +kernel
theorem dX1_takeHead_75 : decode cX1_takeHead 75 = .ok (.invokevirtual 94, 3) := by decide +kernel
theorem dX1_takeHead_78 : decode cX1_takeHead 78 = .ok (.return_, 1) := by decide +kernel
theorem dX1_headIsSound_0 : decode cX1_headIsSound 0 = .ok (.aload_n 0, 1) := by decide +kernel
theorem dX1_headIsSound_1 : decode cX1_headIsSound 1 = .ok (.getfield 20, 3) := by decide +kernel
theorem dX1_headIsSound_4 : decode cX1_headIsSound 4 = .ok (.iconst 3, 1) := by decide +kernel
theorem dX1_headIsSound_5 : decode cX1_headIsSound 5 = .ok (.iconst 4, 1) := by decide +kernel
theorem dX1_headIsSound_6 : decode cX1_headIsSound 6 = .ok (.invokevirtual 135, 3) := by decide +kernel
theorem dX1_headIsSound_9 : decode cX1_headIsSound 9 = .ok (.istore_n 1, 1) := by decide +kernel
theorem dX1_headIsSound_10 : decode cX1_headIsSound 10 = .ok (.aload_n 0, 1) := by decide +kernel
theorem dX1_headIsSound_11 : decode cX1_headIsSound 11 = .ok (.getfield 20, 3) := by decide +kernel
theorem dX1_headIsSound_14 : decode cX1_headIsSound 14 = .ok (.bipush 10, 2) := by decide +kernel
theorem dX1_headIsSound_16 : decode cX1_headIsSound 16 = .ok (.sipush 423, 3) := by decide +kernel
theorem dX1_headIsSound_19 : decode cX1_headIsSound 19 = .ok (.bipush 8, 2) := by decide +kernel
theorem dX1_headIsSound_21 : decode cX1_headIsSound 21 = .ok (.invokevirtual 139, 3) := by decide +kernel
theorem dX1_headIsSound_24 : decode cX1_headIsSound 24 = .ok (.ifCond .eq 46, 3) := by decide +kernel
theorem dX1_headIsSound_27 : decode cX1_headIsSound 27 = .ok (.aload_n 0, 1) := by decide +kernel
theorem dX1_headIsSound_28 : decode cX1_headIsSound 28 = .ok (.getfield 20, 3) := by decide +kernel
theorem dX1_headIsSound_31 : decode cX1_headIsSound 31 = .ok (.iconst 0, 1) := by decide +kernel
theorem dX1_headIsSound_32 : decode cX1_headIsSound 32 = .ok (.iconst 3, 1) := by decide +kernel
theorem dX1_headIsSound_33 : decode cX1_headIsSound 33 = .ok (.invokevirtual 135, 3) := by decide +kernel
theorem dX1_headIsSound_36 : decode cX1_headIsSound 36 = .ok (.aload_n 0, 1) := by decide +kernel
theorem dX1_headIsSound_37 : decode cX1_headIsSound 37 = .ok (.getfield 29, 3) := by decide +kernel
theorem dX1_headIsSound_40 : decode cX1_headIsSound 40 = .ok (.if_icmp .ne 30, 3) := by decide +kernel
theorem dX1_headIsSound_43 : decode cX1_headIsSound 43 = .ok (.aload_n 0, 1) := by decide +kernel
theorem dX1_headIsSound_44 : decode cX1_headIsSound 44 = .ok (.getfield 20, 3) := by decide +kernel
theorem dX1_headIsSound_47 : decode cX1_headIsSound 47 = .ok (.bipush 7, 2) := by decide +kernel
theorem dX1_headIsSound_49 : decode cX1_headIsSound 49 = .ok (.invokevirtual 106, 3) := by decide +kernel
theorem dX1_headIsSound_52 : decode cX1_headIsSound 52 = .ok (.iconst 1, 1) := by decide +kernel
theorem dX1_headIsSound_53 : decode cX1_headIsSound 53 = .ok (.if_icmp .ne 17, 3) := by decide +kernel
theorem dX1_headIsSound_56 : decode cX1_headIsSound 56 = .ok (.iload_n 1, 1) := by decide +kernel
theorem dX1_headIsSound_57 : decode cX1_headIsSound 57 = .ok (.iconst 1, 1) := by decide +kernel
theorem dX1_headIsSound_58 : decode cX1_headIsSound 58 = .ok (.if_icmp .lt 12, 3) := by decide +kernel
theorem dX1_headIsSound_61 : decode cX1_headIsSound 61 = .ok (.iload_n 1, 1) := by decide +kernel
theorem dX1_headIsSound_62 : decode cX1_headIsSound 62 = .ok (.iconst 4, 1) := by decide +kernel
theorem dX1_headIsSound_63 : decode cX1_headIsSound 63 = .ok (.if_icmp .gt 7, 3) := by decide +kernel
theorem dX1_headIsSound_66 : decode cX1_headIsSound 66 = .ok (.iconst 1, 1) := by decide +kernel
theorem dX1_headIsSound_67 : decode cX1_headIsSound 67 = .ok (.goto 4, 3) := by decide +kernel
theorem dX1_headIsSound_70 : decode cX1_headIsSound 70 = .ok (.iconst 0, 1) := by decide +kernel
theorem dX1_headIsSound_71 : decode cX1_headIsSound 71 = .ok (.ireturn, 1) := by decide +kernel
theorem dX1_readHead_0 : decode cX1_readHead 0 = .ok (.aload_n 1, 1) := by decide +kernel
theorem dX1_readHead_1 : decode cX1_readHead 1 = .ok (.aload_n 0, 1) := by decide +kernel
theorem dX1_readHead_2 : decode cX1_readHead 2 = .ok (.getfield 20, 3) := by decide +kernel
theorem dX1_readHead_5 : decode cX1_readHead 5 = .ok (.iconst 3, 1) := by decide +kernel
theorem dX1_readHead_6 : decode cX1_readHead 6 = .ok (.iconst 4, 1) := by decide +kernel
theorem dX1_readHead_7 : decode cX1_readHead 7 = .ok (.invokevirtual 135, 3) := by decide +kernel
theorem dX1_readHead_10 : decode cX1_readHead 10 = .ok (.putfield 50, 3) := by decide +kernel
theorem dX1_readHead_13 : decode cX1_readHead 13 = .ok (.aload_n 1, 1) := by decide +kernel
theorem dX1_readHead_14 : decode cX1_readHead 14 = .ok (.aload_n 0, 1) := by decide +kernel
theorem dX1_readHead_15 : decode cX1_readHead 15 = .ok (.getfield 20, 3) := by decide +kernel
theorem dX1_readHead_18 : decode cX1_readHead 18 = .ok (.bipush 8, 2) := by decide +kernel
theorem dX1_readHead_20 : decode cX1_readHead 20 = .ok (.invokevirtual 106, 3) := by decide +kernel
theorem dX1_readHead_23 : decode cX1_readHead 23 = .ok (.putfield 113, 3) := by decide +kernel
theorem dX1_readHead_26 : decode cX1_readHead 26 = .ok (.aload_n 1, 1) := by decide +kernel
theorem dX1_readHead_27 : decode cX1_readHead 27 = .ok (.aload_n 0, 1) := by decide +kernel
theorem dX1_readHead_28 : decode cX1_readHead 28 = .ok (.getfield 20, 3) := by decide +kernel
theorem dX1_readHead_31 : decode cX1_readHead 31 = .ok (.bipush 9, 2) := by decide +kernel
theorem dX1_readHead_33 : decode cX1_readHead 33 = .ok (.invokevirtual 106, 3) := by decide +kernel
theorem dX1_readHead_36 : decode cX1_readHead 36 = .ok (.putfield 116, 3) := by decide +kernel
theorem dX1_readHead_39 : decode cX1_readHead 39 = .ok (.return_, 1) := by decide +kernel
theorem dX1_takePlain_0 : decode cX1_takePlain 0 = .ok (.aload_n 0, 1) := by decide +kernel
theorem dX1_takePlain_1 : decode cX1_takePlain 1 = .ok (.getfield 23, 3) := by decide +kernel
theorem dX1_takePlain_4 : decode cX1_takePlain 4 = .ok (.aload_n 1, 1) := by decide +kernel
theorem dX1_takePlain_5 : decode cX1_takePlain 5 = .ok (.bipush 54, 2) := by decide +kernel
theorem dX1_takePlain_7 : decode cX1_takePlain 7 = .ok (.aload_n 1, 1) := by decide +kernel
theorem dX1_takePlain_8 : decode cX1_takePlain 8 = .ok (.getfield 57, 3) := by decide +kernel
theorem dX1_takePlain_11 : decode cX1_takePlain 11 = .ok (.bipush 54, 2) := by decide +kernel
theorem dX1_takePlain_13 : decode cX1_takePlain 13 = .ok (.isub, 1) := by decide +kernel
theorem dX1_takePlain_14 : decode cX1_takePlain 14 = .ok (.invokevirtual 60, 3) := by decide +kernel
theorem dX1_takePlain_17 : decode cX1_takePlain 17 = .ok (.iconst 1, 1) := by decide +kernel
theorem dX1_takePlain_18 : decode cX1_takePlain 18 = .ok (.ireturn, 1) := by decide +kernel
theorem dX1_takeTens_0 : decode cX1_takeTens 0 = .ok (.iconst 1, 1) := by decide +kernel
theorem dX1_takeTens_1 : decode cX1_takeTens 1 = .ok (.istore_n 3, 1) := by decide +kernel
theorem dX1_takeTens_2 : decode cX1_takeTens 2 = .ok (.bipush 69, 2) := by decide +kernel
theorem dX1_takeTens_4 : decode cX1_takeTens 4 = .ok (.istore 4, 2) := by decide +kernel
theorem dX1_takeTens_6 : decode cX1_takeTens 6 = .ok (.iload 4, 2) := by decide +kernel
theorem dX1_takeTens_8 : decode cX1_takeTens 8 = .ok (.aload_n 1, 1) := by decide +kernel
theorem dX1_takeTens_9 : decode cX1_takeTens 9 = .ok (.getfield 57, 3) := by decide +kernel
theorem dX1_takeTens_12 : decode cX1_takeTens 12 = .ok (.if_icmp .gt 100, 3) := by decide +kernel
theorem dX1_takeTens_15 : decode cX1_takeTens 15 = .ok (.aload_n 0, 1) := by decide +kernel
theorem dX1_takeTens_16 : decode cX1_takeTens 16 = .ok (.getfield 26, 3) := by decide +kernel
theorem dX1_takeTens_19 : decode cX1_takeTens 19 = .ok (.invokevirtual 85, 3) := by decide +kernel
theorem dX1_takeTens_22 : decode cX1_takeTens 22 = .ok (.aload_n 0, 1) := by decide +kernel
theorem dX1_takeTens_23 : decode cX1_takeTens 23 = .ok (.getfield 26, 3) := by decide +kernel
theorem dX1_takeTens_26 : decode cX1_takeTens 26 = .ok (.aload_n 1, 1) := by decide +kernel
theorem dX1_takeTens_27 : decode cX1_takeTens 27 = .ok (.iload 4, 2) := by decide +kernel
theorem dX1_takeTens_29 : decode cX1_takeTens 29 = .ok (.bipush 15, 2) := by decide +kernel
theorem dX1_takeTens_31 : decode cX1_takeTens 31 = .ok (.isub, 1) := by decide +kernel
theorem dX1_takeTens_32 : decode cX1_takeTens 32 = .ok (.bipush 15, 2) := by decide +kernel
theorem dX1_takeTens_34 : decode cX1_takeTens 34 = .ok (.invokevirtual 60, 3) := by decide +kernel
theorem dX1_takeTens_37 : decode cX1_takeTens 37 = .ok (.aload_n 0, 1) := by decide +kernel
theorem dX1_takeTens_38 : decode cX1_takeTens 38 = .ok (.getfield 26, 3) := by decide +kernel
theorem dX1_takeTens_41 : decode cX1_takeTens 41 = .ok (.bipush 10, 2) := by decide +kernel
theorem dX1_takeTens_43 : decode cX1_takeTens 43 = .ok (.bipush 53, 2) := by decide +kernel
theorem dX1_takeTens_45 : decode cX1_takeTens 45 = .ok (.iconst 5, 1) := by decide +kernel
theorem dX1_takeTens_46 : decode cX1_takeTens 46 = .ok (.invokevirtual 139, 3) := by decide +kernel
theorem dX1_takeTens_49 : decode cX1_takeTens 49 = .ok (.ifCond .ne 43, 3) := by decide +kernel
theorem dX1_takeTens_52 : decode cX1_takeTens 52 = .ok (.aload_n 0, 1) := by decide +kernel
theorem dX1_takeTens_53 : decode cX1_takeTens 53 = .ok (.invokevirtual 143, 3) := by decide +kernel
theorem dX1_takeTens_56 : decode cX1_takeTens 56 = .ok (.istore 5, 2) := by decide +kernel
theorem dX1_takeTens_58 : decode cX1_takeTens 58 = .ok (.aload_n 2, 1) := by decide +kernel
theorem dX1_takeTens_59 : decode cX1_takeTens 59 = .ok (.dup, 1) := by decide +kernel
theorem dX1_takeTens_60 : decode cX1_takeTens 60 = .ok (.getfield 64, 3) := by decide +kernel
theorem dX1_takeTens_63 : decode cX1_takeTens 63 = .ok (.iload 5, 2) := by decide +kernel
theorem dX1_takeTens_65 : decode cX1_takeTens 65 = .ok (.ifCond .eq 7, 3) := by decide +kernel
theorem dX1_takeTens_68 : decode cX1_takeTens 68 = .ok (.iconst 1, 1) := by decide +kernel
theorem dX1_takeTens_69 : decode cX1_takeTens 69 = .ok (.goto 4, 3) := by decide +kernel
theorem dX1_takeTens_72 : decode cX1_takeTens 72 = .ok (.iconst 0, 1) := by decide +kernel
theorem dX1_takeTens_73 : decode cX1_takeTens 73 = .ok (.iadd, 1) := by decide +kernel
theorem dX1_takeTens_74 : decode cX1_takeTens 74 = .ok (.putfield 64, 3) := by decide +kernel
theorem dX1_takeTens_77 : decode cX1_takeTens 77 = .ok (.iload_n 3, 1) := by decide +kernel
theorem dX1_takeTens_78 : decode cX1_takeTens 78 = .ok (.ifCond .eq 12, 3) := by decide +kernel
theorem dX1_takeTens_81 : decode cX1_takeTens 81 = .ok (.iload 5, 2) := by decide +kernel
theorem dX1_takeTens_83 : decode cX1_takeTens 83 = .ok (.ifCond .eq 7, 3) := by decide +kernel
theorem dX1_takeTens_86 : decode cX1_takeTens 86 = .ok (.iconst 1, 1) := by decide +kernel
theorem dX1_takeTens_87 : decode cX1_takeTens 87 = .ok (.goto 4, 3) := by decide +kernel
theorem dX1_takeTens_90 : decode cX1_takeTens 90 = .ok (.iconst 0, 1) := by decide +kernel
theorem dX1_takeTens_91 : decode cX1_takeTens 91 = .ok (.istore_n 3, 1) := by decide +kernel
theorem dX1_takeTens_92 : decode cX1_takeTens 92 = .ok (.aload_n 0, 1) := by decide +kernel
theorem dX1_takeTens_93 : decode cX1_takeTens 93 = .ok (.getfield 23, 3) := by decide +kernel
theorem dX1_takeTens_96 : decode cX1_takeTens 96 = .ok (.aload_n 0, 1) := by decide +kernel
theorem dX1_takeTens_97 : decode cX1_takeTens 97 = .ok (.getfield 26, 3) := by decide +kernel
theorem dX1_takeTens_100 : decode cX1_takeTens 100 = .ok (.iconst 0, 1) := by decide +kernel
theorem dX1_takeTens_101 : decode cX1_takeTens 101 = .ok (.bipush 10, 2) := by decide +kernel
theorem dX1_takeTens_103 : decode cX1_takeTens 103 = .ok (.invokevirtual 60, 3) := by decide +kernel
theorem dX1_takeTens_106 : decode cX1_takeTens 106 = .ok (.iinc 4 15, 3) := by decide +kernel
theorem dX1_takeTens_109 : decode cX1_takeTens 109 = .ok (.goto (-103), 3) := by decide +kernel
theorem dX1_takeTens_112 : decode cX1_takeTens 112 = .ok (.iload_n 3, 1) := by decide +kernel
theorem dX1_takeTens_113 : decode cX1_takeTens 113 = .ok (.ireturn, 1) := by decide +kernel
theorem dX1_mendFifteen_0 : decode cX1_mendFifteen 0 = .ok (.iconst 0, 1) := by decide +kernel
theorem dX1_mendFifteen_1 : decode cX1_mendFifteen 1 = .ok (.istore_n 1, 1) := by decide +kernel
theorem dX1_mendFifteen_2 : decode cX1_mendFifteen 2 = .ok (.iload_n 1, 1) := by decide +kernel
theorem dX1_mendFifteen_3 : decode cX1_mendFifteen 3 = .ok (.bipush 15, 2) := by decide +kernel
theorem dX1_mendFifteen_5 : decode cX1_mendFifteen 5 = .ok (.if_icmp .ge 42, 3) := by decide +kernel
theorem dX1_mendFifteen_8 : decode cX1_mendFifteen 8 = .ok (.aload_n 0, 1) := by decide +kernel
theorem dX1_mendFifteen_9 : decode cX1_mendFifteen 9 = .ok (.getfield 26, 3) := by decide +kernel
theorem dX1_mendFifteen_12 : decode cX1_mendFifteen 12 = .ok (.iload_n 1, 1) := by decide +kernel
theorem dX1_mendFifteen_13 : decode cX1_mendFifteen 13 = .ok (.invokevirtual 146, 3) := by decide +kernel
theorem dX1_mendFifteen_16 : decode cX1_mendFifteen 16 = .ok (.aload_n 0, 1) := by decide +kernel
theorem dX1_mendFifteen_17 : decode cX1_mendFifteen 17 = .ok (.getfield 26, 3) := by decide +kernel
theorem dX1_mendFifteen_20 : decode cX1_mendFifteen 20 = .ok (.bipush 10, 2) := by decide +kernel
theorem dX1_mendFifteen_22 : decode cX1_mendFifteen 22 = .ok (.bipush 53, 2) := by decide +kernel
theorem dX1_mendFifteen_24 : decode cX1_mendFifteen 24 = .ok (.iconst 5, 1) := by decide +kernel
theorem dX1_mendFifteen_25 : decode cX1_mendFifteen 25 = .ok (.invokevirtual 139, 3) := by decide +kernel
theorem dX1_mendFifteen_28 : decode cX1_mendFifteen 28 = .ok (.ifCond .eq 5, 3) := by decide +kernel
theorem dX1_mendFifteen_31 : decode cX1_mendFifteen 31 = .ok (.iconst 1, 1) := by decide +kernel
theorem dX1_mendFifteen_32 : decode cX1_mendFifteen 32 = .ok (.ireturn, 1) := by decide +kernel
theorem dX1_mendFifteen_33 : decode cX1_mendFifteen 33 = .ok (.aload_n 0, 1) := by decide +kernel
theorem dX1_mendFifteen_34 : decode cX1_mendFifteen 34 = .ok (.getfield 26, 3) := by decide +kernel
theorem dX1_mendFifteen_37 : decode cX1_mendFifteen 37 = .ok (.iload_n 1, 1) := by decide +kernel
theorem dX1_mendFifteen_38 : decode cX1_mendFifteen 38 = .ok (.invokevirtual 146, 3) := by decide +kernel
theorem dX1_mendFifteen_41 : decode cX1_mendFifteen 41 = .ok (.iinc 1 1, 3) := by decide +kernel
theorem dX1_mendFifteen_44 : decode cX1_mendFifteen 44 = .ok (.goto (-42), 3) := by decide +kernel
theorem dX1_mendFifteen_47 : decode cX1_mendFifteen 47 = .ok (.iconst 0, 1) := by decide +kernel
theorem dX1_mendFifteen_48 : decode cX1_mendFifteen 48 = .ok (.ireturn, 1) := by decide +kernel
theorem dX1_readLoad_0 : decode cX1_readLoad 0 = .ok (.aload_n 0, 1) := by decide +kernel
theorem dX1_readLoad_1 : decode cX1_readLoad 1 = .ok (.getfield 23, 3) := by decide +kernel
theorem dX1_readLoad_4 : decode cX1_readLoad 4 = .ok (.iconst 0, 1) := by decide +kernel
theorem dX1_readLoad_5 : decode cX1_readLoad 5 = .ok (.bipush 8, 2) := by decide +kernel
theorem dX1_readLoad_7 : decode cX1_readLoad 7 = .ok (.invokevirtual 135, 3) := by decide +kernel
theorem dX1_readLoad_10 : decode cX1_readLoad 10 = .ok (.istore_n 2, 1) := by decide +kernel
theorem dX1_readLoad_11 : decode cX1_readLoad 11 = .ok (.iload_n 2, 1) := by decide +kernel
theorem dX1_readLoad_12 : decode cX1_readLoad 12 = .ok (.iconst 4, 1) := by decide +kernel
theorem dX1_readLoad_13 : decode cX1_readLoad 13 = .ok (.idiv, 1) := by decide +kernel
theorem dX1_readLoad_14 : decode cX1_readLoad 14 = .ok (.istore_n 3, 1) := by decide +kernel
theorem dX1_readLoad_15 : decode cX1_readLoad 15 = .ok (.iload_n 2, 1) := by decide +kernel
theorem dX1_readLoad_16 : decode cX1_readLoad 16 = .ok (.iconst 4, 1) := by decide +kernel
theorem dX1_readLoad_17 : decode cX1_readLoad 17 = .ok (.irem, 1) := by decide +kernel
theorem dX1_readLoad_18 : decode cX1_readLoad 18 = .ok (.istore 4, 2) := by decide +kernel
theorem dX1_readLoad_20 : decode cX1_readLoad 20 = .ok (.bipush 8, 2) := by decide +kernel
theorem dX1_readLoad_22 : decode cX1_readLoad 22 = .ok (.bipush 8, 2) := by decide +kernel
theorem dX1_readLoad_24 : decode cX1_readLoad 24 = .ok (.iload_n 3, 1) := by decide +kernel
theorem dX1_readLoad_25 : decode cX1_readLoad 25 = .ok (.imul, 1) := by decide +kernel
theorem dX1_readLoad_26 : decode cX1_readLoad 26 = .ok (.iadd, 1) := by decide +kernel
theorem dX1_readLoad_27 : decode cX1_readLoad 27 = .ok (.istore 5, 2) := by decide +kernel
theorem dX1_readLoad_29 : decode cX1_readLoad 29 = .ok (.aload_n 0, 1) := by decide +kernel
theorem dX1_readLoad_30 : decode cX1_readLoad 30 = .ok (.getfield 23, 3) := by decide +kernel
theorem dX1_readLoad_33 : decode cX1_readLoad 33 = .ok (.getfield 57, 3) := by decide +kernel
theorem dX1_readLoad_36 : decode cX1_readLoad 36 = .ok (.iload 5, 2) := by decide +kernel
theorem dX1_readLoad_38 : decode cX1_readLoad 38 = .ok (.bipush 16, 2) := by decide +kernel
theorem dX1_readLoad_40 : decode cX1_readLoad 40 = .ok (.iadd, 1) := by decide +kernel
theorem dX1_readLoad_41 : decode cX1_readLoad 41 = .ok (.if_icmp .lt 7, 3) := by decide +kernel
theorem dX1_readLoad_44 : decode cX1_readLoad 44 = .ok (.iload_n 3, 1) := by decide +kernel
theorem dX1_readLoad_45 : decode cX1_readLoad 45 = .ok (.ifCond .ne 5, 3) := by decide +kernel
theorem dX1_readLoad_48 : decode cX1_readLoad 48 = .ok (.iconst 0, 1) := by decide +kernel
theorem dX1_readLoad_49 : decode cX1_readLoad 49 = .ok (.ireturn, 1) := by decide +kernel
theorem dX1_readLoad_50 : decode cX1_readLoad 50 = .ok (.iload 4, 2) := by decide +kernel
theorem dX1_readLoad_52 : decode cX1_readLoad 52 = .ok (.iconst 2, 1) := by decide +kernel
theorem dX1_readLoad_53 : decode cX1_readLoad 53 = .ok (.if_icmp .eq 11, 3) := by decide +kernel
theorem dX1_readLoad_56 : decode cX1_readLoad 56 = .ok (.iload 4, 2) := by decide +kernel
theorem dX1_readLoad_58 : decode cX1_readLoad 58 = .ok (.iconst 1, 1) := by decide +kernel
theorem dX1_readLoad_59 : decode cX1_readLoad 59 = .ok (.if_icmp .eq 5, 3) := by decide +kernel
theorem dX1_readLoad_62 : decode cX1_readLoad 62 = .ok (.iconst 0, 1) := by decide +kernel
theorem dX1_readLoad_63 : decode cX1_readLoad 63 = .ok (.ireturn, 1) := by decide +kernel
theorem dX1_readLoad_64 : decode cX1_readLoad 64 = .ok (.aload_n 0, 1) := by decide +kernel
theorem dX1_readLoad_65 : decode cX1_readLoad 65 = .ok (.getfield 23, 3) := by decide +kernel
theorem dX1_readLoad_68 : decode cX1_readLoad 68 = .ok (.iload 5, 2) := by decide +kernel
theorem dX1_readLoad_70 : decode cX1_readLoad 70 = .ok (.ldc 134, 2) := by decide +kernel
theorem dX1_readLoad_72 : decode cX1_readLoad 72 = .ok (.bipush 16, 2) := by decide +kernel
theorem dX1_readLoad_74 : decode cX1_readLoad 74 = .ok (.invokevirtual 139, 3) := by decide +kernel
theorem dX1_readLoad_77 : decode cX1_readLoad 77 = .ok (.ifCond .ne 5, 3) := by decide +kernel
theorem dX1_readLoad_80 : decode cX1_readLoad 80 = .ok (.iconst 0, 1) := by decide +kernel
theorem dX1_readLoad_81 : decode cX1_readLoad 81 = .ok (.ireturn, 1) := by decide +kernel
theorem dX1_readLoad_82 : decode cX1_readLoad 82 = .ok (.aload_n 1, 1) := by decide +kernel
theorem dX1_readLoad_83 : decode cX1_readLoad 83 = .ok (.iload 4, 2) := by decide +kernel
theorem dX1_readLoad_85 : decode cX1_readLoad 85 = .ok (.iconst 2, 1) := by decide +kernel
theorem dX1_readLoad_86 : decode cX1_readLoad 86 = .ok (.if_icmp .ne 7, 3) := by decide +kernel
theorem dX1_readLoad_89 : decode cX1_readLoad 89 = .ok (.iconst 1, 1) := by decide +kernel
theorem dX1_readLoad_90 : decode cX1_readLoad 90 = .ok (.goto 4, 3) := by decide +kernel
theorem dX1_readLoad_93 : decode cX1_readLoad 93 = .ok (.iconst 0, 1) := by decide +kernel
theorem dX1_readLoad_94 : decode cX1_readLoad 94 = .ok (.putfield 129, 3) := by decide +kernel
theorem dX1_readLoad_97 : decode cX1_readLoad 97 = .ok (.iconst 1, 1) := by decide +kernel
theorem dX1_readLoad_98 : decode cX1_readLoad 98 = .ok (.istore 6, 2) := by decide +kernel
theorem dX1_readLoad_100 : decode cX1_readLoad 100 = .ok (.iload 6, 2) := by decide +kernel
theorem dX1_readLoad_102 : decode cX1_readLoad 102 = .ok (.iload_n 3, 1) := by decide +kernel
theorem dX1_readLoad_103 : decode cX1_readLoad 103 = .ok (.if_icmp .gt 30, 3) := by decide +kernel
theorem dX1_readLoad_106 : decode cX1_readLoad 106 = .ok (.aload_n 1, 1) := by decide +kernel
theorem dX1_readLoad_107 : decode cX1_readLoad 107 = .ok (.getfield 67, 3) := by decide +kernel
theorem dX1_readLoad_110 : decode cX1_readLoad 110 = .ok (.aload_n 0, 1) := by decide +kernel
theorem dX1_readLoad_111 : decode cX1_readLoad 111 = .ok (.getfield 23, 3) := by decide +kernel
theorem dX1_readLoad_114 : decode cX1_readLoad 114 = .ok (.bipush 8, 2) := by decide +kernel
theorem dX1_readLoad_116 : decode cX1_readLoad 116 = .ok (.iload 6, 2) := by decide +kernel
theorem dX1_readLoad_118 : decode cX1_readLoad 118 = .ok (.imul, 1) := by decide +kernel
theorem dX1_readLoad_119 : decode cX1_readLoad 119 = .ok (.bipush 8, 2) := by decide +kernel
theorem dX1_readLoad_121 : decode cX1_readLoad 121 = .ok (.invokevirtual 135, 3) := by decide +kernel
theorem dX1_readLoad_124 : decode cX1_readLoad 124 = .ok (.invokevirtual 149, 3) := by decide +kernel
theorem dX1_readLoad_127 : decode cX1_readLoad 127 = .ok (.iinc 6 1, 3) := by decide +kernel
theorem dX1_readLoad_130 : decode cX1_readLoad 130 = .ok (.goto (-30), 3) := by decide +kernel
theorem dX1_readLoad_133 : decode cX1_readLoad 133 = .ok (.iconst 1, 1) := by decide +kernel
theorem dX1_readLoad_134 : decode cX1_readLoad 134 = .ok (.ireturn, 1) := by decide +kernel
theorem dX2_init_0 : decode cX2_init 0 = .ok (.aload_n 0, 1) := by decide +kernel
theorem dX2_init_1 : decode cX2_init 1 = .ok (.invokespecial 3, 3) := by decide +kernel
theorem dX2_init_4 : decode cX2_init 4 = .ok (.aload_n 0, 1) := by decide +kernel
theorem dX2_init_5 : decode cX2_init 5 = .ok (.new 9, 3) := by decide +kernel
theorem dX2_init_8 : decode cX2_init 8 = .ok (.dup, 1) := by decide +kernel
theorem dX2_init_9 : decode cX2_init 9 = .ok (.invokespecial 11, 3) := by decide +kernel
theorem dX2_init_12 : decode cX2_init 12 = .ok (.putfield 12, 3) := by decide +kernel
theorem dX2_init_15 : decode cX2_init 15 = .ok (.aload_n 0, 1) := by decide +kernel
theorem dX2_init_16 : decode cX2_init 16 = .ok (.new 18, 3) := by decide +kernel
theorem dX2_init_19 : decode cX2_init 19 = .ok (.dup, 1) := by decide +kernel
theorem dX2_init_20 : decode cX2_init 20 = .ok (.invokespecial 20, 3) := by decide +kernel
theorem dX2_init_23 : decode cX2_init 23 = .ok (.putfield 21, 3) := by decide +kernel
theorem dX2_init_26 : decode cX2_init 26 = .ok (.aload_n 0, 1) := by decide +kernel
theorem dX2_init_27 : decode cX2_init 27 = .ok (.new 25, 3) := by decide +kernel
theorem dX2_init_30 : decode cX2_init 30 = .ok (.dup, 1) := by decide +kernel
theorem dX2_init_31 : decode cX2_init 31 = .ok (.invokespecial 27, 3) := by decide +kernel
theorem dX2_init_34 : decode cX2_init 34 = .ok (.putfield 28, 3) := by decide +kernel
theorem dX2_init_37 : decode cX2_init 37 = .ok (.aload_n 0, 1) := by decide +kernel
theorem dX2_init_38 : decode cX2_init 38 = .ok (.getfield 28, 3) := by decide +kernel
theorem dX2_init_41 : decode cX2_init 41 = .ok (.iload_n 1, 1) := by decide +kernel
theorem dX2_init_42 : decode cX2_init 42 = .ok (.putfield 32, 3) := by decide +kernel
theorem dX2_init_45 : decode cX2_init 45 = .ok (.return_, 1) := by decide +kernel
theorem dX2_speak_0 : decode cX2_speak 0 = .ok (.aload_n 0, 1) := by decide +kernel
theorem dX2_speak_1 : decode cX2_speak 1 = .ok (.getfield 28, 3) := by decide +kernel
theorem dX2_speak_4 : decode cX2_speak 4 = .ok (.getfield 32, 3) := by decide +kernel
theorem dX2_speak_7 : decode cX2_speak 7 = .ok (.iconst 2, 1) := by decide +kernel
theorem dX2_speak_8 : decode cX2_speak 8 = .ok (.if_icmp .ne 12, 3) := by decide +kernel
theorem dX2_speak_11 : decode cX2_speak 11 = .ok (.aload_n 0, 1) := by decide +kernel
theorem dX2_speak_12 : decode cX2_speak 12 = .ok (.getfield 36, 3) := by decide +kernel
theorem dX2_speak_15 : decode cX2_speak 15 = .ok (.ifCond .ne 5, 3) := by decide +kernel
theorem dX2_speak_18 : decode cX2_speak 18 = .ok (.aconst_null, 1) := by decide +kernel
theorem dX2_speak_19 : decode cX2_speak 19 = .ok (.areturn, 1) := by decide +kernel
theorem dX2_speak_20 : decode cX2_speak 20 = .ok (.aload_n 0, 1) := by decide +kernel
theorem dX2_speak_21 : decode cX2_speak 21 = .ok (.getfield 12, 3) := by decide +kernel
theorem dX2_speak_24 : decode cX2_speak 24 = .ok (.invokevirtual 40, 3) := by decide +kernel
theorem dX2_speak_27 : decode cX2_speak 27 = .ok (.astore_n 1, 1) := by decide +kernel
theorem dX2_speak_28 : decode cX2_speak 28 = .ok (.aload_n 1, 1) := by decide +kernel
theorem dX2_speak_29 : decode cX2_speak 29 = .ok (.ifnonnull 22, 3) := by decide +kernel
theorem dX2_speak_32 : decode cX2_speak 32 = .ok (.aload_n 0, 1) := by decide +kernel
theorem dX2_speak_33 : decode cX2_speak 33 = .ok (.getfield 28, 3) := by decide +kernel
theorem dX2_speak_36 : decode cX2_speak 36 = .ok (.aload_n 0, 1) := by decide +kernel
theorem dX2_speak_37 : decode cX2_speak 37 = .ok (.getfield 12, 3) := by decide +kernel
theorem dX2_speak_40 : decode cX2_speak 40 = .ok (.getfield 44, 3) := by decide +kernel
theorem dX2_speak_43 : decode cX2_speak 43 = .ok (.putfield 47, 3) := by decide +kernel
theorem dX2_speak_46 : decode cX2_speak 46 = .ok (.aload_n 0, 1) := by decide +kernel
theorem dX2_speak_47 : decode cX2_speak 47 = .ok (.getfield 28, 3) := by decide +kernel
theorem dX2_speak_50 : decode cX2_speak 50 = .ok (.astore_n 1, 1) := by decide +kernel
theorem dX2_speak_51 : decode cX2_speak 51 = .ok (.aload_n 1, 1) := by decide +kernel
theorem dX2_speak_52 : decode cX2_speak 52 = .ok (.aload_n 0, 1) := by decide +kernel
theorem dX2_speak_53 : decode cX2_speak 53 = .ok (.getfield 48, 3) := by decide +kernel
theorem dX2_speak_56 : decode cX2_speak 56 = .ok (.ifCond .eq 7, 3) := by decide +kernel
theorem dX2_speak_59 : decode cX2_speak 59 = .ok (.iconst 1, 1) := by decide +kernel
theorem dX2_speak_60 : decode cX2_speak 60 = .ok (.goto 4, 3) := by decide +kernel
theorem dX2_speak_63 : decode cX2_speak 63 = .ok (.iconst 0, 1) := by decide +kernel
theorem dX2_speak_64 : decode cX2_speak 64 = .ok (.putfield 51, 3) := by decide +kernel
theorem dX2_speak_67 : decode cX2_speak 67 = .ok (.aload_n 0, 1) := by decide +kernel
theorem dX2_speak_68 : decode cX2_speak 68 = .ok (.iconst 0, 1) := by decide +kernel
theorem dX2_speak_69 : decode cX2_speak 69 = .ok (.putfield 48, 3) := by decide +kernel
theorem dX2_speak_72 : decode cX2_speak 72 = .ok (.aload_n 0, 1) := by decide +kernel
theorem dX2_speak_73 : decode cX2_speak 73 = .ok (.iconst 0, 1) := by decide +kernel
theorem dX2_speak_74 : decode cX2_speak 74 = .ok (.putfield 36, 3) := by decide +kernel
theorem dX2_speak_77 : decode cX2_speak 77 = .ok (.aload_n 1, 1) := by decide +kernel
theorem dX2_speak_78 : decode cX2_speak 78 = .ok (.areturn, 1) := by decide +kernel
theorem dX2_heed_0 : decode cX2_heed 0 = .ok (.aload_n 0, 1) := by decide +kernel
theorem dX2_heed_1 : decode cX2_heed 1 = .ok (.iconst 1, 1) := by decide +kernel
theorem dX2_heed_2 : decode cX2_heed 2 = .ok (.putfield 36, 3) := by decide +kernel
theorem dX2_heed_5 : decode cX2_heed 5 = .ok (.aload_n 0, 1) := by decide +kernel
theorem dX2_heed_6 : decode cX2_heed 6 = .ok (.getfield 21, 3) := by decide +kernel
theorem dX2_heed_9 : decode cX2_heed 9 = .ok (.dup, 1) := by decide +kernel
theorem dX2_heed_10 : decode cX2_heed 10 = .ok (.getfield 54, 3) := by decide +kernel
theorem dX2_heed_13 : decode cX2_heed 13 = .ok (.aload_n 1, 1) := by decide +kernel
theorem dX2_heed_14 : decode cX2_heed 14 = .ok (.getfield 57, 3) := by decide +kernel
theorem dX2_heed_17 : decode cX2_heed 17 = .ok (.iadd, 1) := by decide +kernel
theorem dX2_heed_18 : decode cX2_heed 18 = .ok (.putfield 54, 3) := by decide +kernel
theorem dX2_heed_21 : decode cX2_heed 21 = .ok (.aload_n 1, 1) := by decide +kernel
theorem dX2_heed_22 : decode cX2_heed 22 = .ok (.getfield 51, 3) := by decide +kernel
theorem dX2_heed_25 : decode cX2_heed 25 = .ok (.iconst 1, 1) := by decide +kernel
theorem dX2_heed_26 : decode cX2_heed 26 = .ok (.if_icmp .ne 10, 3) := by decide +kernel
theorem dX2_heed_29 : decode cX2_heed 29 = .ok (.aload_n 0, 1) := by decide +kernel
theorem dX2_heed_30 : decode cX2_heed 30 = .ok (.getfield 12, 3) := by decide +kernel
theorem dX2_heed_33 : decode cX2_heed 33 = .ok (.invokevirtual 58, 3) := by decide +kernel
theorem dX2_heed_36 : decode cX2_heed 36 = .ok (.iload_n 2, 1) := by decide +kernel
theorem dX2_heed_37 : decode cX2_heed 37 = .ok (.bipush 6, 2) := by decide +kernel
theorem dX2_heed_39 : decode cX2_heed 39 = .ok (.if_icmp .eq 5, 3) := by decide +kernel
theorem dX2_heed_42 : decode cX2_heed 42 = .ok (.iload_n 2, 1) := by decide +kernel
theorem dX2_heed_43 : decode cX2_heed 43 = .ok (.ireturn, 1) := by decide +kernel
theorem dX2_heed_44 : decode cX2_heed 44 = .ok (.aload_n 0, 1) := by decide +kernel
theorem dX2_heed_45 : decode cX2_heed 45 = .ok (.iconst 1, 1) := by decide +kernel
theorem dX2_heed_46 : decode cX2_heed 46 = .ok (.putfield 48, 3) := by decide +kernel
theorem dX2_heed_49 : decode cX2_heed 49 = .ok (.aload_n 0, 1) := by decide +kernel
theorem dX2_heed_50 : decode cX2_heed 50 = .ok (.getfield 21, 3) := by decide +kernel
theorem dX2_heed_53 : decode cX2_heed 53 = .ok (.aload_n 1, 1) := by decide +kernel
theorem dX2_heed_54 : decode cX2_heed 54 = .ok (.invokevirtual 61, 3) := by decide +kernel
theorem dX2_heed_57 : decode cX2_heed 57 = .ok (.ifCond .ne 6, 3) := by decide +kernel
theorem dX2_heed_60 : decode cX2_heed 60 = .ok (.bipush 8, 2) := by decide +kernel
theorem dX2_heed_62 : decode cX2_heed 62 = .ok (.ireturn, 1) := by decide +kernel
theorem dX2_heed_63 : decode cX2_heed 63 = .ok (.aload_n 0, 1) := by decide +kernel
theorem dX2_heed_64 : decode cX2_heed 64 = .ok (.getfield 21, 3) := by decide +kernel
theorem dX2_heed_67 : decode cX2_heed 67 = .ok (.aload_n 1, 1) := by decide +kernel
theorem dX2_heed_68 : decode cX2_heed 68 = .ok (.invokevirtual 65, 3) := by decide +kernel
theorem dX2_heed_71 : decode cX2_heed 71 = .ok (.bipush 6, 2) := by decide +kernel
theorem dX2_heed_73 : decode cX2_heed 73 = .ok (.ireturn, 1) := by decide +kernel
theorem dX2_tell_0 : decode cX2_tell 0 = .ok (.iload_n 1, 1) := by decide +kernel
theorem dX2_tell_1 : decode cX2_tell 1 = .ok (.tableswitch 151 0 9 #[55, 66, 77, 85, 93, 101, 109, 117, 125, 138], 55) := by decide +kernel
theorem dX2_tell_56 : decode cX2_tell 56 = .ok (.aload_n 0, 1) := by decide +kernel
theorem dX2_tell_57 : decode cX2_tell 57 = .ok (.getfield 12, 3) := by decide +kernel
theorem dX2_tell_60 : decode cX2_tell 60 = .ok (.getfield 69, 3) := by decide +kernel
theorem dX2_tell_63 : decode cX2_tell 63 = .ok (.getfield 73, 3) := by decide +kernel
theorem dX2_tell_66 : decode cX2_tell 66 = .ok (.ireturn, 1) := by decide +kernel
theorem dX2_tell_67 : decode cX2_tell 67 = .ok (.aload_n 0, 1) := by decide +kernel
theorem dX2_tell_68 : decode cX2_tell 68 = .ok (.getfield 21, 3) := by decide +kernel
theorem dX2_tell_71 : decode cX2_tell 71 = .ok (.getfield 78, 3) := by decide +kernel
theorem dX2_tell_74 : decode cX2_tell 74 = .ok (.getfield 73, 3) := by decide +kernel
theorem dX2_tell_77 : decode cX2_tell 77 = .ok (.ireturn, 1) := by decide +kernel
theorem dX2_tell_78 : decode cX2_tell 78 = .ok (.aload_n 0, 1) := by decide +kernel
theorem dX2_tell_79 : decode cX2_tell 79 = .ok (.getfield 12, 3) := by decide +kernel
theorem dX2_tell_82 : decode cX2_tell 82 = .ok (.invokevirtual 81, 3) := by decide +kernel
theorem dX2_tell_85 : decode cX2_tell 85 = .ok (.ireturn, 1) := by decide +kernel
theorem dX2_tell_86 : decode cX2_tell 86 = .ok (.aload_n 0, 1) := by decide +kernel
theorem dX2_tell_87 : decode cX2_tell 87 = .ok (.getfield 12, 3) := by decide +kernel
theorem dX2_tell_90 : decode cX2_tell 90 = .ok (.invokevirtual 85, 3) := by decide +kernel
theorem dX2_tell_93 : decode cX2_tell 93 = .ok (.ireturn, 1) := by decide +kernel
theorem dX2_tell_94 : decode cX2_tell 94 = .ok (.aload_n 0, 1) := by decide +kernel
theorem dX2_tell_95 : decode cX2_tell 95 = .ok (.getfield 21, 3) := by decide +kernel
theorem dX2_tell_98 : decode cX2_tell 98 = .ok (.invokevirtual 88, 3) := by decide +kernel
theorem dX2_tell_101 : decode cX2_tell 101 = .ok (.ireturn, 1) := by decide +kernel
theorem dX2_tell_102 : decode cX2_tell 102 = .ok (.aload_n 0, 1) := by decide +kernel
theorem dX2_tell_103 : decode cX2_tell 103 = .ok (.getfield 21, 3) := by decide +kernel
theorem dX2_tell_106 : decode cX2_tell 106 = .ok (.getfield 91, 3) := by decide +kernel
theorem dX2_tell_109 : decode cX2_tell 109 = .ok (.ireturn, 1) := by decide +kernel
theorem dX2_tell_110 : decode cX2_tell 110 = .ok (.aload_n 0, 1) := by decide +kernel
theorem dX2_tell_111 : decode cX2_tell 111 = .ok (.getfield 21, 3) := by decide +kernel
theorem dX2_tell_114 : decode cX2_tell 114 = .ok (.getfield 54, 3) := by decide +kernel
theorem dX2_tell_117 : decode cX2_tell 117 = .ok (.ireturn, 1) := by decide +kernel
theorem dX2_tell_118 : decode cX2_tell 118 = .ok (.aload_n 0, 1) := by decide +kernel
theorem dX2_tell_119 : decode cX2_tell 119 = .ok (.getfield 12, 3) := by decide +kernel
theorem dX2_tell_122 : decode cX2_tell 122 = .ok (.getfield 44, 3) := by decide +kernel
theorem dX2_tell_125 : decode cX2_tell 125 = .ok (.ireturn, 1) := by decide +kernel
theorem dX2_tell_126 : decode cX2_tell 126 = .ok (.aload_n 0, 1) := by decide +kernel
theorem dX2_tell_127 : decode cX2_tell 127 = .ok (.getfield 48, 3) := by decide +kernel
theorem dX2_tell_130 : decode cX2_tell 130 = .ok (.ifCond .eq 7, 3) := by decide +kernel
theorem dX2_tell_133 : decode cX2_tell 133 = .ok (.iconst 1, 1) := by decide +kernel
theorem dX2_tell_134 : decode cX2_tell 134 = .ok (.goto 4, 3) := by decide +kernel
theorem dX2_tell_137 : decode cX2_tell 137 = .ok (.iconst 0, 1) := by decide +kernel
theorem dX2_tell_138 : decode cX2_tell 138 = .ok (.ireturn, 1) := by decide +kernel
theorem dX2_tell_139 : decode cX2_tell 139 = .ok (.aload_n 0, 1) := by decide +kernel
theorem dX2_tell_140 : decode cX2_tell 140 = .ok (.getfield 36, 3) := by decide +kernel
theorem dX2_tell_143 : decode cX2_tell 143 = .ok (.ifCond .eq 7, 3) := by decide +kernel
theorem dX2_tell_146 : decode cX2_tell 146 = .ok (.iconst 1, 1) := by decide +kernel
theorem dX2_tell_147 : decode cX2_tell 147 = .ok (.goto 4, 3) := by decide +kernel
theorem dX2_tell_150 : decode cX2_tell 150 = .ok (.iconst 0, 1) := by decide +kernel
theorem dX2_tell_151 : decode cX2_tell 151 = .ok (.ireturn, 1) := by decide +kernel
theorem dX2_tell_152 : decode cX2_tell 152 = .ok (.iconst (-1), 1) := by decide +kernel
theorem dX2_tell_153 : decode cX2_tell 153 = .ok (.ireturn, 1) := by decide +kernel
theorem dX3_init_0 : decode cX3_init 0 = .ok (.aload_n 0, 1) := by decide +kernel
theorem dX3_init_1 : decode cX3_init 1 = .ok (.invokespecial 3, 3) := by decide +kernel
theorem dX3_init_4 : decode cX3_init 4 = .ok (.aload_n 0, 1) := by decide +kernel
theorem dX3_init_5 : decode cX3_init 5 = .ok (.new 9, 3) := by decide +kernel
theorem dX3_init_8 : decode cX3_init 8 = .ok (.dup, 1) := by decide +kernel
theorem dX3_init_9 : decode cX3_init 9 = .ok (.bipush 63, 2) := by decide +kernel
theorem dX3_init_11 : decode cX3_init 11 = .ok (.invokespecial 11, 3) := by decide +kernel
theorem dX3_init_14 : decode cX3_init 14 = .ok (.putfield 14, 3) := by decide +kernel
theorem dX3_init_17 : decode cX3_init 17 = .ok (.return_, 1) := by decide +kernel
theorem dX3_hasLoad_0 : decode cX3_hasLoad 0 = .ok (.aload_n 0, 1) := by decide +kernel
theorem dX3_hasLoad_1 : decode cX3_hasLoad 1 = .ok (.getfield 20, 3) := by decide +kernel
theorem dX3_hasLoad_4 : decode cX3_hasLoad 4 = .ok (.iconst 3, 1) := by decide +kernel
theorem dX3_hasLoad_5 : decode cX3_hasLoad 5 = .ok (.if_icmp .eq 11, 3) := by decide +kernel
theorem dX3_hasLoad_8 : decode cX3_hasLoad 8 = .ok (.aload_n 0, 1) := by decide +kernel
theorem dX3_hasLoad_9 : decode cX3_hasLoad 9 = .ok (.getfield 20, 3) := by decide +kernel
theorem dX3_hasLoad_12 : decode cX3_hasLoad 12 = .ok (.iconst 4, 1) := by decide +kernel
theorem dX3_hasLoad_13 : decode cX3_hasLoad 13 = .ok (.if_icmp .ne 7, 3) := by decide +kernel
theorem dX3_hasLoad_16 : decode cX3_hasLoad 16 = .ok (.iconst 1, 1) := by decide +kernel
theorem dX3_hasLoad_17 : decode cX3_hasLoad 17 = .ok (.goto 4, 3) := by decide +kernel
theorem dX3_hasLoad_20 : decode cX3_hasLoad 20 = .ok (.iconst 0, 1) := by decide +kernel
theorem dX3_hasLoad_21 : decode cX3_hasLoad 21 = .ok (.ireturn, 1) := by decide +kernel
theorem dX4_init_0 : decode cX4_init 0 = .ok (.aload_n 0, 1) := by decide +kernel
theorem dX4_init_1 : decode cX4_init 1 = .ok (.invokespecial 3, 3) := by decide +kernel
theorem dX4_init_4 : decode cX4_init 4 = .ok (.aload_n 0, 1) := by decide +kernel
theorem dX4_init_5 : decode cX4_init 5 = .ok (.new 9, 3) := by decide +kernel
theorem dX4_init_8 : decode cX4_init 8 = .ok (.dup, 1) := by decide +kernel
theorem dX4_init_9 : decode cX4_init 9 = .ok (.sipush 255, 3) := by decide +kernel
theorem dX4_init_12 : decode cX4_init 12 = .ok (.invokespecial 11, 3) := by decide +kernel
theorem dX4_init_15 : decode cX4_init 15 = .ok (.putfield 14, 3) := by decide +kernel
theorem dX4_init_18 : decode cX4_init 18 = .ok (.aload_n 0, 1) := by decide +kernel
theorem dX4_init_19 : decode cX4_init 19 = .ok (.new 20, 3) := by decide +kernel
theorem dX4_init_22 : decode cX4_init 22 = .ok (.dup, 1) := by decide +kernel
theorem dX4_init_23 : decode cX4_init 23 = .ok (.sipush 318, 3) := by decide +kernel
theorem dX4_init_26 : decode cX4_init 26 = .ok (.invokespecial 22, 3) := by decide +kernel
theorem dX4_init_29 : decode cX4_init 29 = .ok (.putfield 23, 3) := by decide +kernel
theorem dX4_init_32 : decode cX4_init 32 = .ok (.return_, 1) := by decide +kernel
theorem dX4_bytesSoFar_0 : decode cX4_bytesSoFar 0 = .ok (.aload_n 0, 1) := by decide +kernel
theorem dX4_bytesSoFar_1 : decode cX4_bytesSoFar 1 = .ok (.getfield 27, 3) := by decide +kernel
theorem dX4_bytesSoFar_4 : decode cX4_bytesSoFar 4 = .ok (.ifCond .eq 13, 3) := by decide +kernel
theorem dX4_bytesSoFar_7 : decode cX4_bytesSoFar 7 = .ok (.aload_n 0, 1) := by decide +kernel
theorem dX4_bytesSoFar_8 : decode cX4_bytesSoFar 8 = .ok (.getfield 23, 3) := by decide +kernel
theorem dX4_bytesSoFar_11 : decode cX4_bytesSoFar 11 = .ok (.getfield 31, 3) := by decide +kernel
theorem dX4_bytesSoFar_14 : decode cX4_bytesSoFar 14 = .ok (.goto 4, 3) := by decide +kernel
theorem dX4_bytesSoFar_17 : decode cX4_bytesSoFar 17 = .ok (.iconst 0, 1) := by decide +kernel
theorem dX4_bytesSoFar_18 : decode cX4_bytesSoFar 18 = .ok (.ireturn, 1) := by decide +kernel
theorem dX4_isNew_0 : decode cX4_isNew 0 = .ok (.aload_n 1, 1) := by decide +kernel
theorem dX4_isNew_1 : decode cX4_isNew 1 = .ok (.getfield 35, 3) := by decide +kernel
theorem dX4_isNew_4 : decode cX4_isNew 4 = .ok (.aload_n 0, 1) := by decide +kernel
theorem dX4_isNew_5 : decode cX4_isNew 5 = .ok (.getfield 40, 3) := by decide +kernel
theorem dX4_isNew_8 : decode cX4_isNew 8 = .ok (.if_icmp .eq 7, 3) := by decide +kernel
theorem dX4_isNew_11 : decode cX4_isNew 11 = .ok (.iconst 1, 1) := by decide +kernel
theorem dX4_isNew_12 : decode cX4_isNew 12 = .ok (.goto 4, 3) := by decide +kernel
theorem dX4_isNew_15 : decode cX4_isNew 15 = .ok (.iconst 0, 1) := by decide +kernel
theorem dX4_isNew_16 : decode cX4_isNew 16 = .ok (.ireturn, 1) := by decide +kernel
theorem dX4_use_0 : decode cX4_use 0 = .ok (.aload_n 0, 1) := by decide +kernel
theorem dX4_use_1 : decode cX4_use 1 = .ok (.aload_n 1, 1) := by decide +kernel
theorem dX4_use_2 : decode cX4_use 2 = .ok (.getfield 35, 3) := by decide +kernel
theorem dX4_use_5 : decode cX4_use 5 = .ok (.putfield 40, 3) := by decide +kernel
theorem dX4_use_8 : decode cX4_use 8 = .ok (.aload_n 1, 1) := by decide +kernel
theorem dX4_use_9 : decode cX4_use 9 = .ok (.getfield 43, 3) := by decide +kernel
theorem dX4_use_12 : decode cX4_use 12 = .ok (.ifCond .eq 37, 3) := by decide +kernel
theorem dX4_use_15 : decode cX4_use 15 = .ok (.aload_n 0, 1) := by decide +kernel
theorem dX4_use_16 : decode cX4_use 16 = .ok (.aload_n 1, 1) := by decide +kernel
theorem dX4_use_17 : decode cX4_use 17 = .ok (.getfield 46, 3) := by decide +kernel
theorem dX4_use_20 : decode cX4_use 20 = .ok (.iconst 0, 1) := by decide +kernel
theorem dX4_use_21 : decode cX4_use 21 = .ok (.invokevirtual 49, 3) := by decide +kernel
theorem dX4_use_24 : decode cX4_use 24 = .ok (.invokevirtual 53, 3) := by decide +kernel
theorem dX4_use_27 : decode cX4_use 27 = .ok (.aload_n 0, 1) := by decide +kernel
theorem dX4_use_28 : decode cX4_use 28 = .ok (.getfield 23, 3) := by decide +kernel
theorem dX4_use_31 : decode cX4_use 31 = .ok (.aload_n 1, 1) := by decide +kernel
theorem dX4_use_32 : decode cX4_use 32 = .ok (.getfield 46, 3) := by decide +kernel
theorem dX4_use_35 : decode cX4_use 35 = .ok (.iconst 1, 1) := by decide +kernel
theorem dX4_use_36 : decode cX4_use 36 = .ok (.aload_n 1, 1) := by decide +kernel
theorem dX4_use_37 : decode cX4_use 37 = .ok (.getfield 46, 3) := by decide +kernel
theorem dX4_use_40 : decode cX4_use 40 = .ok (.getfield 31, 3) := by decide +kernel
theorem dX4_use_43 : decode cX4_use 43 = .ok (.invokevirtual 56, 3) := by decide +kernel
theorem dX4_use_46 : decode cX4_use 46 = .ok (.goto 29, 3) := by decide +kernel
theorem dX4_use_49 : decode cX4_use 49 = .ok (.aload_n 0, 1) := by decide +kernel
theorem dX4_use_50 : decode cX4_use 50 = .ok (.getfield 27, 3) := by decide +kernel
theorem dX4_use_53 : decode cX4_use 53 = .ok (.ifCond .eq 22, 3) := by decide +kernel
theorem dX4_use_56 : decode cX4_use 56 = .ok (.aload_n 0, 1) := by decide +kernel
theorem dX4_use_57 : decode cX4_use 57 = .ok (.getfield 23, 3) := by decide +kernel
theorem dX4_use_60 : decode cX4_use 60 = .ok (.aload_n 1, 1) := by decide +kernel
theorem dX4_use_61 : decode cX4_use 61 = .ok (.getfield 46, 3) := by decide +kernel
theorem dX4_use_64 : decode cX4_use 64 = .ok (.iconst 0, 1) := by decide +kernel
theorem dX4_use_65 : decode cX4_use 65 = .ok (.aload_n 1, 1) := by decide +kernel
theorem dX4_use_66 : decode cX4_use 66 = .ok (.getfield 46, 3) := by decide +kernel
theorem dX4_use_69 : decode cX4_use 69 = .ok (.getfield 31, 3) := by decide +kernel
theorem dX4_use_72 : decode cX4_use 72 = .ok (.invokevirtual 56, 3) := by decide +kernel
theorem dX4_use_75 : decode cX4_use 75 = .ok (.aload_n 0, 1) := by decide +kernel
theorem dX4_use_76 : decode cX4_use 76 = .ok (.getfield 27, 3) := by decide +kernel
theorem dX4_use_79 : decode cX4_use 79 = .ok (.ifCond .eq 21, 3) := by decide +kernel
theorem dX4_use_82 : decode cX4_use 82 = .ok (.aload_n 0, 1) := by decide +kernel
theorem dX4_use_83 : decode cX4_use 83 = .ok (.getfield 23, 3) := by decide +kernel
theorem dX4_use_86 : decode cX4_use 86 = .ok (.getfield 31, 3) := by decide +kernel
theorem dX4_use_89 : decode cX4_use 89 = .ok (.aload_n 0, 1) := by decide +kernel
theorem dX4_use_90 : decode cX4_use 90 = .ok (.getfield 60, 3) := by decide +kernel
theorem dX4_use_93 : decode cX4_use 93 = .ok (.if_icmp .lt 7, 3) := by decide +kernel
theorem dX4_use_96 : decode cX4_use 96 = .ok (.aload_n 0, 1) := by decide +kernel
theorem dX4_use_97 : decode cX4_use 97 = .ok (.invokevirtual 63, 3) := by decide +kernel
theorem dX4_use_100 : decode cX4_use 100 = .ok (.return_, 1) := by decide +kernel
theorem dX4_beginMessage_0 : decode cX4_beginMessage 0 = .ok (.aload_n 0, 1) := by decide +kernel
theorem dX4_beginMessage_1 : decode cX4_beginMessage 1 = .ok (.getfield 27, 3) := by decide +kernel
theorem dX4_beginMessage_4 : decode cX4_beginMessage 4 = .ok (.ifCond .eq 13, 3) := by decide +kernel
theorem dX4_beginMessage_7 : decode cX4_beginMessage 7 = .ok (.aload_n 0, 1) := by decide +kernel
theorem dX4_beginMessage_8 : decode cX4_beginMessage 8 = .ok (.dup, 1) := by decide +kernel
theorem dX4_beginMessage_9 : decode cX4_beginMessage 9 = .ok (.getfield 66, 3) := by decide +kernel
theorem dX4_beginMessage_12 : decode cX4_beginMessage 12 = .ok (.iconst 1, 1) := by decide +kernel
theorem dX4_beginMessage_13 : decode cX4_beginMessage 13 = .ok (.iadd, 1) := by decide +kernel
theorem dX4_beginMessage_14 : decode cX4_beginMessage 14 = .ok (.putfield 66, 3) := by decide +kernel
theorem dX4_beginMessage_17 : decode cX4_beginMessage 17 = .ok (.aload_n 0, 1) := by decide +kernel
theorem dX4_beginMessage_18 : decode cX4_beginMessage 18 = .ok (.iconst 1, 1) := by decide +kernel
theorem dX4_beginMessage_19 : decode cX4_beginMessage 19 = .ok (.putfield 27, 3) := by decide +kernel
theorem dX4_beginMessage_22 : decode cX4_beginMessage 22 = .ok (.aload_n 0, 1) := by decide +kernel
theorem dX4_beginMessage_23 : decode cX4_beginMessage 23 = .ok (.getfield 23, 3) := by decide +kernel
theorem dX4_beginMessage_26 : decode cX4_beginMessage 26 = .ok (.invokevirtual 69, 3) := by decide +kernel
theorem dX4_beginMessage_29 : decode cX4_beginMessage 29 = .ok (.aload_n 0, 1) := by decide +kernel
theorem dX4_beginMessage_30 : decode cX4_beginMessage 30 = .ok (.iload_n 1, 1) := by decide +kernel
theorem dX4_beginMessage_31 : decode cX4_beginMessage 31 = .ok (.putfield 60, 3) := by decide +kernel
theorem dX4_beginMessage_34 : decode cX4_beginMessage 34 = .ok (.return_, 1) := by decide +kernel
theorem dX4_endMessage_0 : decode cX4_endMessage 0 = .ok (.aload_n 0, 1) := by decide +kernel
theorem dX4_endMessage_1 : decode cX4_endMessage 1 = .ok (.iconst 0, 1) := by decide +kernel
theorem dX4_endMessage_2 : decode cX4_endMessage 2 = .ok (.putfield 27, 3) := by decide +kernel
theorem dX4_endMessage_5 : decode cX4_endMessage 5 = .ok (.aload_n 0, 1) := by decide +kernel
theorem dX4_endMessage_6 : decode cX4_endMessage 6 = .ok (.getfield 23, 3) := by decide +kernel
theorem dX4_endMessage_9 : decode cX4_endMessage 9 = .ok (.getfield 31, 3) := by decide +kernel
theorem dX4_endMessage_12 : decode cX4_endMessage 12 = .ok (.aload_n 0, 1) := by decide +kernel
theorem dX4_endMessage_13 : decode cX4_endMessage 13 = .ok (.getfield 60, 3) := by decide +kernel
theorem dX4_endMessage_16 : decode cX4_endMessage 16 = .ok (.if_icmp .gt 13, 3) := by decide +kernel
theorem dX4_endMessage_19 : decode cX4_endMessage 19 = .ok (.aload_n 0, 1) := by decide +kernel
theorem dX4_endMessage_20 : decode cX4_endMessage 20 = .ok (.getfield 14, 3) := by decide +kernel
theorem dX4_endMessage_23 : decode cX4_endMessage 23 = .ok (.invokevirtual 72, 3) := by decide +kernel
theorem dX4_endMessage_26 : decode cX4_endMessage 26 = .ok (.ifCond .eq 16, 3) := by decide +kernel
theorem dX4_endMessage_29 : decode cX4_endMessage 29 = .ok (.aload_n 0, 1) := by decide +kernel
theorem dX4_endMessage_30 : decode cX4_endMessage 30 = .ok (.dup, 1) := by decide +kernel
theorem dX4_endMessage_31 : decode cX4_endMessage 31 = .ok (.getfield 66, 3) := by decide +kernel
theorem dX4_endMessage_34 : decode cX4_endMessage 34 = .ok (.iconst 1, 1) := by decide +kernel
theorem dX4_endMessage_35 : decode cX4_endMessage 35 = .ok (.iadd, 1) := by decide +kernel
theorem dX4_endMessage_36 : decode cX4_endMessage 36 = .ok (.putfield 66, 3) := by decide +kernel
theorem dX4_endMessage_39 : decode cX4_endMessage 39 = .ok (.goto 14, 3) := by decide +kernel
theorem dX4_endMessage_42 : decode cX4_endMessage 42 = .ok (.aload_n 0, 1) := by decide +kernel
theorem dX4_endMessage_43 : decode cX4_endMessage 43 = .ok (.getfield 14, 3) := by decide +kernel
theorem dX4_endMessage_46 : decode cX4_endMessage 46 = .ok (.aload_n 0, 1) := by decide +kernel
theorem dX4_endMessage_47 : decode cX4_endMessage 47 = .ok (.getfield 23, 3) := by decide +kernel
theorem dX4_endMessage_50 : decode cX4_endMessage 50 = .ok (.invokevirtual 76, 3) := by decide +kernel
theorem dX4_endMessage_53 : decode cX4_endMessage 53 = .ok (.return_, 1) := by decide +kernel
theorem dX5_init_0 : decode cX5_init 0 = .ok (.aload_n 0, 1) := by decide +kernel
theorem dX5_init_1 : decode cX5_init 1 = .ok (.invokespecial 1, 3) := by decide +kernel
theorem dX5_init_4 : decode cX5_init 4 = .ok (.aload_n 0, 1) := by decide +kernel
theorem dX5_init_5 : decode cX5_init 5 = .ok (.iload_n 1, 1) := by decide +kernel
theorem dX5_init_6 : decode cX5_init 6 = .ok (.newarray .int, 2) := by decide +kernel
theorem dX5_init_8 : decode cX5_init 8 = .ok (.putfield 7, 3) := by decide +kernel
theorem dX5_init_11 : decode cX5_init 11 = .ok (.return_, 1) := by decide +kernel
theorem dX5_clear_0 : decode cX5_clear 0 = .ok (.aload_n 0, 1) := by decide +kernel
theorem dX5_clear_1 : decode cX5_clear 1 = .ok (.iconst 0, 1) := by decide +kernel
theorem dX5_clear_2 : decode cX5_clear 2 = .ok (.putfield 13, 3) := by decide +kernel
theorem dX5_clear_5 : decode cX5_clear 5 = .ok (.return_, 1) := by decide +kernel
theorem dX5_isFull_0 : decode cX5_isFull 0 = .ok (.aload_n 0, 1) := by decide +kernel
theorem dX5_isFull_1 : decode cX5_isFull 1 = .ok (.getfield 13, 3) := by decide +kernel
theorem dX5_isFull_4 : decode cX5_isFull 4 = .ok (.aload_n 0, 1) := by decide +kernel
theorem dX5_isFull_5 : decode cX5_isFull 5 = .ok (.getfield 7, 3) := by decide +kernel
theorem dX5_isFull_8 : decode cX5_isFull 8 = .ok (.arraylength, 1) := by decide +kernel
theorem dX5_isFull_9 : decode cX5_isFull 9 = .ok (.if_icmp .lt 7, 3) := by decide +kernel
theorem dX5_isFull_12 : decode cX5_isFull 12 = .ok (.iconst 1, 1) := by decide +kernel
theorem dX5_isFull_13 : decode cX5_isFull 13 = .ok (.goto 4, 3) := by decide +kernel
theorem dX5_isFull_16 : decode cX5_isFull 16 = .ok (.iconst 0, 1) := by decide +kernel
theorem dX5_isFull_17 : decode cX5_isFull 17 = .ok (.ireturn, 1) := by decide +kernel
theorem dX5_has_0 : decode cX5_has 0 = .ok (.iload_n 1, 1) := by decide +kernel
theorem dX5_has_1 : decode cX5_has 1 = .ok (.ifCond .lt 15, 3) := by decide +kernel
theorem dX5_has_4 : decode cX5_has 4 = .ok (.iload_n 1, 1) := by decide +kernel
theorem dX5_has_5 : decode cX5_has 5 = .ok (.aload_n 0, 1) := by decide +kernel
theorem dX5_has_6 : decode cX5_has 6 = .ok (.getfield 13, 3) := by decide +kernel
theorem dX5_has_9 : decode cX5_has 9 = .ok (.if_icmp .ge 7, 3) := by decide +kernel
theorem dX5_has_12 : decode cX5_has 12 = .ok (.iconst 1, 1) := by decide +kernel
theorem dX5_has_13 : decode cX5_has 13 = .ok (.goto 4, 3) := by decide +kernel
theorem dX5_has_16 : decode cX5_has 16 = .ok (.iconst 0, 1) := by decide +kernel
theorem dX5_has_17 : decode cX5_has 17 = .ok (.ireturn, 1) := by decide +kernel
theorem dX5_at_0 : decode cX5_at 0 = .ok (.iload_n 1, 1) := by decide +kernel
theorem dX5_at_1 : decode cX5_at 1 = .ok (.ifCond .lt 20, 3) := by decide +kernel
theorem dX5_at_4 : decode cX5_at 4 = .ok (.iload_n 1, 1) := by decide +kernel
theorem dX5_at_5 : decode cX5_at 5 = .ok (.aload_n 0, 1) := by decide +kernel
theorem dX5_at_6 : decode cX5_at 6 = .ok (.getfield 13, 3) := by decide +kernel
theorem dX5_at_9 : decode cX5_at 9 = .ok (.if_icmp .ge 12, 3) := by decide +kernel
theorem dX5_at_12 : decode cX5_at 12 = .ok (.aload_n 0, 1) := by decide +kernel
theorem dX5_at_13 : decode cX5_at 13 = .ok (.getfield 7, 3) := by decide +kernel
theorem dX5_at_16 : decode cX5_at 16 = .ok (.iload_n 1, 1) := by decide +kernel
theorem dX5_at_17 : decode cX5_at 17 = .ok (.iaload, 1) := by decide +kernel
theorem dX5_at_18 : decode cX5_at 18 = .ok (.goto 4, 3) := by decide +kernel
theorem dX5_at_21 : decode cX5_at 21 = .ok (.iconst 0, 1) := by decide +kernel
theorem dX5_at_22 : decode cX5_at 22 = .ok (.ireturn, 1) := by decide +kernel
theorem dX5_add_0 : decode cX5_add 0 = .ok (.aload_n 0, 1) := by decide +kernel
theorem dX5_add_1 : decode cX5_add 1 = .ok (.getfield 13, 3) := by decide +kernel
theorem dX5_add_4 : decode cX5_add 4 = .ok (.aload_n 0, 1) := by decide +kernel
theorem dX5_add_5 : decode cX5_add 5 = .ok (.getfield 7, 3) := by decide +kernel
theorem dX5_add_8 : decode cX5_add 8 = .ok (.arraylength, 1) := by decide +kernel
theorem dX5_add_9 : decode cX5_add 9 = .ok (.if_icmp .ge 23, 3) := by decide +kernel
theorem dX5_add_12 : decode cX5_add 12 = .ok (.aload_n 0, 1) := by decide +kernel
theorem dX5_add_13 : decode cX5_add 13 = .ok (.getfield 7, 3) := by decide +kernel
theorem dX5_add_16 : decode cX5_add 16 = .ok (.aload_n 0, 1) := by decide +kernel
theorem dX5_add_17 : decode cX5_add 17 = .ok (.getfield 13, 3) := by decide +kernel
theorem dX5_add_20 : decode cX5_add 20 = .ok (.iload_n 1, 1) := by decide +kernel
theorem dX5_add_21 : decode cX5_add 21 = .ok (.iastore, 1) := by decide +kernel
theorem dX5_add_22 : decode cX5_add 22 = .ok (.aload_n 0, 1) := by decide +kernel
theorem dX5_add_23 : decode cX5_add 23 = .ok (.dup, 1) := by decide +kernel
theorem dX5_add_24 : decode cX5_add 24 = .ok (.getfield 13, 3) := by decide +kernel
theorem dX5_add_27 : decode cX5_add 27 = .ok (.iconst 1, 1) := by decide +kernel
theorem dX5_add_28 : decode cX5_add 28 = .ok (.iadd, 1) := by decide +kernel
theorem dX5_add_29 : decode cX5_add 29 = .ok (.putfield 13, 3) := by decide +kernel
theorem dX5_add_32 : decode cX5_add 32 = .ok (.return_, 1) := by decide +kernel
theorem dX5_addAll_0 : decode cX5_addAll 0 = .ok (.iload_n 2, 1) := by decide +kernel
theorem dX5_addAll_1 : decode cX5_addAll 1 = .ok (.istore 4, 2) := by decide +kernel
theorem dX5_addAll_3 : decode cX5_addAll 3 = .ok (.iload 4, 2) := by decide +kernel
theorem dX5_addAll_5 : decode cX5_addAll 5 = .ok (.iload_n 3, 1) := by decide +kernel
theorem dX5_addAll_6 : decode cX5_addAll 6 = .ok (.if_icmp .ge 19, 3) := by decide +kernel
theorem dX5_addAll_9 : decode cX5_addAll 9 = .ok (.aload_n 0, 1) := by decide +kernel
theorem dX5_addAll_10 : decode cX5_addAll 10 = .ok (.aload_n 1, 1) := by decide +kernel
theorem dX5_addAll_11 : decode cX5_addAll 11 = .ok (.iload 4, 2) := by decide +kernel
theorem dX5_addAll_13 : decode cX5_addAll 13 = .ok (.invokevirtual 17, 3) := by decide +kernel
theorem dX5_addAll_16 : decode cX5_addAll 16 = .ok (.invokevirtual 21, 3) := by decide +kernel
theorem dX5_addAll_19 : decode cX5_addAll 19 = .ok (.iinc 4 1, 3) := by decide +kernel
theorem dX5_addAll_22 : decode cX5_addAll 22 = .ok (.goto (-19), 3) := by decide +kernel
theorem dX5_addAll_25 : decode cX5_addAll 25 = .ok (.return_, 1) := by decide +kernel
theorem dX5_become_0 : decode cX5_become 0 = .ok (.aload_n 0, 1) := by decide +kernel
theorem dX5_become_1 : decode cX5_become 1 = .ok (.aload_n 1, 1) := by decide +kernel
theorem dX5_become_2 : decode cX5_become 2 = .ok (.getfield 13, 3) := by decide +kernel
theorem dX5_become_5 : decode cX5_become 5 = .ok (.aload_n 0, 1) := by decide +kernel
theorem dX5_become_6 : decode cX5_become 6 = .ok (.getfield 7, 3) := by decide +kernel
theorem dX5_become_9 : decode cX5_become 9 = .ok (.arraylength, 1) := by decide +kernel
theorem dX5_become_10 : decode cX5_become 10 = .ok (.invokestatic 25, 3) := by decide +kernel
theorem dX5_become_13 : decode cX5_become 13 = .ok (.putfield 13, 3) := by decide +kernel
theorem dX5_become_16 : decode cX5_become 16 = .ok (.aload_n 1, 1) := by decide +kernel
theorem dX5_become_17 : decode cX5_become 17 = .ok (.getfield 7, 3) := by decide +kernel
theorem dX5_become_20 : decode cX5_become 20 = .ok (.iconst 0, 1) := by decide +kernel
theorem dX5_become_21 : decode cX5_become 21 = .ok (.aload_n 0, 1) := by decide +kernel
theorem dX5_become_22 : decode cX5_become 22 = .ok (.getfield 7, 3) := by decide +kernel
theorem dX5_become_25 : decode cX5_become 25 = .ok (.iconst 0, 1) := by decide +kernel
theorem dX5_become_26 : decode cX5_become 26 = .ok (.aload_n 0, 1) := by decide +kernel
theorem dX5_become_27 : decode cX5_become 27 = .ok (.getfield 13, 3) := by decide +kernel
theorem dX5_become_30 : decode cX5_become 30 = .ok (.invokestatic 31, 3) := by decide +kernel
theorem dX5_become_33 : decode cX5_become 33 = .ok (.return_, 1) := by decide +kernel
theorem dX6_init_0 : decode cX6_init 0 = .ok (.aload_n 0, 1) := by decide +kernel
theorem dX6_init_1 : decode cX6_init 1 = .ok (.invokespecial 3, 3) := by decide +kernel
theorem dX6_init_4 : decode cX6_init 4 = .ok (.aload_n 0, 1) := by decide +kernel
theorem dX6_init_5 : decode cX6_init 5 = .ok (.bipush 6, 2) := by decide +kernel
theorem dX6_init_7 : decode cX6_init 7 = .ok (.anewarray 9, 3) := by decide +kernel
theorem dX6_init_10 : decode cX6_init 10 = .ok (.putfield 11, 3) := by decide +kernel
theorem dX6_init_13 : decode cX6_init 13 = .ok (.iconst 0, 1) := by decide +kernel
theorem dX6_init_14 : decode cX6_init 14 = .ok (.istore_n 2, 1) := by decide +kernel
theorem dX6_init_15 : decode cX6_init 15 = .ok (.iload_n 2, 1) := by decide +kernel
theorem dX6_init_16 : decode cX6_init 16 = .ok (.bipush 6, 2) := by decide +kernel
theorem dX6_init_18 : decode cX6_init 18 = .ok (.if_icmp .ge 23, 3) := by decide +kernel
theorem dX6_init_21 : decode cX6_init 21 = .ok (.aload_n 0, 1) := by decide +kernel
theorem dX6_init_22 : decode cX6_init 22 = .ok (.getfield 11, 3) := by decide +kernel
theorem dX6_init_25 : decode cX6_init 25 = .ok (.iload_n 2, 1) := by decide +kernel
theorem dX6_init_26 : decode cX6_init 26 = .ok (.new 9, 3) := by decide +kernel
theorem dX6_init_29 : decode cX6_init 29 = .ok (.dup, 1) := by decide +kernel
theorem dX6_init_30 : decode cX6_init 30 = .ok (.iload_n 1, 1) := by decide +kernel
theorem dX6_init_31 : decode cX6_init 31 = .ok (.invokespecial 17, 3) := by decide +kernel
theorem dX6_init_34 : decode cX6_init 34 = .ok (.aastore, 1) := by decide +kernel
theorem dX6_init_35 : decode cX6_init 35 = .ok (.iinc 2 1, 3) := by decide +kernel
theorem dX6_init_38 : decode cX6_init 38 = .ok (.goto (-23), 3) := by decide +kernel
theorem dX6_init_41 : decode cX6_init 41 = .ok (.return_, 1) := by decide +kernel
theorem dX6_isFull_0 : decode cX6_isFull 0 = .ok (.aload_n 0, 1) := by decide +kernel
theorem dX6_isFull_1 : decode cX6_isFull 1 = .ok (.getfield 20, 3) := by decide +kernel
theorem dX6_isFull_4 : decode cX6_isFull 4 = .ok (.bipush 6, 2) := by decide +kernel
theorem dX6_isFull_6 : decode cX6_isFull 6 = .ok (.if_icmp .lt 7, 3) := by decide +kernel
theorem dX6_isFull_9 : decode cX6_isFull 9 = .ok (.iconst 1, 1) := by decide +kernel
theorem dX6_isFull_10 : decode cX6_isFull 10 = .ok (.goto 4, 3) := by decide +kernel
theorem dX6_isFull_13 : decode cX6_isFull 13 = .ok (.iconst 0, 1) := by decide +kernel
theorem dX6_isFull_14 : decode cX6_isFull 14 = .ok (.ireturn, 1) := by decide +kernel
theorem dX6_oldest_0 : decode cX6_oldest 0 = .ok (.aload_n 0, 1) := by decide +kernel
theorem dX6_oldest_1 : decode cX6_oldest 1 = .ok (.getfield 20, 3) := by decide +kernel
theorem dX6_oldest_4 : decode cX6_oldest 4 = .ok (.ifCond .ne 7, 3) := by decide +kernel
theorem dX6_oldest_7 : decode cX6_oldest 7 = .ok (.aconst_null, 1) := by decide +kernel
theorem dX6_oldest_8 : decode cX6_oldest 8 = .ok (.goto 12, 3) := by decide +kernel
theorem dX6_oldest_11 : decode cX6_oldest 11 = .ok (.aload_n 0, 1) := by decide +kernel
theorem dX6_oldest_12 : decode cX6_oldest 12 = .ok (.getfield 11, 3) := by decide +kernel
theorem dX6_oldest_15 : decode cX6_oldest 15 = .ok (.aload_n 0, 1) := by decide +kernel
theorem dX6_oldest_16 : decode cX6_oldest 16 = .ok (.getfield 24, 3) := by decide +kernel
theorem dX6_oldest_19 : decode cX6_oldest 19 = .ok (.aaload, 1) := by decide +kernel
theorem dX6_oldest_20 : decode cX6_oldest 20 = .ok (.areturn, 1) := by decide +kernel
theorem dX6_append_0 : decode cX6_append 0 = .ok (.aload_n 0, 1) := by decide +kernel
theorem dX6_append_1 : decode cX6_append 1 = .ok (.invokevirtual 27, 3) := by decide +kernel
theorem dX6_append_4 : decode cX6_append 4 = .ok (.ifCond .ne 34, 3) := by decide +kernel
theorem dX6_append_7 : decode cX6_append 7 = .ok (.aload_n 0, 1) := by decide +kernel
theorem dX6_append_8 : decode cX6_append 8 = .ok (.getfield 11, 3) := by decide +kernel
theorem dX6_append_11 : decode cX6_append 11 = .ok (.aload_n 0, 1) := by decide +kernel
theorem dX6_append_12 : decode cX6_append 12 = .ok (.getfield 24, 3) := by decide +kernel
theorem dX6_append_15 : decode cX6_append 15 = .ok (.aload_n 0, 1) := by decide +kernel
theorem dX6_append_16 : decode cX6_append 16 = .ok (.getfield 20, 3) := by decide +kernel
theorem dX6_append_19 : decode cX6_append 19 = .ok (.iadd, 1) := by decide +kernel
theorem dX6_append_20 : decode cX6_append 20 = .ok (.bipush 6, 2) := by decide +kernel
theorem dX6_append_22 : decode cX6_append 22 = .ok (.irem, 1) := by decide +kernel
theorem dX6_append_23 : decode cX6_append 23 = .ok (.aaload, 1) := by decide +kernel
theorem dX6_append_24 : decode cX6_append 24 = .ok (.aload_n 1, 1) := by decide +kernel
theorem dX6_append_25 : decode cX6_append 25 = .ok (.invokevirtual 31, 3) := by decide +kernel
theorem dX6_append_28 : decode cX6_append 28 = .ok (.aload_n 0, 1) := by decide +kernel
theorem dX6_append_29 : decode cX6_append 29 = .ok (.dup, 1) := by decide +kernel
theorem dX6_append_30 : decode cX6_append 30 = .ok (.getfield 20, 3) := by decide +kernel
theorem dX6_append_33 : decode cX6_append 33 = .ok (.iconst 1, 1) := by decide +kernel
theorem dX6_append_34 : decode cX6_append 34 = .ok (.iadd, 1) := by decide +kernel
theorem dX6_append_35 : decode cX6_append 35 = .ok (.putfield 20, 3) := by decide +kernel
theorem dX6_append_38 : decode cX6_append 38 = .ok (.return_, 1) := by decide +kernel
theorem dX6_dropOldest_0 : decode cX6_dropOldest 0 = .ok (.aload_n 0, 1) := by decide +kernel
theorem dX6_dropOldest_1 : decode cX6_dropOldest 1 = .ok (.getfield 20, 3) := by decide +kernel
theorem dX6_dropOldest_4 : decode cX6_dropOldest 4 = .ok (.ifCond .le 26, 3) := by decide +kernel
theorem dX6_dropOldest_7 : decode cX6_dropOldest 7 = .ok (.aload_n 0, 1) := by decide +kernel
theorem dX6_dropOldest_8 : decode cX6_dropOldest 8 = .ok (.aload_n 0, 1) := by decide +kernel
theorem dX6_dropOldest_9 : decode cX6_dropOldest 9 = .ok (.getfield 24, 3) := by decide +kernel
theorem dX6_dropOldest_12 : decode cX6_dropOldest 12 = .ok (.iconst 1, 1) := by decide +kernel
theorem dX6_dropOldest_13 : decode cX6_dropOldest 13 = .ok (.iadd, 1) := by decide +kernel
theorem dX6_dropOldest_14 : decode cX6_dropOldest 14 = .ok (.bipush 6, 2) := by decide +kernel
theorem dX6_dropOldest_16 : decode cX6_dropOldest 16 = .ok (.irem, 1) := by decide +kernel
theorem dX6_dropOldest_17 : decode cX6_dropOldest 17 = .ok (.putfield 24, 3) := by decide +kernel
theorem dX6_dropOldest_20 : decode cX6_dropOldest 20 = .ok (.aload_n 0, 1) := by decide +kernel
theorem dX6_dropOldest_21 : decode cX6_dropOldest 21 = .ok (.dup, 1) := by decide +kernel
theorem dX6_dropOldest_22 : decode cX6_dropOldest 22 = .ok (.getfield 20, 3) := by decide +kernel
theorem dX6_dropOldest_25 : decode cX6_dropOldest 25 = .ok (.iconst 1, 1) := by decide +kernel
theorem dX6_dropOldest_26 : decode cX6_dropOldest 26 = .ok (.isub, 1) := by decide +kernel
theorem dX6_dropOldest_27 : decode cX6_dropOldest 27 = .ok (.putfield 20, 3) := by decide +kernel
theorem dX6_dropOldest_30 : decode cX6_dropOldest 30 = .ok (.return_, 1) := by decide +kernel
theorem dX7_init_0 : decode cX7_init 0 = .ok (.aload_n 0, 1) := by decide +kernel
theorem dX7_init_1 : decode cX7_init 1 = .ok (.invokespecial 3, 3) := by decide +kernel
theorem dX7_init_4 : decode cX7_init 4 = .ok (.aload_n 0, 1) := by decide +kernel
theorem dX7_init_5 : decode cX7_init 5 = .ok (.new 9, 3) := by decide +kernel
theorem dX7_init_8 : decode cX7_init 8 = .ok (.dup, 1) := by decide +kernel
theorem dX7_init_9 : decode cX7_init 9 = .ok (.bipush 40, 2) := by decide +kernel
theorem dX7_init_11 : decode cX7_init 11 = .ok (.invokespecial 11, 3) := by decide +kernel
theorem dX7_init_14 : decode cX7_init 14 = .ok (.putfield 14, 3) := by decide +kernel
theorem dX7_init_17 : decode cX7_init 17 = .ok (.aload_n 0, 1) := by decide +kernel
theorem dX7_init_18 : decode cX7_init 18 = .ok (.new 20, 3) := by decide +kernel
theorem dX7_init_21 : decode cX7_init 21 = .ok (.dup, 1) := by decide +kernel
theorem dX7_init_22 : decode cX7_init 22 = .ok (.bipush 40, 2) := by decide +kernel
theorem dX7_init_24 : decode cX7_init 24 = .ok (.invokespecial 22, 3) := by decide +kernel
theorem dX7_init_27 : decode cX7_init 27 = .ok (.putfield 23, 3) := by decide +kernel
theorem dX7_init_30 : decode cX7_init 30 = .ok (.aload_n 0, 1) := by decide +kernel
theorem dX7_init_31 : decode cX7_init 31 = .ok (.new 9, 3) := by decide +kernel
theorem dX7_init_34 : decode cX7_init 34 = .ok (.dup, 1) := by decide +kernel
theorem dX7_init_35 : decode cX7_init 35 = .ok (.bipush 41, 2) := by decide +kernel
theorem dX7_init_37 : decode cX7_init 37 = .ok (.invokespecial 11, 3) := by decide +kernel
theorem dX7_init_40 : decode cX7_init 40 = .ok (.putfield 27, 3) := by decide +kernel
theorem dX7_init_43 : decode cX7_init 43 = .ok (.aload_n 0, 1) := by decide +kernel
theorem dX7_init_44 : decode cX7_init 44 = .ok (.new 30, 3) := by decide +kernel
theorem dX7_init_47 : decode cX7_init 47 = .ok (.dup, 1) := by decide +kernel
theorem dX7_init_48 : decode cX7_init 48 = .ok (.invokespecial 32, 3) := by decide +kernel
theorem dX7_init_51 : decode cX7_init 51 = .ok (.putfield 33, 3) := by decide +kernel
theorem dX7_init_54 : decode cX7_init 54 = .ok (.aload_n 0, 1) := by decide +kernel
theorem dX7_init_55 : decode cX7_init 55 = .ok (.iconst 1, 1) := by decide +kernel
theorem dX7_init_56 : decode cX7_init 56 = .ok (.putfield 37, 3) := by decide +kernel
theorem dX7_init_59 : decode cX7_init 59 = .ok (.return_, 1) := by decide +kernel
theorem dX7_bytesLeft_0 : decode cX7_bytesLeft 0 = .ok (.aload_n 0, 1) := by decide +kernel
theorem dX7_bytesLeft_1 : decode cX7_bytesLeft 1 = .ok (.getfield 27, 3) := by decide +kernel
theorem dX7_bytesLeft_4 : decode cX7_bytesLeft 4 = .ok (.getfield 41, 3) := by decide +kernel
theorem dX7_bytesLeft_7 : decode cX7_bytesLeft 7 = .ok (.aload_n 0, 1) := by decide +kernel
theorem dX7_bytesLeft_8 : decode cX7_bytesLeft 8 = .ok (.getfield 45, 3) := by decide +kernel
theorem dX7_bytesLeft_11 : decode cX7_bytesLeft 11 = .ok (.isub, 1) := by decide +kernel
theorem dX7_bytesLeft_12 : decode cX7_bytesLeft 12 = .ok (.ireturn, 1) := by decide +kernel
theorem dX7_bytesUnacknowledged_0 : decode cX7_bytesUnacknowledged 0 = .ok (.aload_n 0, 1) := by decide +kernel
theorem dX7_bytesUnacknowledged_1 : decode cX7_bytesUnacknowledged 1 = .ok (.getfield 48, 3) := by decide +kernel
theorem dX7_bytesUnacknowledged_4 : decode cX7_bytesUnacknowledged 4 = .ok (.ifCond .eq 16, 3) := by decide +kernel
theorem dX7_bytesUnacknowledged_7 : decode cX7_bytesUnacknowledged 7 = .ok (.aload_n 0, 1) := by decide +kernel
theorem dX7_bytesUnacknowledged_8 : decode cX7_bytesUnacknowledged 8 = .ok (.getfield 33, 3) := by decide +kernel
theorem dX7_bytesUnacknowledged_11 : decode cX7_bytesUnacknowledged 11 = .ok (.getfield 51, 3) := by decide +kernel
theorem dX7_bytesUnacknowledged_14 : decode cX7_bytesUnacknowledged 14 = .ok (.getfield 41, 3) := by decide +kernel
theorem dX7_bytesUnacknowledged_17 : decode cX7_bytesUnacknowledged 17 = .ok (.goto 4, 3) := by decide +kernel
theorem dX7_bytesUnacknowledged_20 : decode cX7_bytesUnacknowledged 20 = .ok (.iconst 0, 1) := by decide +kernel
theorem dX7_bytesUnacknowledged_21 : decode cX7_bytesUnacknowledged 21 = .ok (.ireturn, 1) := by decide +kernel
theorem dX7_loaded_0 : decode cX7_loaded 0 = .ok (.aload_n 0, 1) := by decide +kernel
theorem dX7_loaded_1 : decode cX7_loaded 1 = .ok (.getfield 48, 3) := by decide +kernel
theorem dX7_loaded_4 : decode cX7_loaded 4 = .ok (.ifCond .ne 25, 3) := by decide +kernel
theorem dX7_loaded_7 : decode cX7_loaded 7 = .ok (.aload_n 0, 1) := by decide +kernel
theorem dX7_loaded_8 : decode cX7_loaded 8 = .ok (.invokevirtual 54, 3) := by decide +kernel
theorem dX7_loaded_11 : decode cX7_loaded 11 = .ok (.ifCond .ne 7, 3) := by decide +kernel
theorem dX7_loaded_14 : decode cX7_loaded 14 = .ok (.aload_n 0, 1) := by decide +kernel
theorem dX7_loaded_15 : decode cX7_loaded 15 = .ok (.invokevirtual 58, 3) := by decide +kernel
theorem dX7_loaded_18 : decode cX7_loaded 18 = .ok (.aload_n 0, 1) := by decide +kernel
theorem dX7_loaded_19 : decode cX7_loaded 19 = .ok (.invokevirtual 54, 3) := by decide +kernel
theorem dX7_loaded_22 : decode cX7_loaded 22 = .ok (.ifCond .le 7, 3) := by decide +kernel
theorem dX7_loaded_25 : decode cX7_loaded 25 = .ok (.aload_n 0, 1) := by decide +kernel
theorem dX7_loaded_26 : decode cX7_loaded 26 = .ok (.invokevirtual 61, 3) := by decide +kernel
theorem dX7_loaded_29 : decode cX7_loaded 29 = .ok (.aload_n 0, 1) := by decide +kernel
theorem dX7_loaded_30 : decode cX7_loaded 30 = .ok (.getfield 48, 3) := by decide +kernel
theorem dX7_loaded_33 : decode cX7_loaded 33 = .ok (.ifCond .eq 10, 3) := by decide +kernel
theorem dX7_loaded_36 : decode cX7_loaded 36 = .ok (.aload_n 0, 1) := by decide +kernel
theorem dX7_loaded_37 : decode cX7_loaded 37 = .ok (.getfield 33, 3) := by decide +kernel
theorem dX7_loaded_40 : decode cX7_loaded 40 = .ok (.goto 4, 3) := by decide +kernel
theorem dX7_loaded_43 : decode cX7_loaded 43 = .ok (.aconst_null, 1) := by decide +kernel
theorem dX7_loaded_44 : decode cX7_loaded 44 = .ok (.areturn, 1) := by decide +kernel
theorem dX7_acknowledge_0 : decode cX7_acknowledge 0 = .ok (.aload_n 0, 1) := by decide +kernel
theorem dX7_acknowledge_1 : decode cX7_acknowledge 1 = .ok (.iconst 0, 1) := by decide +kernel
theorem dX7_acknowledge_2 : decode cX7_acknowledge 2 = .ok (.putfield 48, 3) := by decide +kernel
theorem dX7_acknowledge_5 : decode cX7_acknowledge 5 = .ok (.return_, 1) := by decide +kernel
theorem dX7_beginMessage_0 : decode cX7_beginMessage 0 = .ok (.aload_n 0, 1) := by decide +kernel
theorem dX7_beginMessage_1 : decode cX7_beginMessage 1 = .ok (.getfield 23, 3) := by decide +kernel
theorem dX7_beginMessage_4 : decode cX7_beginMessage 4 = .ok (.invokevirtual 64, 3) := by decide +kernel
theorem dX7_beginMessage_7 : decode cX7_beginMessage 7 = .ok (.astore_n 1, 1) := by decide +kernel
theorem dX7_beginMessage_8 : decode cX7_beginMessage 8 = .ok (.aload_n 1, 1) := by decide +kernel
theorem dX7_beginMessage_9 : decode cX7_beginMessage 9 = .ok (.ifnull 46, 3) := by decide +kernel
theorem dX7_beginMessage_12 : decode cX7_beginMessage 12 = .ok (.aload_n 0, 1) := by decide +kernel
theorem dX7_beginMessage_13 : decode cX7_beginMessage 13 = .ok (.getfield 27, 3) := by decide +kernel
theorem dX7_beginMessage_16 : decode cX7_beginMessage 16 = .ok (.invokevirtual 68, 3) := by decide +kernel
theorem dX7_beginMessage_19 : decode cX7_beginMessage 19 = .ok (.aload_n 0, 1) := by decide +kernel
theorem dX7_beginMessage_20 : decode cX7_beginMessage 20 = .ok (.getfield 27, 3) := by decide +kernel
theorem dX7_beginMessage_23 : decode cX7_beginMessage 23 = .ok (.aload_n 1, 1) := by decide +kernel
theorem dX7_beginMessage_24 : decode cX7_beginMessage 24 = .ok (.getfield 41, 3) := by decide +kernel
theorem dX7_beginMessage_27 : decode cX7_beginMessage 27 = .ok (.invokevirtual 71, 3) := by decide +kernel
theorem dX7_beginMessage_30 : decode cX7_beginMessage 30 = .ok (.aload_n 0, 1) := by decide +kernel
theorem dX7_beginMessage_31 : decode cX7_beginMessage 31 = .ok (.getfield 27, 3) := by decide +kernel
theorem dX7_beginMessage_34 : decode cX7_beginMessage 34 = .ok (.aload_n 1, 1) := by decide +kernel
theorem dX7_beginMessage_35 : decode cX7_beginMessage 35 = .ok (.iconst 0, 1) := by decide +kernel
theorem dX7_beginMessage_36 : decode cX7_beginMessage 36 = .ok (.aload_n 1, 1) := by decide +kernel
theorem dX7_beginMessage_37 : decode cX7_beginMessage 37 = .ok (.getfield 41, 3) := by decide +kernel
theorem dX7_beginMessage_40 : decode cX7_beginMessage 40 = .ok (.invokevirtual 74, 3) := by decide +kernel
theorem dX7_beginMessage_43 : decode cX7_beginMessage 43 = .ok (.aload_n 0, 1) := by decide +kernel
theorem dX7_beginMessage_44 : decode cX7_beginMessage 44 = .ok (.iconst 0, 1) := by decide +kernel
theorem dX7_beginMessage_45 : decode cX7_beginMessage 45 = .ok (.putfield 45, 3) := by decide +kernel
theorem dX7_beginMessage_48 : decode cX7_beginMessage 48 = .ok (.aload_n 0, 1) := by decide +kernel
theorem dX7_beginMessage_49 : decode cX7_beginMessage 49 = .ok (.getfield 23, 3) := by decide +kernel
theorem dX7_beginMessage_52 : decode cX7_beginMessage 52 = .ok (.invokevirtual 78, 3) := by decide +kernel
theorem dX7_beginMessage_55 : decode cX7_beginMessage 55 = .ok (.return_, 1) := by decide +kernel
theorem dX7_makeFrame_0 : decode cX7_makeFrame 0 = .ok (.aload_n 0, 1) := by decide +kernel
theorem dX7_makeFrame_1 : decode cX7_makeFrame 1 = .ok (.invokevirtual 54, 3) := by decide +kernel
theorem dX7_makeFrame_4 : decode cX7_makeFrame 4 = .ok (.aload_n 0, 1) := by decide +kernel
theorem dX7_makeFrame_5 : decode cX7_makeFrame 5 = .ok (.getfield 37, 3) := by decide +kernel
theorem dX7_makeFrame_8 : decode cX7_makeFrame 8 = .ok (.ifCond .eq 8, 3) := by decide +kernel
theorem dX7_makeFrame_11 : decode cX7_makeFrame 11 = .ok (.bipush 9, 2) := by decide +kernel
theorem dX7_makeFrame_13 : decode cX7_makeFrame 13 = .ok (.goto 5, 3) := by decide +kernel
theorem dX7_makeFrame_16 : decode cX7_makeFrame 16 = .ok (.bipush 13, 2) := by decide +kernel
theorem dX7_makeFrame_18 : decode cX7_makeFrame 18 = .ok (.invokestatic 81, 3) := by decide +kernel
theorem dX7_makeFrame_21 : decode cX7_makeFrame 21 = .ok (.istore_n 1, 1) := by decide +kernel
theorem dX7_makeFrame_22 : decode cX7_makeFrame 22 = .ok (.aload_n 0, 1) := by decide +kernel
theorem dX7_makeFrame_23 : decode cX7_makeFrame 23 = .ok (.dup, 1) := by decide +kernel
theorem dX7_makeFrame_24 : decode cX7_makeFrame 24 = .ok (.getfield 87, 3) := by decide +kernel
theorem dX7_makeFrame_27 : decode cX7_makeFrame 27 = .ok (.iconst 1, 1) := by decide +kernel
theorem dX7_makeFrame_28 : decode cX7_makeFrame 28 = .ok (.ixor, 1) := by decide +kernel
theorem dX7_makeFrame_29 : decode cX7_makeFrame 29 = .ok (.putfield 87, 3) := by decide +kernel
theorem dX7_makeFrame_32 : decode cX7_makeFrame 32 = .ok (.aload_n 0, 1) := by decide +kernel
theorem dX7_makeFrame_33 : decode cX7_makeFrame 33 = .ok (.getfield 33, 3) := by decide +kernel
theorem dX7_makeFrame_36 : decode cX7_makeFrame 36 = .ok (.aload_n 0, 1) := by decide +kernel
theorem dX7_makeFrame_37 : decode cX7_makeFrame 37 = .ok (.getfield 37, 3) := by decide +kernel
theorem dX7_makeFrame_40 : decode cX7_makeFrame 40 = .ok (.ifCond .eq 7, 3) := by decide +kernel
theorem dX7_makeFrame_43 : decode cX7_makeFrame 43 = .ok (.iconst 3, 1) := by decide +kernel
theorem dX7_makeFrame_44 : decode cX7_makeFrame 44 = .ok (.goto 4, 3) := by decide +kernel
theorem dX7_makeFrame_47 : decode cX7_makeFrame 47 = .ok (.iconst 4, 1) := by decide +kernel
theorem dX7_makeFrame_48 : decode cX7_makeFrame 48 = .ok (.putfield 90, 3) := by decide +kernel
theorem dX7_makeFrame_51 : decode cX7_makeFrame 51 = .ok (.aload_n 0, 1) := by decide +kernel
theorem dX7_makeFrame_52 : decode cX7_makeFrame 52 = .ok (.getfield 33, 3) := by decide +kernel
theorem dX7_makeFrame_55 : decode cX7_makeFrame 55 = .ok (.aload_n 0, 1) := by decide +kernel
theorem dX7_makeFrame_56 : decode cX7_makeFrame 56 = .ok (.getfield 87, 3) := by decide +kernel
theorem dX7_makeFrame_59 : decode cX7_makeFrame 59 = .ok (.putfield 93, 3) := by decide +kernel
theorem dX7_makeFrame_62 : decode cX7_makeFrame 62 = .ok (.aload_n 0, 1) := by decide +kernel
theorem dX7_makeFrame_63 : decode cX7_makeFrame 63 = .ok (.getfield 33, 3) := by decide +kernel
theorem dX7_makeFrame_66 : decode cX7_makeFrame 66 = .ok (.aload_n 0, 1) := by decide +kernel
theorem dX7_makeFrame_67 : decode cX7_makeFrame 67 = .ok (.getfield 45, 3) := by decide +kernel
theorem dX7_makeFrame_70 : decode cX7_makeFrame 70 = .ok (.ifCond .ne 7, 3) := by decide +kernel
theorem dX7_makeFrame_73 : decode cX7_makeFrame 73 = .ok (.iconst 1, 1) := by decide +kernel
theorem dX7_makeFrame_74 : decode cX7_makeFrame 74 = .ok (.goto 4, 3) := by decide +kernel
theorem dX7_makeFrame_77 : decode cX7_makeFrame 77 = .ok (.iconst 0, 1) := by decide +kernel
theorem dX7_makeFrame_78 : decode cX7_makeFrame 78 = .ok (.putfield 94, 3) := by decide +kernel
theorem dX7_makeFrame_81 : decode cX7_makeFrame 81 = .ok (.aload_n 0, 1) := by decide +kernel
theorem dX7_makeFrame_82 : decode cX7_makeFrame 82 = .ok (.getfield 33, 3) := by decide +kernel
theorem dX7_makeFrame_85 : decode cX7_makeFrame 85 = .ok (.getfield 51, 3) := by decide +kernel
theorem dX7_makeFrame_88 : decode cX7_makeFrame 88 = .ok (.invokevirtual 68, 3) := by decide +kernel
theorem dX7_makeFrame_91 : decode cX7_makeFrame 91 = .ok (.aload_n 0, 1) := by decide +kernel
theorem dX7_makeFrame_92 : decode cX7_makeFrame 92 = .ok (.getfield 33, 3) := by decide +kernel
theorem dX7_makeFrame_95 : decode cX7_makeFrame 95 = .ok (.getfield 51, 3) := by decide +kernel
theorem dX7_makeFrame_98 : decode cX7_makeFrame 98 = .ok (.aload_n 0, 1) := by decide +kernel
theorem dX7_makeFrame_99 : decode cX7_makeFrame 99 = .ok (.getfield 27, 3) := by decide +kernel
theorem dX7_makeFrame_102 : decode cX7_makeFrame 102 = .ok (.aload_n 0, 1) := by decide +kernel
theorem dX7_makeFrame_103 : decode cX7_makeFrame 103 = .ok (.getfield 45, 3) := by decide +kernel
theorem dX7_makeFrame_106 : decode cX7_makeFrame 106 = .ok (.aload_n 0, 1) := by decide +kernel
theorem dX7_makeFrame_107 : decode cX7_makeFrame 107 = .ok (.getfield 45, 3) := by decide +kernel
theorem dX7_makeFrame_110 : decode cX7_makeFrame 110 = .ok (.iload_n 1, 1) := by decide +kernel
theorem dX7_makeFrame_111 : decode cX7_makeFrame 111 = .ok (.iadd, 1) := by decide +kernel
theorem dX7_makeFrame_112 : decode cX7_makeFrame 112 = .ok (.invokevirtual 74, 3) := by decide +kernel
theorem dX7_makeFrame_115 : decode cX7_makeFrame 115 = .ok (.aload_n 0, 1) := by decide +kernel
theorem dX7_makeFrame_116 : decode cX7_makeFrame 116 = .ok (.dup, 1) := by decide +kernel
theorem dX7_makeFrame_117 : decode cX7_makeFrame 117 = .ok (.getfield 45, 3) := by decide +kernel
theorem dX7_makeFrame_120 : decode cX7_makeFrame 120 = .ok (.iload_n 1, 1) := by decide +kernel
theorem dX7_makeFrame_121 : decode cX7_makeFrame 121 = .ok (.iadd, 1) := by decide +kernel
theorem dX7_makeFrame_122 : decode cX7_makeFrame 122 = .ok (.putfield 45, 3) := by decide +kernel
theorem dX7_makeFrame_125 : decode cX7_makeFrame 125 = .ok (.aload_n 0, 1) := by decide +kernel
theorem dX7_makeFrame_126 : decode cX7_makeFrame 126 = .ok (.iconst 1, 1) := by decide +kernel
theorem dX7_makeFrame_127 : decode cX7_makeFrame 127 = .ok (.putfield 48, 3) := by decide +kernel
theorem dX7_makeFrame_130 : decode cX7_makeFrame 130 = .ok (.return_, 1) := by decide +kernel
theorem dX8_init_0 : decode cX8_init 0 = .ok (.aload_n 0, 1) := by decide +kernel
theorem dX8_init_1 : decode cX8_init 1 = .ok (.invokespecial 3, 3) := by decide +kernel
theorem dX8_init_4 : decode cX8_init 4 = .ok (.aload_n 0, 1) := by decide +kernel
theorem dX8_init_5 : decode cX8_init 5 = .ok (.iconst 2, 1) := by decide +kernel
theorem dX8_init_6 : decode cX8_init 6 = .ok (.anewarray 9, 3) := by decide +kernel
theorem dX8_init_9 : decode cX8_init 9 = .ok (.putfield 11, 3) := by decide +kernel
theorem dX8_init_12 : decode cX8_init 12 = .ok (.aload_n 0, 1) := by decide +kernel
theorem dX8_init_13 : decode cX8_init 13 = .ok (.getfield 11, 3) := by decide +kernel
theorem dX8_init_16 : decode cX8_init 16 = .ok (.iconst 0, 1) := by decide +kernel
theorem dX8_init_17 : decode cX8_init 17 = .ok (.new 9, 3) := by decide +kernel
theorem dX8_init_20 : decode cX8_init 20 = .ok (.dup, 1) := by decide +kernel
theorem dX8_init_21 : decode cX8_init 21 = .ok (.iconst 1, 1) := by decide +kernel
theorem dX8_init_22 : decode cX8_init 22 = .ok (.invokespecial 15, 3) := by decide +kernel
theorem dX8_init_25 : decode cX8_init 25 = .ok (.aastore, 1) := by decide +kernel
theorem dX8_init_26 : decode cX8_init 26 = .ok (.aload_n 0, 1) := by decide +kernel
theorem dX8_init_27 : decode cX8_init 27 = .ok (.getfield 11, 3) := by decide +kernel
theorem dX8_init_30 : decode cX8_init 30 = .ok (.iconst 1, 1) := by decide +kernel
theorem dX8_init_31 : decode cX8_init 31 = .ok (.new 9, 3) := by decide +kernel
theorem dX8_init_34 : decode cX8_init 34 = .ok (.dup, 1) := by decide +kernel
theorem dX8_init_35 : decode cX8_init 35 = .ok (.iconst 2, 1) := by decide +kernel
theorem dX8_init_36 : decode cX8_init 36 = .ok (.invokespecial 15, 3) := by decide +kernel
theorem dX8_init_39 : decode cX8_init 39 = .ok (.aastore, 1) := by decide +kernel
theorem dX8_init_40 : decode cX8_init 40 = .ok (.aload_n 0, 1) := by decide +kernel
theorem dX8_init_41 : decode cX8_init 41 = .ok (.new 18, 3) := by decide +kernel
theorem dX8_init_44 : decode cX8_init 44 = .ok (.dup, 1) := by decide +kernel
theorem dX8_init_45 : decode cX8_init 45 = .ok (.iconst 1, 1) := by decide +kernel
theorem dX8_init_46 : decode cX8_init 46 = .ok (.bipush 7, 2) := by decide +kernel
theorem dX8_init_48 : decode cX8_init 48 = .ok (.iload_n 1, 1) := by decide +kernel
theorem dX8_init_49 : decode cX8_init 49 = .ok (.invokestatic 20, 3) := by decide +kernel
theorem dX8_init_52 : decode cX8_init 52 = .ok (.invokestatic 26, 3) := by decide +kernel
theorem dX8_init_55 : decode cX8_init 55 = .ok (.invokespecial 29, 3) := by decide +kernel
theorem dX8_init_58 : decode cX8_init 58 = .ok (.putfield 30, 3) := by decide +kernel
theorem dX8_init_61 : decode cX8_init 61 = .ok (.aload_n 0, 1) := by decide +kernel
theorem dX8_init_62 : decode cX8_init 62 = .ok (.new 34, 3) := by decide +kernel
theorem dX8_init_65 : decode cX8_init 65 = .ok (.dup, 1) := by decide +kernel
theorem dX8_init_66 : decode cX8_init 66 = .ok (.sipush 204, 3) := by decide +kernel
theorem dX8_init_69 : decode cX8_init 69 = .ok (.invokespecial 36, 3) := by decide +kernel
theorem dX8_init_72 : decode cX8_init 72 = .ok (.putfield 37, 3) := by decide +kernel
theorem dX8_init_75 : decode cX8_init 75 = .ok (.aload_n 0, 1) := by decide +kernel
theorem dX8_init_76 : decode cX8_init 76 = .ok (.new 41, 3) := by decide +kernel
theorem dX8_init_79 : decode cX8_init 79 = .ok (.dup, 1) := by decide +kernel
theorem dX8_init_80 : decode cX8_init 80 = .ok (.invokespecial 43, 3) := by decide +kernel
theorem dX8_init_83 : decode cX8_init 83 = .ok (.putfield 44, 3) := by decide +kernel
theorem dX8_init_86 : decode cX8_init 86 = .ok (.return_, 1) := by decide +kernel
theorem dX8_guard_0 : decode cX8_guard 0 = .ok (.iload_n 1, 1) := by decide +kernel
theorem dX8_guard_1 : decode cX8_guard 1 = .ok (.invokestatic 48, 3) := by decide +kernel
theorem dX8_guard_4 : decode cX8_guard 4 = .ok (.ifCond .ne 5, 3) := by decide +kernel
theorem dX8_guard_7 : decode cX8_guard 7 = .ok (.iconst (-1), 1) := by decide +kernel
theorem dX8_guard_8 : decode cX8_guard 8 = .ok (.ireturn, 1) := by decide +kernel
theorem dX8_guard_9 : decode cX8_guard 9 = .ok (.aload_n 0, 1) := by decide +kernel
theorem dX8_guard_10 : decode cX8_guard 10 = .ok (.getfield 11, 3) := by decide +kernel
theorem dX8_guard_13 : decode cX8_guard 13 = .ok (.iload_n 1, 1) := by decide +kernel
theorem dX8_guard_14 : decode cX8_guard 14 = .ok (.aaload, 1) := by decide +kernel
theorem dX8_guard_15 : decode cX8_guard 15 = .ok (.getfield 52, 3) := by decide +kernel
theorem dX8_guard_18 : decode cX8_guard 18 = .ok (.iload_n 2, 1) := by decide +kernel
theorem dX8_guard_19 : decode cX8_guard 19 = .ok (.putfield 56, 3) := by decide +kernel
theorem dX8_guard_22 : decode cX8_guard 22 = .ok (.iconst 0, 1) := by decide +kernel
theorem dX8_guard_23 : decode cX8_guard 23 = .ok (.ireturn, 1) := by decide +kernel
theorem dX8_write_0 : decode cX8_write 0 = .ok (.iload_n 1, 1) := by decide +kernel
theorem dX8_write_1 : decode cX8_write 1 = .ok (.invokestatic 48, 3) := by decide +kernel
theorem dX8_write_4 : decode cX8_write 4 = .ok (.ifCond .eq 14, 3) := by decide +kernel
theorem dX8_write_7 : decode cX8_write 7 = .ok (.iload_n 2, 1) := by decide +kernel
theorem dX8_write_8 : decode cX8_write 8 = .ok (.ifCond .lt 10, 3) := by decide +kernel
theorem dX8_write_11 : decode cX8_write 11 = .ok (.iload_n 2, 1) := by decide +kernel
theorem dX8_write_12 : decode cX8_write 12 = .ok (.sipush 255, 3) := by decide +kernel
theorem dX8_write_15 : decode cX8_write 15 = .ok (.if_icmp .le 5, 3) := by decide +kernel
theorem dX8_write_18 : decode cX8_write 18 = .ok (.iconst (-1), 1) := by decide +kernel
theorem dX8_write_19 : decode cX8_write 19 = .ok (.ireturn, 1) := by decide +kernel
theorem dX8_write_20 : decode cX8_write 20 = .ok (.aload_n 0, 1) := by decide +kernel
theorem dX8_write_21 : decode cX8_write 21 = .ok (.getfield 11, 3) := by decide +kernel
theorem dX8_write_24 : decode cX8_write 24 = .ok (.iload_n 1, 1) := by decide +kernel
theorem dX8_write_25 : decode cX8_write 25 = .ok (.aaload, 1) := by decide +kernel
theorem dX8_write_26 : decode cX8_write 26 = .ok (.getfield 52, 3) := by decide +kernel
theorem dX8_write_29 : decode cX8_write 29 = .ok (.getfield 62, 3) := by decide +kernel
theorem dX8_write_32 : decode cX8_write 32 = .ok (.astore_n 3, 1) := by decide +kernel
theorem dX8_write_33 : decode cX8_write 33 = .ok (.aload_n 3, 1) := by decide +kernel
theorem dX8_write_34 : decode cX8_write 34 = .ok (.invokevirtual 66, 3) := by decide +kernel
theorem dX8_write_37 : decode cX8_write 37 = .ok (.ifCond .eq 6, 3) := by decide +kernel
theorem dX8_write_40 : decode cX8_write 40 = .ok (.bipush (-2), 2) := by decide +kernel
theorem dX8_write_42 : decode cX8_write 42 = .ok (.ireturn, 1) := by decide +kernel
theorem dX8_write_43 : decode cX8_write 43 = .ok (.aload_n 3, 1) := by decide +kernel
theorem dX8_write_44 : decode cX8_write 44 = .ok (.iload_n 2, 1) := by decide +kernel
theorem dX8_write_45 : decode cX8_write 45 = .ok (.invokevirtual 72, 3) := by decide +kernel
theorem dX8_write_48 : decode cX8_write 48 = .ok (.aload_n 3, 1) := by decide +kernel
theorem dX8_write_49 : decode cX8_write 49 = .ok (.getfield 75, 3) := by decide +kernel
theorem dX8_write_52 : decode cX8_write 52 = .ok (.ireturn, 1) := by decide +kernel
theorem dX8_send_0 : decode cX8_send 0 = .ok (.iload_n 1, 1) := by decide +kernel
theorem dX8_send_1 : decode cX8_send 1 = .ok (.invokestatic 48, 3) := by decide +kernel
theorem dX8_send_4 : decode cX8_send 4 = .ok (.ifCond .ne 5, 3) := by decide +kernel
theorem dX8_send_7 : decode cX8_send 7 = .ok (.iconst (-1), 1) := by decide +kernel
theorem dX8_send_8 : decode cX8_send 8 = .ok (.ireturn, 1) := by decide +kernel
theorem dX8_send_9 : decode cX8_send 9 = .ok (.aload_n 0, 1) := by decide +kernel
theorem dX8_send_10 : decode cX8_send 10 = .ok (.getfield 11, 3) := by decide +kernel
theorem dX8_send_13 : decode cX8_send 13 = .ok (.iload_n 1, 1) := by decide +kernel
theorem dX8_send_14 : decode cX8_send 14 = .ok (.aaload, 1) := by decide +kernel
theorem dX8_send_15 : decode cX8_send 15 = .ok (.getfield 52, 3) := by decide +kernel
theorem dX8_send_18 : decode cX8_send 18 = .ok (.astore_n 2, 1) := by decide +kernel
theorem dX8_send_19 : decode cX8_send 19 = .ok (.aload_n 2, 1) := by decide +kernel
theorem dX8_send_20 : decode cX8_send 20 = .ok (.getfield 62, 3) := by decide +kernel
theorem dX8_send_23 : decode cX8_send 23 = .ok (.getfield 75, 3) := by decide +kernel
theorem dX8_send_26 : decode cX8_send 26 = .ok (.ifCond .ne 5, 3) := by decide +kernel
theorem dX8_send_29 : decode cX8_send 29 = .ok (.iconst (-1), 1) := by decide +kernel
theorem dX8_send_30 : decode cX8_send 30 = .ok (.ireturn, 1) := by decide +kernel
theorem dX8_send_31 : decode cX8_send 31 = .ok (.aload_n 2, 1) := by decide +kernel
theorem dX8_send_32 : decode cX8_send 32 = .ok (.getfield 79, 3) := by decide +kernel
theorem dX8_send_35 : decode cX8_send 35 = .ok (.invokevirtual 83, 3) := by decide +kernel
theorem dX8_send_38 : decode cX8_send 38 = .ok (.ifCond .eq 6, 3) := by decide +kernel
theorem dX8_send_41 : decode cX8_send 41 = .ok (.bipush (-2), 2) := by decide +kernel
theorem dX8_send_43 : decode cX8_send 43 = .ok (.ireturn, 1) := by decide +kernel
theorem dX8_send_44 : decode cX8_send 44 = .ok (.aload_n 2, 1) := by decide +kernel
theorem dX8_send_45 : decode cX8_send 45 = .ok (.getfield 79, 3) := by decide +kernel
theorem dX8_send_48 : decode cX8_send 48 = .ok (.aload_n 2, 1) := by decide +kernel
theorem dX8_send_49 : decode cX8_send 49 = .ok (.getfield 62, 3) := by decide +kernel
theorem dX8_send_52 : decode cX8_send 52 = .ok (.invokevirtual 86, 3) := by decide +kernel
theorem dX8_send_55 : decode cX8_send 55 = .ok (.aload_n 2, 1) := by decide +kernel
theorem dX8_send_56 : decode cX8_send 56 = .ok (.getfield 62, 3) := by decide +kernel
theorem dX8_send_59 : decode cX8_send 59 = .ok (.invokevirtual 90, 3) := by decide +kernel
theorem dX8_send_62 : decode cX8_send 62 = .ok (.aload_n 2, 1) := by decide +kernel
theorem dX8_send_63 : decode cX8_send 63 = .ok (.getfield 79, 3) := by decide +kernel
theorem dX8_send_66 : decode cX8_send 66 = .ok (.getfield 93, 3) := by decide +kernel
theorem dX8_send_69 : decode cX8_send 69 = .ok (.ireturn, 1) := by decide +kernel
theorem dX8_slot_0 : decode cX8_slot 0 = .ok (.aload_n 0, 1) := by decide +kernel
theorem dX8_slot_1 : decode cX8_slot 1 = .ok (.getfield 37, 3) := by decide +kernel
theorem dX8_slot_4 : decode cX8_slot 4 = .ok (.invokevirtual 94, 3) := by decide +kernel
theorem dX8_slot_7 : decode cX8_slot 7 = .ok (.aload_n 0, 1) := by decide +kernel
theorem dX8_slot_8 : decode cX8_slot 8 = .ok (.getfield 11, 3) := by decide +kernel
theorem dX8_slot_11 : decode cX8_slot 11 = .ok (.aload_n 0, 1) := by decide +kernel
theorem dX8_slot_12 : decode cX8_slot 12 = .ok (.invokevirtual 95, 3) := by decide +kernel
theorem dX8_slot_15 : decode cX8_slot 15 = .ok (.aaload, 1) := by decide +kernel
theorem dX8_slot_16 : decode cX8_slot 16 = .ok (.invokevirtual 99, 3) := by decide +kernel
theorem dX8_slot_19 : decode cX8_slot 19 = .ok (.astore_n 1, 1) := by decide +kernel
theorem dX8_slot_20 : decode cX8_slot 20 = .ok (.aload_n 1, 1) := by decide +kernel
theorem dX8_slot_21 : decode cX8_slot 21 = .ok (.ifnull 19, 3) := by decide +kernel
theorem dX8_slot_24 : decode cX8_slot 24 = .ok (.aload_n 0, 1) := by decide +kernel
theorem dX8_slot_25 : decode cX8_slot 25 = .ok (.getfield 30, 3) := by decide +kernel
theorem dX8_slot_28 : decode cX8_slot 28 = .ok (.aload_n 1, 1) := by decide +kernel
theorem dX8_slot_29 : decode cX8_slot 29 = .ok (.aload_n 0, 1) := by decide +kernel
theorem dX8_slot_30 : decode cX8_slot 30 = .ok (.getfield 103, 3) := by decide +kernel
theorem dX8_slot_33 : decode cX8_slot 33 = .ok (.aload_n 0, 1) := by decide +kernel
theorem dX8_slot_34 : decode cX8_slot 34 = .ok (.getfield 37, 3) := by decide +kernel
theorem dX8_slot_37 : decode cX8_slot 37 = .ok (.invokevirtual 106, 3) := by decide +kernel
theorem dX8_slot_40 : decode cX8_slot 40 = .ok (.aload_n 0, 1) := by decide +kernel
theorem dX8_slot_41 : decode cX8_slot 41 = .ok (.dup, 1) := by decide +kernel
theorem dX8_slot_42 : decode cX8_slot 42 = .ok (.getfield 103, 3) := by decide +kernel
theorem dX8_slot_45 : decode cX8_slot 45 = .ok (.iconst 1, 1) := by decide +kernel
theorem dX8_slot_46 : decode cX8_slot 46 = .ok (.iadd, 1) := by decide +kernel
theorem dX8_slot_47 : decode cX8_slot 47 = .ok (.putfield 103, 3) := by decide +kernel
theorem dX8_slot_50 : decode cX8_slot 50 = .ok (.aload_n 1, 1) := by decide +kernel
theorem dX8_slot_51 : decode cX8_slot 51 = .ok (.ifnonnull 7, 3) := by decide +kernel
theorem dX8_slot_54 : decode cX8_slot 54 = .ok (.iconst 0, 1) := by decide +kernel
theorem dX8_slot_55 : decode cX8_slot 55 = .ok (.goto 7, 3) := by decide +kernel
theorem dX8_slot_58 : decode cX8_slot 58 = .ok (.aload_n 1, 1) := by decide +kernel
theorem dX8_slot_59 : decode cX8_slot 59 = .ok (.getfield 110, 3) := by decide +kernel
theorem dX8_slot_62 : decode cX8_slot 62 = .ok (.ireturn, 1) := by decide +kernel
theorem dX8_air_0 : decode cX8_air 0 = .ok (.aload_n 0, 1) := by decide +kernel
theorem dX8_air_1 : decode cX8_air 1 = .ok (.getfield 37, 3) := by decide +kernel
theorem dX8_air_4 : decode cX8_air 4 = .ok (.iload_n 1, 1) := by decide +kernel
theorem dX8_air_5 : decode cX8_air 5 = .ok (.invokevirtual 113, 3) := by decide +kernel
theorem dX8_air_8 : decode cX8_air 8 = .ok (.ifCond .eq 14, 3) := by decide +kernel
theorem dX8_air_11 : decode cX8_air 11 = .ok (.aload_n 0, 1) := by decide +kernel
theorem dX8_air_12 : decode cX8_air 12 = .ok (.getfield 37, 3) := by decide +kernel
theorem dX8_air_15 : decode cX8_air 15 = .ok (.iload_n 1, 1) := by decide +kernel
theorem dX8_air_16 : decode cX8_air 16 = .ok (.invokevirtual 116, 3) := by decide +kernel
theorem dX8_air_19 : decode cX8_air 19 = .ok (.goto 4, 3) := by decide +kernel
theorem dX8_air_22 : decode cX8_air 22 = .ok (.iconst (-1), 1) := by decide +kernel
theorem dX8_air_23 : decode cX8_air 23 = .ok (.ireturn, 1) := by decide +kernel
theorem dX8_flip_0 : decode cX8_flip 0 = .ok (.aload_n 0, 1) := by decide +kernel
theorem dX8_flip_1 : decode cX8_flip 1 = .ok (.getfield 37, 3) := by decide +kernel
theorem dX8_flip_4 : decode cX8_flip 4 = .ok (.iload_n 1, 1) := by decide +kernel
theorem dX8_flip_5 : decode cX8_flip 5 = .ok (.invokevirtual 113, 3) := by decide +kernel
theorem dX8_flip_8 : decode cX8_flip 8 = .ok (.ifCond .ne 5, 3) := by decide +kernel
theorem dX8_flip_11 : decode cX8_flip 11 = .ok (.iconst (-1), 1) := by decide +kernel
theorem dX8_flip_12 : decode cX8_flip 12 = .ok (.ireturn, 1) := by decide +kernel
theorem dX8_flip_13 : decode cX8_flip 13 = .ok (.aload_n 0, 1) := by decide +kernel
theorem dX8_flip_14 : decode cX8_flip 14 = .ok (.getfield 37, 3) := by decide +kernel
theorem dX8_flip_17 : decode cX8_flip 17 = .ok (.iload_n 1, 1) := by decide +kernel
theorem dX8_flip_18 : decode cX8_flip 18 = .ok (.invokevirtual 120, 3) := by decide +kernel
theorem dX8_flip_21 : decode cX8_flip 21 = .ok (.iconst 0, 1) := by decide +kernel
theorem dX8_flip_22 : decode cX8_flip 22 = .ok (.ireturn, 1) := by decide +kernel
theorem dX8_hear_0 : decode cX8_hear 0 = .ok (.aload_n 0, 1) := by decide +kernel
theorem dX8_hear_1 : decode cX8_hear 1 = .ok (.getfield 37, 3) := by decide +kernel
theorem dX8_hear_4 : decode cX8_hear 4 = .ok (.getfield 123, 3) := by decide +kernel
theorem dX8_hear_7 : decode cX8_hear 7 = .ok (.ifCond .ne 5, 3) := by decide +kernel
theorem dX8_hear_10 : decode cX8_hear 10 = .ok (.iconst 0, 1) := by decide +kernel
theorem dX8_hear_11 : decode cX8_hear 11 = .ok (.ireturn, 1) := by decide +kernel
theorem dX8_hear_12 : decode cX8_hear 12 = .ok (.aload_n 0, 1) := by decide +kernel
theorem dX8_hear_13 : decode cX8_hear 13 = .ok (.getfield 30, 3) := by decide +kernel
theorem dX8_hear_16 : decode cX8_hear 16 = .ok (.aload_n 0, 1) := by decide +kernel
theorem dX8_hear_17 : decode cX8_hear 17 = .ok (.getfield 37, 3) := by decide +kernel
theorem dX8_hear_20 : decode cX8_hear 20 = .ok (.aload_n 0, 1) := by decide +kernel
theorem dX8_hear_21 : decode cX8_hear 21 = .ok (.getfield 103, 3) := by decide +kernel
theorem dX8_hear_24 : decode cX8_hear 24 = .ok (.iconst 1, 1) := by decide +kernel
theorem dX8_hear_25 : decode cX8_hear 25 = .ok (.isub, 1) := by decide +kernel
theorem dX8_hear_26 : decode cX8_hear 26 = .ok (.aload_n 0, 1) := by decide +kernel
theorem dX8_hear_27 : decode cX8_hear 27 = .ok (.getfield 44, 3) := by decide +kernel
theorem dX8_hear_30 : decode cX8_hear 30 = .ok (.invokevirtual 126, 3) := by decide +kernel
theorem dX8_hear_33 : decode cX8_hear 33 = .ok (.istore_n 1, 1) := by decide +kernel
theorem dX8_hear_34 : decode cX8_hear 34 = .ok (.aload_n 0, 1) := by decide +kernel
theorem dX8_hear_35 : decode cX8_hear 35 = .ok (.getfield 37, 3) := by decide +kernel
theorem dX8_hear_38 : decode cX8_hear 38 = .ok (.invokevirtual 94, 3) := by decide +kernel
theorem dX8_hear_41 : decode cX8_hear 41 = .ok (.iload_n 1, 1) := by decide +kernel
theorem dX8_hear_42 : decode cX8_hear 42 = .ok (.iconst 5, 1) := by decide +kernel
theorem dX8_hear_43 : decode cX8_hear 43 = .ok (.if_icmp .ne 7, 3) := by decide +kernel
theorem dX8_hear_46 : decode cX8_hear 46 = .ok (.iconst 5, 1) := by decide +kernel
theorem dX8_hear_47 : decode cX8_hear 47 = .ok (.goto 20, 3) := by decide +kernel
theorem dX8_hear_50 : decode cX8_hear 50 = .ok (.aload_n 0, 1) := by decide +kernel
theorem dX8_hear_51 : decode cX8_hear 51 = .ok (.getfield 11, 3) := by decide +kernel
theorem dX8_hear_54 : decode cX8_hear 54 = .ok (.aload_n 0, 1) := by decide +kernel
theorem dX8_hear_55 : decode cX8_hear 55 = .ok (.invokevirtual 95, 3) := by decide +kernel
theorem dX8_hear_58 : decode cX8_hear 58 = .ok (.aaload, 1) := by decide +kernel
theorem dX8_hear_59 : decode cX8_hear 59 = .ok (.aload_n 0, 1) := by decide +kernel
theorem dX8_hear_60 : decode cX8_hear 60 = .ok (.getfield 44, 3) := by decide +kernel
theorem dX8_hear_63 : decode cX8_hear 63 = .ok (.iload_n 1, 1) := by decide +kernel
theorem dX8_hear_64 : decode cX8_hear 64 = .ok (.invokevirtual 130, 3) := by decide +kernel
theorem dX8_hear_67 : decode cX8_hear 67 = .ok (.ireturn, 1) := by decide +kernel
theorem dX8_read_0 : decode cX8_read 0 = .ok (.iload_n 1, 1) := by decide +kernel
theorem dX8_read_1 : decode cX8_read 1 = .ok (.invokestatic 48, 3) := by decide +kernel
theorem dX8_read_4 : decode cX8_read 4 = .ok (.ifCond .ne 5, 3) := by decide +kernel
theorem dX8_read_7 : decode cX8_read 7 = .ok (.iconst (-1), 1) := by decide +kernel
theorem dX8_read_8 : decode cX8_read 8 = .ok (.ireturn, 1) := by decide +kernel
theorem dX8_read_9 : decode cX8_read 9 = .ok (.aload_n 0, 1) := by decide +kernel
theorem dX8_read_10 : decode cX8_read 10 = .ok (.getfield 11, 3) := by decide +kernel
theorem dX8_read_13 : decode cX8_read 13 = .ok (.iload_n 1, 1) := by decide +kernel
theorem dX8_read_14 : decode cX8_read 14 = .ok (.aaload, 1) := by decide +kernel
theorem dX8_read_15 : decode cX8_read 15 = .ok (.getfield 134, 3) := by decide +kernel
theorem dX8_read_18 : decode cX8_read 18 = .ok (.getfield 138, 3) := by decide +kernel
theorem dX8_read_21 : decode cX8_read 21 = .ok (.invokevirtual 143, 3) := by decide +kernel
theorem dX8_read_24 : decode cX8_read 24 = .ok (.astore_n 3, 1) := by decide +kernel
theorem dX8_read_25 : decode cX8_read 25 = .ok (.aload_n 3, 1) := by decide +kernel
theorem dX8_read_26 : decode cX8_read 26 = .ok (.ifnull 19, 3) := by decide +kernel
theorem dX8_read_29 : decode cX8_read 29 = .ok (.aload_n 3, 1) := by decide +kernel
theorem dX8_read_30 : decode cX8_read 30 = .ok (.iload_n 2, 1) := by decide +kernel
theorem dX8_read_31 : decode cX8_read 31 = .ok (.invokevirtual 147, 3) := by decide +kernel
theorem dX8_read_34 : decode cX8_read 34 = .ok (.ifCond .eq 11, 3) := by decide +kernel
theorem dX8_read_37 : decode cX8_read 37 = .ok (.aload_n 3, 1) := by decide +kernel
theorem dX8_read_38 : decode cX8_read 38 = .ok (.iload_n 2, 1) := by decide +kernel
theorem dX8_read_39 : decode cX8_read 39 = .ok (.invokevirtual 148, 3) := by decide +kernel
theorem dX8_read_42 : decode cX8_read 42 = .ok (.goto 4, 3) := by decide +kernel
theorem dX8_read_45 : decode cX8_read 45 = .ok (.iconst (-1), 1) := by decide +kernel
theorem dX8_read_46 : decode cX8_read 46 = .ok (.ireturn, 1) := by decide +kernel
theorem dX8_next_0 : decode cX8_next 0 = .ok (.iload_n 1, 1) := by decide +kernel
theorem dX8_next_1 : decode cX8_next 1 = .ok (.invokestatic 48, 3) := by decide +kernel
theorem dX8_next_4 : decode cX8_next 4 = .ok (.ifCond .ne 5, 3) := by decide +kernel
theorem dX8_next_7 : decode cX8_next 7 = .ok (.iconst (-1), 1) := by decide +kernel
theorem dX8_next_8 : decode cX8_next 8 = .ok (.ireturn, 1) := by decide +kernel
theorem dX8_next_9 : decode cX8_next 9 = .ok (.aload_n 0, 1) := by decide +kernel
theorem dX8_next_10 : decode cX8_next 10 = .ok (.getfield 11, 3) := by decide +kernel
theorem dX8_next_13 : decode cX8_next 13 = .ok (.iload_n 1, 1) := by decide +kernel
theorem dX8_next_14 : decode cX8_next 14 = .ok (.aaload, 1) := by decide +kernel
theorem dX8_next_15 : decode cX8_next 15 = .ok (.getfield 134, 3) := by decide +kernel
theorem dX8_next_18 : decode cX8_next 18 = .ok (.getfield 138, 3) := by decide +kernel
theorem dX8_next_21 : decode cX8_next 21 = .ok (.astore_n 2, 1) := by decide +kernel
theorem dX8_next_22 : decode cX8_next 22 = .ok (.aload_n 2, 1) := by decide +kernel
theorem dX8_next_23 : decode cX8_next 23 = .ok (.invokevirtual 143, 3) := by decide +kernel
theorem dX8_next_26 : decode cX8_next 26 = .ok (.astore_n 3, 1) := by decide +kernel
theorem dX8_next_27 : decode cX8_next 27 = .ok (.aload_n 3, 1) := by decide +kernel
theorem dX8_next_28 : decode cX8_next 28 = .ok (.ifnonnull 5, 3) := by decide +kernel
theorem dX8_next_31 : decode cX8_next 31 = .ok (.iconst (-1), 1) := by decide +kernel
theorem dX8_next_32 : decode cX8_next 32 = .ok (.ireturn, 1) := by decide +kernel
theorem dX8_next_33 : decode cX8_next 33 = .ok (.aload_n 2, 1) := by decide +kernel
theorem dX8_next_34 : decode cX8_next 34 = .ok (.invokevirtual 149, 3) := by decide +kernel
theorem dX8_next_37 : decode cX8_next 37 = .ok (.aload_n 3, 1) := by decide +kernel
theorem dX8_next_38 : decode cX8_next 38 = .ok (.getfield 75, 3) := by decide +kernel
theorem dX8_next_41 : decode cX8_next 41 = .ok (.ireturn, 1) := by decide +kernel
theorem dX8_state_0 : decode cX8_state 0 = .ok (.iload_n 1, 1) := by decide +kernel
theorem dX8_state_1 : decode cX8_state 1 = .ok (.invokestatic 48, 3) := by decide +kernel
theorem dX8_state_4 : decode cX8_state 4 = .ok (.ifCond .eq 16, 3) := by decide +kernel
theorem dX8_state_7 : decode cX8_state 7 = .ok (.aload_n 0, 1) := by decide +kernel
theorem dX8_state_8 : decode cX8_state 8 = .ok (.getfield 11, 3) := by decide +kernel
theorem dX8_state_11 : decode cX8_state 11 = .ok (.iload_n 1, 1) := by decide +kernel
theorem dX8_state_12 : decode cX8_state 12 = .ok (.aaload, 1) := by decide +kernel
theorem dX8_state_13 : decode cX8_state 13 = .ok (.iload_n 2, 1) := by decide +kernel
theorem dX8_state_14 : decode cX8_state 14 = .ok (.invokevirtual 152, 3) := by decide +kernel
theorem dX8_state_17 : decode cX8_state 17 = .ok (.goto 4, 3) := by decide +kernel
theorem dX8_state_20 : decode cX8_state 20 = .ok (.iconst (-1), 1) := by decide +kernel
theorem dX8_state_21 : decode cX8_state 21 = .ok (.ireturn, 1) := by decide +kernel
theorem dX8_count_0 : decode cX8_count 0 = .ok (.iload_n 1, 1) := by decide +kernel
theorem dX8_count_1 : decode cX8_count 1 = .ok (.tableswitch 76 0 3 #[31, 36, 44, 60], 31) := by decide +kernel
theorem dX8_count_32 : decode cX8_count 32 = .ok (.aload_n 0, 1) := by decide +kernel
theorem dX8_count_33 : decode cX8_count 33 = .ok (.getfield 103, 3) := by decide +kernel
theorem dX8_count_36 : decode cX8_count 36 = .ok (.ireturn, 1) := by decide +kernel
theorem dX8_count_37 : decode cX8_count 37 = .ok (.aload_n 0, 1) := by decide +kernel
theorem dX8_count_38 : decode cX8_count 38 = .ok (.getfield 37, 3) := by decide +kernel
theorem dX8_count_41 : decode cX8_count 41 = .ok (.getfield 123, 3) := by decide +kernel
theorem dX8_count_44 : decode cX8_count 44 = .ok (.ireturn, 1) := by decide +kernel
theorem dX8_count_45 : decode cX8_count 45 = .ok (.aload_n 0, 1) := by decide +kernel
theorem dX8_count_46 : decode cX8_count 46 = .ok (.getfield 11, 3) := by decide +kernel
theorem dX8_count_49 : decode cX8_count 49 = .ok (.iconst 0, 1) := by decide +kernel
theorem dX8_count_50 : decode cX8_count 50 = .ok (.aaload, 1) := by decide +kernel
theorem dX8_count_51 : decode cX8_count 51 = .ok (.getfield 52, 3) := by decide +kernel
theorem dX8_count_54 : decode cX8_count 54 = .ok (.getfield 62, 3) := by decide +kernel
theorem dX8_count_57 : decode cX8_count 57 = .ok (.getfield 75, 3) := by decide +kernel
theorem dX8_count_60 : decode cX8_count 60 = .ok (.ireturn, 1) := by decide +kernel
theorem dX8_count_61 : decode cX8_count 61 = .ok (.aload_n 0, 1) := by decide +kernel
theorem dX8_count_62 : decode cX8_count 62 = .ok (.getfield 11, 3) := by decide +kernel
theorem dX8_count_65 : decode cX8_count 65 = .ok (.iconst 1, 1) := by decide +kernel
theorem dX8_count_66 : decode cX8_count 66 = .ok (.aaload, 1) := by decide +kernel
theorem dX8_count_67 : decode cX8_count 67 = .ok (.getfield 52, 3) := by decide +kernel
theorem dX8_count_70 : decode cX8_count 70 = .ok (.getfield 62, 3) := by decide +kernel
theorem dX8_count_73 : decode cX8_count 73 = .ok (.getfield 75, 3) := by decide +kernel
theorem dX8_count_76 : decode cX8_count 76 = .ok (.ireturn, 1) := by decide +kernel
theorem dX8_count_77 : decode cX8_count 77 = .ok (.iconst (-1), 1) := by decide +kernel
theorem dX8_count_78 : decode cX8_count 78 = .ok (.ireturn, 1) := by decide +kernel
theorem dX8_isDevice_0 : decode cX8_isDevice 0 = .ok (.iload_n 0, 1) := by decide +kernel
theorem dX8_isDevice_1 : decode cX8_isDevice 1 = .ok (.ifCond .lt 12, 3) := by decide +kernel
theorem dX8_isDevice_4 : decode cX8_isDevice 4 = .ok (.iload_n 0, 1) := by decide +kernel
theorem dX8_isDevice_5 : decode cX8_isDevice 5 = .ok (.iconst 2, 1) := by decide +kernel
theorem dX8_isDevice_6 : decode cX8_isDevice 6 = .ok (.if_icmp .ge 7, 3) := by decide +kernel
theorem dX8_isDevice_9 : decode cX8_isDevice 9 = .ok (.iconst 1, 1) := by decide +kernel
theorem dX8_isDevice_10 : decode cX8_isDevice 10 = .ok (.goto 4, 3) := by decide +kernel
theorem dX8_isDevice_13 : decode cX8_isDevice 13 = .ok (.iconst 0, 1) := by decide +kernel
theorem dX8_isDevice_14 : decode cX8_isDevice 14 = .ok (.ireturn, 1) := by decide +kernel
theorem dX8_deviceOfTurn_0 : decode cX8_deviceOfTurn 0 = .ok (.aload_n 0, 1) := by decide +kernel
theorem dX8_deviceOfTurn_1 : decode cX8_deviceOfTurn 1 = .ok (.getfield 103, 3) := by decide +kernel
theorem dX8_deviceOfTurn_4 : decode cX8_deviceOfTurn 4 = .ok (.iconst 1, 1) := by decide +kernel
theorem dX8_deviceOfTurn_5 : decode cX8_deviceOfTurn 5 = .ok (.iand, 1) := by decide +kernel
theorem dX8_deviceOfTurn_6 : decode cX8_deviceOfTurn 6 = .ok (.ireturn, 1) := by decide +kernel

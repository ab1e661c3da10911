theorem dX0_init_0 : decode cX0_init 0 = .ok (.aload_n 0, 1) := by decide +kernel
theorem dX0_init_1 : decode cX0_init 1 = .ok (.invokespecial 3, 3) := by decide +kernel
theorem dX0_init_4 : decode cX0_init 4 = .ok (.aload_n 0, 1) := by decide +kernel
theorem dX0_init_5 : decode cX0_init 5 = .ok (.bipush 50, 2) := by decide +kernel
theorem dX0_init_7 : decode cX0_init 7 = .ok (.newarray .int, 2) := by decide +kernel
theorem dX0_init_9 : decode cX0_init 9 = .ok (.putfield 11, 3) := by decide +kernel
theorem dX0_init_12 : decode cX0_init 12 = .ok (.aload_n 0, 1) := by decide +kernel
theorem dX0_init_13 : decode cX0_init 13 = .ok (.bipush 24, 2) := by decide +kernel
theorem dX0_init_15 : decode cX0_init 15 = .ok (.newarray .int, 2) := by decide +kernel
theorem dX0_init_17 : decode cX0_init 17 = .ok (.putfield 15, 3) := by decide +kernel
theorem dX0_init_20 : decode cX0_init 20 = .ok (.return_, 1) := by decide +kernel
theorem dX0_bodies_0 : decode cX0_bodies 0 = .ok (.aload_n 0, 1) := by decide +kernel
theorem dX0_bodies_1 : decode cX0_bodies 1 = .ok (.getfield 18, 3) := by decide +kernel
theorem dX0_bodies_4 : decode cX0_bodies 4 = .ok (.ireturn, 1) := by decide +kernel
theorem dX0_ranInAll_0 : decode cX0_ranInAll 0 = .ok (.aload_n 0, 1) := by decide +kernel
theorem dX0_ranInAll_1 : decode cX0_ranInAll 1 = .ok (.getfield 22, 3) := by decide +kernel
theorem dX0_ranInAll_4 : decode cX0_ranInAll 4 = .ok (.ireturn, 1) := by decide +kernel
theorem dX0_addBody_0 : decode cX0_addBody 0 = .ok (.aload_n 0, 1) := by decide +kernel
theorem dX0_addBody_1 : decode cX0_addBody 1 = .ok (.getfield 18, 3) := by decide +kernel
theorem dX0_addBody_4 : decode cX0_addBody 4 = .ok (.bipush 50, 2) := by decide +kernel
theorem dX0_addBody_6 : decode cX0_addBody 6 = .ok (.if_icmp .lt 6, 3) := by decide +kernel
theorem dX0_addBody_9 : decode cX0_addBody 9 = .ok (.bipush (-3), 2) := by decide +kernel
theorem dX0_addBody_11 : decode cX0_addBody 11 = .ok (.ireturn, 1) := by decide +kernel
theorem dX0_addBody_12 : decode cX0_addBody 12 = .ok (.aload_n 0, 1) := by decide +kernel
theorem dX0_addBody_13 : decode cX0_addBody 13 = .ok (.getfield 11, 3) := by decide +kernel
theorem dX0_addBody_16 : decode cX0_addBody 16 = .ok (.aload_n 0, 1) := by decide +kernel
theorem dX0_addBody_17 : decode cX0_addBody 17 = .ok (.getfield 18, 3) := by decide +kernel
theorem dX0_addBody_20 : decode cX0_addBody 20 = .ok (.iload_n 1, 1) := by decide +kernel
theorem dX0_addBody_21 : decode cX0_addBody 21 = .ok (.iastore, 1) := by decide +kernel
theorem dX0_addBody_22 : decode cX0_addBody 22 = .ok (.aload_n 0, 1) := by decide +kernel
theorem dX0_addBody_23 : decode cX0_addBody 23 = .ok (.dup, 1) := by decide +kernel
theorem dX0_addBody_24 : decode cX0_addBody 24 = .ok (.getfield 18, 3) := by decide +kernel
theorem dX0_addBody_27 : decode cX0_addBody 27 = .ok (.dup_x1, 1) := by decide +kernel
theorem dX0_addBody_28 : decode cX0_addBody 28 = .ok (.iconst 1, 1) := by decide +kernel
theorem dX0_addBody_29 : decode cX0_addBody 29 = .ok (.iadd, 1) := by decide +kernel
theorem dX0_addBody_30 : decode cX0_addBody 30 = .ok (.putfield 18, 3) := by decide +kernel
theorem dX0_addBody_33 : decode cX0_addBody 33 = .ok (.ireturn, 1) := by decide +kernel
theorem dX0_isBody_0 : decode cX0_isBody 0 = .ok (.iload_n 1, 1) := by decide +kernel
theorem dX0_isBody_1 : decode cX0_isBody 1 = .ok (.ifCond .lt 21, 3) := by decide +kernel
theorem dX0_isBody_4 : decode cX0_isBody 4 = .ok (.iload_n 1, 1) := by decide +kernel
theorem dX0_isBody_5 : decode cX0_isBody 5 = .ok (.aload_n 0, 1) := by decide +kernel
theorem dX0_isBody_6 : decode cX0_isBody 6 = .ok (.getfield 18, 3) := by decide +kernel
theorem dX0_isBody_9 : decode cX0_isBody 9 = .ok (.if_icmp .ge 13, 3) := by decide +kernel
theorem dX0_isBody_12 : decode cX0_isBody 12 = .ok (.iload_n 1, 1) := by decide +kernel
theorem dX0_isBody_13 : decode cX0_isBody 13 = .ok (.bipush 50, 2) := by decide +kernel
theorem dX0_isBody_15 : decode cX0_isBody 15 = .ok (.if_icmp .ge 7, 3) := by decide +kernel
theorem dX0_isBody_18 : decode cX0_isBody 18 = .ok (.iconst 1, 1) := by decide +kernel
theorem dX0_isBody_19 : decode cX0_isBody 19 = .ok (.goto 4, 3) := by decide +kernel
theorem dX0_isBody_22 : decode cX0_isBody 22 = .ok (.iconst 0, 1) := by decide +kernel
theorem dX0_isBody_23 : decode cX0_isBody 23 = .ok (.ireturn, 1) := by decide +kernel
theorem dX0_kindOf_0 : decode cX0_kindOf 0 = .ok (.aload_n 0, 1) := by decide +kernel
theorem dX0_kindOf_1 : decode cX0_kindOf 1 = .ok (.iload_n 1, 1) := by decide +kernel
theorem dX0_kindOf_2 : decode cX0_kindOf 2 = .ok (.invokevirtual 25, 3) := by decide +kernel
theorem dX0_kindOf_5 : decode cX0_kindOf 5 = .ok (.ifCond .eq 12, 3) := by decide +kernel
theorem dX0_kindOf_8 : decode cX0_kindOf 8 = .ok (.aload_n 0, 1) := by decide +kernel
theorem dX0_kindOf_9 : decode cX0_kindOf 9 = .ok (.getfield 11, 3) := by decide +kernel
theorem dX0_kindOf_12 : decode cX0_kindOf 12 = .ok (.iload_n 1, 1) := by decide +kernel
theorem dX0_kindOf_13 : decode cX0_kindOf 13 = .ok (.iaload, 1) := by decide +kernel
theorem dX0_kindOf_14 : decode cX0_kindOf 14 = .ok (.goto 4, 3) := by decide +kernel
theorem dX0_kindOf_17 : decode cX0_kindOf 17 = .ok (.iconst 0, 1) := by decide +kernel
theorem dX0_kindOf_18 : decode cX0_kindOf 18 = .ok (.ireturn, 1) := by decide +kernel
theorem dX0_above_0 : decode cX0_above 0 = .ok (.iload_n 0, 1) := by decide +kernel
theorem dX0_above_1 : decode cX0_above 1 = .ok (.ifCond .lt 17, 3) := by decide +kernel
theorem dX0_above_4 : decode cX0_above 4 = .ok (.iload_n 0, 1) := by decide +kernel
theorem dX0_above_5 : decode cX0_above 5 = .ok (.bipush 8, 2) := by decide +kernel
theorem dX0_above_7 : decode cX0_above 7 = .ok (.if_icmp .ge 11, 3) := by decide +kernel
theorem dX0_above_10 : decode cX0_above 10 = .ok (.getstatic 29, 3) := by decide +kernel
theorem dX0_above_13 : decode cX0_above 13 = .ok (.iload_n 0, 1) := by decide +kernel
theorem dX0_above_14 : decode cX0_above 14 = .ok (.iaload, 1) := by decide +kernel
theorem dX0_above_15 : decode cX0_above 15 = .ok (.goto 4, 3) := by decide +kernel
theorem dX0_above_18 : decode cX0_above 18 = .ok (.iconst (-1), 1) := by decide +kernel
theorem dX0_above_19 : decode cX0_above 19 = .ok (.ireturn, 1) := by decide +kernel
theorem dX0_isUnder_0 : decode cX0_isUnder 0 = .ok (.iload_n 0, 1) := by decide +kernel
theorem dX0_isUnder_1 : decode cX0_isUnder 1 = .ok (.istore_n 2, 1) := by decide +kernel
theorem dX0_isUnder_2 : decode cX0_isUnder 2 = .ok (.iconst 0, 1) := by decide +kernel
theorem dX0_isUnder_3 : decode cX0_isUnder 3 = .ok (.istore_n 3, 1) := by decide +kernel
theorem dX0_isUnder_4 : decode cX0_isUnder 4 = .ok (.iload_n 3, 1) := by decide +kernel
theorem dX0_isUnder_5 : decode cX0_isUnder 5 = .ok (.bipush 8, 2) := by decide +kernel
theorem dX0_isUnder_7 : decode cX0_isUnder 7 = .ok (.if_icmp .ge 25, 3) := by decide +kernel
theorem dX0_isUnder_10 : decode cX0_isUnder 10 = .ok (.iload_n 2, 1) := by decide +kernel
theorem dX0_isUnder_11 : decode cX0_isUnder 11 = .ok (.ifCond .lt 21, 3) := by decide +kernel
theorem dX0_isUnder_14 : decode cX0_isUnder 14 = .ok (.iload_n 2, 1) := by decide +kernel
theorem dX0_isUnder_15 : decode cX0_isUnder 15 = .ok (.iload_n 1, 1) := by decide +kernel
theorem dX0_isUnder_16 : decode cX0_isUnder 16 = .ok (.if_icmp .ne 5, 3) := by decide +kernel
theorem dX0_isUnder_19 : decode cX0_isUnder 19 = .ok (.iconst 1, 1) := by decide +kernel
theorem dX0_isUnder_20 : decode cX0_isUnder 20 = .ok (.ireturn, 1) := by decide +kernel
theorem dX0_isUnder_21 : decode cX0_isUnder 21 = .ok (.iload_n 2, 1) := by decide +kernel
theorem dX0_isUnder_22 : decode cX0_isUnder 22 = .ok (.invokestatic 32, 3) := by decide +kernel
theorem dX0_isUnder_25 : decode cX0_isUnder 25 = .ok (.istore_n 2, 1) := by decide +kernel
theorem dX0_isUnder_26 : decode cX0_isUnder 26 = .ok (.iinc 3 1, 3) := by decide +kernel
theorem dX0_isUnder_29 : decode cX0_isUnder 29 = .ok (.goto (-25), 3) := by decide +kernel
theorem dX0_isUnder_32 : decode cX0_isUnder 32 = .ok (.iconst 0, 1) := by decide +kernel
theorem dX0_isUnder_33 : decode cX0_isUnder 33 = .ok (.ireturn, 1) := by decide +kernel
theorem dX0_run_0 : decode cX0_run 0 = .ok (.aload_n 0, 1) := by decide +kernel
theorem dX0_run_1 : decode cX0_run 1 = .ok (.iconst 0, 1) := by decide +kernel
theorem dX0_run_2 : decode cX0_run 2 = .ok (.putfield 22, 3) := by decide +kernel
theorem dX0_run_5 : decode cX0_run 5 = .ok (.aload_n 0, 1) := by decide +kernel
theorem dX0_run_6 : decode cX0_run 6 = .ok (.iload_n 1, 1) := by decide +kernel
theorem dX0_run_7 : decode cX0_run 7 = .ok (.invokevirtual 25, 3) := by decide +kernel
theorem dX0_run_10 : decode cX0_run 10 = .ok (.ifCond .eq 12, 3) := by decide +kernel
theorem dX0_run_13 : decode cX0_run 13 = .ok (.iload_n 2, 1) := by decide +kernel
theorem dX0_run_14 : decode cX0_run 14 = .ok (.iconst 0, 1) := by decide +kernel
theorem dX0_run_15 : decode cX0_run 15 = .ok (.iconst 3, 1) := by decide +kernel
theorem dX0_run_16 : decode cX0_run 16 = .ok (.invokestatic 36, 3) := by decide +kernel
theorem dX0_run_19 : decode cX0_run 19 = .ok (.ifCond .ne 5, 3) := by decide +kernel
theorem dX0_run_22 : decode cX0_run 22 = .ok (.iconst 0, 1) := by decide +kernel
theorem dX0_run_23 : decode cX0_run 23 = .ok (.ireturn, 1) := by decide +kernel
theorem dX0_run_24 : decode cX0_run 24 = .ok (.aload_n 0, 1) := by decide +kernel
theorem dX0_run_25 : decode cX0_run 25 = .ok (.iload_n 1, 1) := by decide +kernel
theorem dX0_run_26 : decode cX0_run 26 = .ok (.putfield 40, 3) := by decide +kernel
theorem dX0_run_29 : decode cX0_run 29 = .ok (.aload_n 0, 1) := by decide +kernel
theorem dX0_run_30 : decode cX0_run 30 = .ok (.iload_n 2, 1) := by decide +kernel
theorem dX0_run_31 : decode cX0_run 31 = .ok (.iload_n 3, 1) := by decide +kernel
theorem dX0_run_32 : decode cX0_run 32 = .ok (.iconst 0, 1) := by decide +kernel
theorem dX0_run_33 : decode cX0_run 33 = .ok (.invokevirtual 43, 3) := by decide +kernel
theorem dX0_run_36 : decode cX0_run 36 = .ok (.ireturn, 1) := by decide +kernel
theorem dX0_traced_0 : decode cX0_traced 0 = .ok (.iload_n 1, 1) := by decide +kernel
theorem dX0_traced_1 : decode cX0_traced 1 = .ok (.ifCond .lt 26, 3) := by decide +kernel
theorem dX0_traced_4 : decode cX0_traced 4 = .ok (.iload_n 1, 1) := by decide +kernel
theorem dX0_traced_5 : decode cX0_traced 5 = .ok (.aload_n 0, 1) := by decide +kernel
theorem dX0_traced_6 : decode cX0_traced 6 = .ok (.getfield 22, 3) := by decide +kernel
theorem dX0_traced_9 : decode cX0_traced 9 = .ok (.if_icmp .ge 18, 3) := by decide +kernel
theorem dX0_traced_12 : decode cX0_traced 12 = .ok (.iload_n 1, 1) := by decide +kernel
theorem dX0_traced_13 : decode cX0_traced 13 = .ok (.bipush 24, 2) := by decide +kernel
theorem dX0_traced_15 : decode cX0_traced 15 = .ok (.if_icmp .ge 12, 3) := by decide +kernel
theorem dX0_traced_18 : decode cX0_traced 18 = .ok (.aload_n 0, 1) := by decide +kernel
theorem dX0_traced_19 : decode cX0_traced 19 = .ok (.getfield 15, 3) := by decide +kernel
theorem dX0_traced_22 : decode cX0_traced 22 = .ok (.iload_n 1, 1) := by decide +kernel
theorem dX0_traced_23 : decode cX0_traced 23 = .ok (.iaload, 1) := by decide +kernel
theorem dX0_traced_24 : decode cX0_traced 24 = .ok (.goto 4, 3) := by decide +kernel
theorem dX0_traced_27 : decode cX0_traced 27 = .ok (.iconst (-1), 1) := by decide +kernel
theorem dX0_traced_28 : decode cX0_traced 28 = .ok (.ireturn, 1) := by decide +kernel
theorem dX0_self_0 : decode cX0_self 0 = .ok (.aload_n 0, 1) := by decide +kernel
theorem dX0_self_1 : decode cX0_self 1 = .ok (.aload_n 0, 1) := by decide +kernel
theorem dX0_self_2 : decode cX0_self 2 = .ok (.aload_n 0, 1) := by decide +kernel
theorem dX0_self_3 : decode cX0_self 3 = .ok (.getfield 40, 3) := by decide +kernel
theorem dX0_self_6 : decode cX0_self 6 = .ok (.invokevirtual 47, 3) := by decide +kernel
theorem dX0_self_9 : decode cX0_self 9 = .ok (.iload_n 1, 1) := by decide +kernel
theorem dX0_self_10 : decode cX0_self 10 = .ok (.iload_n 2, 1) := by decide +kernel
theorem dX0_self_11 : decode cX0_self 11 = .ok (.iload_n 3, 1) := by decide +kernel
theorem dX0_self_12 : decode cX0_self 12 = .ok (.invokevirtual 50, 3) := by decide +kernel
theorem dX0_self_15 : decode cX0_self 15 = .ok (.ireturn, 1) := by decide +kernel
theorem dX0_from_0 : decode cX0_from 0 = .ok (.iload_n 1, 1) := by decide +kernel
theorem dX0_from_1 : decode cX0_from 1 = .ok (.istore 5, 2) := by decide +kernel
theorem dX0_from_3 : decode cX0_from 3 = .ok (.iconst 0, 1) := by decide +kernel
theorem dX0_from_4 : decode cX0_from 4 = .ok (.istore 6, 2) := by decide +kernel
theorem dX0_from_6 : decode cX0_from 6 = .ok (.iload 6, 2) := by decide +kernel
theorem dX0_from_8 : decode cX0_from 8 = .ok (.bipush 8, 2) := by decide +kernel
theorem dX0_from_10 : decode cX0_from 10 = .ok (.if_icmp .ge 46, 3) := by decide +kernel
theorem dX0_from_13 : decode cX0_from 13 = .ok (.iload 5, 2) := by decide +kernel
theorem dX0_from_15 : decode cX0_from 15 = .ok (.ifCond .lt 41, 3) := by decide +kernel
theorem dX0_from_18 : decode cX0_from 18 = .ok (.iload 5, 2) := by decide +kernel
theorem dX0_from_20 : decode cX0_from 20 = .ok (.iload_n 2, 1) := by decide +kernel
theorem dX0_from_21 : decode cX0_from 21 = .ok (.invokestatic 54, 3) := by decide +kernel
theorem dX0_from_24 : decode cX0_from 24 = .ok (.ifCond .eq 19, 3) := by decide +kernel
theorem dX0_from_27 : decode cX0_from 27 = .ok (.aload_n 0, 1) := by decide +kernel
theorem dX0_from_28 : decode cX0_from 28 = .ok (.iload 5, 2) := by decide +kernel
theorem dX0_from_30 : decode cX0_from 30 = .ok (.iload_n 2, 1) := by decide +kernel
theorem dX0_from_31 : decode cX0_from 31 = .ok (.invokestatic 54, 3) := by decide +kernel
theorem dX0_from_34 : decode cX0_from 34 = .ok (.iload 5, 2) := by decide +kernel
theorem dX0_from_36 : decode cX0_from 36 = .ok (.iload_n 3, 1) := by decide +kernel
theorem dX0_from_37 : decode cX0_from 37 = .ok (.iload 4, 2) := by decide +kernel
theorem dX0_from_39 : decode cX0_from 39 = .ok (.invokevirtual 58, 3) := by decide +kernel
theorem dX0_from_42 : decode cX0_from 42 = .ok (.ireturn, 1) := by decide +kernel
theorem dX0_from_43 : decode cX0_from 43 = .ok (.iload 5, 2) := by decide +kernel
theorem dX0_from_45 : decode cX0_from 45 = .ok (.invokestatic 32, 3) := by decide +kernel
theorem dX0_from_48 : decode cX0_from 48 = .ok (.istore 5, 2) := by decide +kernel
theorem dX0_from_50 : decode cX0_from 50 = .ok (.iinc 6 1, 3) := by decide +kernel
theorem dX0_from_53 : decode cX0_from 53 = .ok (.goto (-47), 3) := by decide +kernel
theorem dX0_from_56 : decode cX0_from 56 = .ok (.iconst 0, 1) := by decide +kernel
theorem dX0_from_57 : decode cX0_from 57 = .ok (.ireturn, 1) := by decide +kernel
theorem dX0_ownBody_0 : decode cX0_ownBody 0 = .ok (.iconst 4, 1) := by decide +kernel
theorem dX0_ownBody_1 : decode cX0_ownBody 1 = .ok (.iload_n 0, 1) := by decide +kernel
theorem dX0_ownBody_2 : decode cX0_ownBody 2 = .ok (.imul, 1) := by decide +kernel
theorem dX0_ownBody_3 : decode cX0_ownBody 3 = .ok (.iload_n 1, 1) := by decide +kernel
theorem dX0_ownBody_4 : decode cX0_ownBody 4 = .ok (.iadd, 1) := by decide +kernel
theorem dX0_ownBody_5 : decode cX0_ownBody 5 = .ok (.istore_n 2, 1) := by decide +kernel
theorem dX0_ownBody_6 : decode cX0_ownBody 6 = .ok (.iload_n 2, 1) := by decide +kernel
theorem dX0_ownBody_7 : decode cX0_ownBody 7 = .ok (.ifCond .lt 19, 3) := by decide +kernel
theorem dX0_ownBody_10 : decode cX0_ownBody 10 = .ok (.iload_n 2, 1) := by decide +kernel
theorem dX0_ownBody_11 : decode cX0_ownBody 11 = .ok (.getstatic 61, 3) := by decide +kernel
theorem dX0_ownBody_14 : decode cX0_ownBody 14 = .ok (.arraylength, 1) := by decide +kernel
theorem dX0_ownBody_15 : decode cX0_ownBody 15 = .ok (.if_icmp .ge 11, 3) := by decide +kernel
theorem dX0_ownBody_18 : decode cX0_ownBody 18 = .ok (.getstatic 61, 3) := by decide +kernel
theorem dX0_ownBody_21 : decode cX0_ownBody 21 = .ok (.iload_n 2, 1) := by decide +kernel
theorem dX0_ownBody_22 : decode cX0_ownBody 22 = .ok (.iaload, 1) := by decide +kernel
theorem dX0_ownBody_23 : decode cX0_ownBody 23 = .ok (.goto 4, 3) := by decide +kernel
theorem dX0_ownBody_26 : decode cX0_ownBody 26 = .ok (.iconst 0, 1) := by decide +kernel
theorem dX0_ownBody_27 : decode cX0_ownBody 27 = .ok (.ireturn, 1) := by decide +kernel
theorem dX0_begin_0 : decode cX0_begin 0 = .ok (.iload 4, 2) := by decide +kernel
theorem dX0_begin_2 : decode cX0_begin 2 = .ok (.bipush 30, 2) := by decide +kernel
theorem dX0_begin_4 : decode cX0_begin 4 = .ok (.if_icmp .lt 5, 3) := by decide +kernel
theorem dX0_begin_7 : decode cX0_begin 7 = .ok (.iconst 0, 1) := by decide +kernel
theorem dX0_begin_8 : decode cX0_begin 8 = .ok (.ireturn, 1) := by decide +kernel
theorem dX0_begin_9 : decode cX0_begin 9 = .ok (.aload_n 0, 1) := by decide +kernel
theorem dX0_begin_10 : decode cX0_begin 10 = .ok (.getfield 22, 3) := by decide +kernel
theorem dX0_begin_13 : decode cX0_begin 13 = .ok (.bipush 24, 2) := by decide +kernel
theorem dX0_begin_15 : decode cX0_begin 15 = .ok (.if_icmp .ge 13, 3) := by decide +kernel
theorem dX0_begin_18 : decode cX0_begin 18 = .ok (.aload_n 0, 1) := by decide +kernel
theorem dX0_begin_19 : decode cX0_begin 19 = .ok (.getfield 15, 3) := by decide +kernel
theorem dX0_begin_22 : decode cX0_begin 22 = .ok (.aload_n 0, 1) := by decide +kernel
theorem dX0_begin_23 : decode cX0_begin 23 = .ok (.getfield 22, 3) := by decide +kernel
theorem dX0_begin_26 : decode cX0_begin 26 = .ok (.iload_n 1, 1) := by decide +kernel
theorem dX0_begin_27 : decode cX0_begin 27 = .ok (.iastore, 1) := by decide +kernel
theorem dX0_begin_28 : decode cX0_begin 28 = .ok (.aload_n 0, 1) := by decide +kernel
theorem dX0_begin_29 : decode cX0_begin 29 = .ok (.dup, 1) := by decide +kernel
theorem dX0_begin_30 : decode cX0_begin 30 = .ok (.getfield 22, 3) := by decide +kernel
theorem dX0_begin_33 : decode cX0_begin 33 = .ok (.iconst 1, 1) := by decide +kernel
theorem dX0_begin_34 : decode cX0_begin 34 = .ok (.iadd, 1) := by decide +kernel
theorem dX0_begin_35 : decode cX0_begin 35 = .ok (.putfield 22, 3) := by decide +kernel
theorem dX0_begin_38 : decode cX0_begin 38 = .ok (.iload_n 2, 1) := by decide +kernel
theorem dX0_begin_39 : decode cX0_begin 39 = .ok (.invokestatic 32, 3) := by decide +kernel
theorem dX0_begin_42 : decode cX0_begin 42 = .ok (.istore 5, 2) := by decide +kernel
theorem dX0_begin_44 : decode cX0_begin 44 = .ok (.iload 4, 2) := by decide +kernel
theorem dX0_begin_46 : decode cX0_begin 46 = .ok (.iconst 1, 1) := by decide +kernel
theorem dX0_begin_47 : decode cX0_begin 47 = .ok (.iadd, 1) := by decide +kernel
theorem dX0_begin_48 : decode cX0_begin 48 = .ok (.istore 6, 2) := by decide +kernel
theorem dX0_begin_50 : decode cX0_begin 50 = .ok (.iload_n 1, 1) := by decide +kernel
theorem dX0_begin_51 : decode cX0_begin 51 = .ok (.lookupswitch 286 #[(1, 113), (2, 120), (10, 138), (11, 149), (20, 156), (30, 169), (40, 181), (41, 194), (50, 207), (60, 227), (70, 240), (80, 253), (81, 273)], 113) := by decide +kernel
theorem dX0_begin_164 : decode cX0_begin 164 = .ok (.iload_n 3, 1) := by decide +kernel
theorem dX0_begin_165 : decode cX0_begin 165 = .ok (.aload_n 0, 1) := by decide +kernel
theorem dX0_begin_166 : decode cX0_begin 166 = .ok (.getfield 40, 3) := by decide +kernel
theorem dX0_begin_169 : decode cX0_begin 169 = .ok (.iadd, 1) := by decide +kernel
theorem dX0_begin_170 : decode cX0_begin 170 = .ok (.ireturn, 1) := by decide +kernel
theorem dX0_begin_171 : decode cX0_begin 171 = .ok (.aload_n 0, 1) := by decide +kernel
theorem dX0_begin_172 : decode cX0_begin 172 = .ok (.iconst 1, 1) := by decide +kernel
theorem dX0_begin_173 : decode cX0_begin 173 = .ok (.iload_n 3, 1) := by decide +kernel
theorem dX0_begin_174 : decode cX0_begin 174 = .ok (.iload 6, 2) := by decide +kernel
theorem dX0_begin_176 : decode cX0_begin 176 = .ok (.invokevirtual 43, 3) := by decide +kernel
theorem dX0_begin_179 : decode cX0_begin 179 = .ok (.aload_n 0, 1) := by decide +kernel
theorem dX0_begin_180 : decode cX0_begin 180 = .ok (.iconst 2, 1) := by decide +kernel
theorem dX0_begin_181 : decode cX0_begin 181 = .ok (.iconst 1, 1) := by decide +kernel
theorem dX0_begin_182 : decode cX0_begin 182 = .ok (.iload 6, 2) := by decide +kernel
theorem dX0_begin_184 : decode cX0_begin 184 = .ok (.invokevirtual 43, 3) := by decide +kernel
theorem dX0_begin_187 : decode cX0_begin 187 = .ok (.isub, 1) := by decide +kernel
theorem dX0_begin_188 : decode cX0_begin 188 = .ok (.ireturn, 1) := by decide +kernel
theorem dX0_begin_189 : decode cX0_begin 189 = .ok (.aload_n 0, 1) := by decide +kernel
theorem dX0_begin_190 : decode cX0_begin 190 = .ok (.iconst 0, 1) := by decide +kernel
theorem dX0_begin_191 : decode cX0_begin 191 = .ok (.iload_n 3, 1) := by decide +kernel
theorem dX0_begin_192 : decode cX0_begin 192 = .ok (.iload 6, 2) := by decide +kernel
theorem dX0_begin_194 : decode cX0_begin 194 = .ok (.invokevirtual 43, 3) := by decide +kernel
theorem dX0_begin_197 : decode cX0_begin 197 = .ok (.iconst 2, 1) := by decide +kernel
theorem dX0_begin_198 : decode cX0_begin 198 = .ok (.imul, 1) := by decide +kernel
theorem dX0_begin_199 : decode cX0_begin 199 = .ok (.ireturn, 1) := by decide +kernel
theorem dX0_begin_200 : decode cX0_begin 200 = .ok (.iload_n 3, 1) := by decide +kernel
theorem dX0_begin_201 : decode cX0_begin 201 = .ok (.aload_n 0, 1) := by decide +kernel
theorem dX0_begin_202 : decode cX0_begin 202 = .ok (.getfield 40, 3) := by decide +kernel
theorem dX0_begin_205 : decode cX0_begin 205 = .ok (.ixor, 1) := by decide +kernel
theorem dX0_begin_206 : decode cX0_begin 206 = .ok (.ireturn, 1) := by decide +kernel
theorem dX0_begin_207 : decode cX0_begin 207 = .ok (.aload_n 0, 1) := by decide +kernel
theorem dX0_begin_208 : decode cX0_begin 208 = .ok (.iload 5, 2) := by decide +kernel
theorem dX0_begin_210 : decode cX0_begin 210 = .ok (.iconst 0, 1) := by decide +kernel
theorem dX0_begin_211 : decode cX0_begin 211 = .ok (.iload_n 3, 1) := by decide +kernel
theorem dX0_begin_212 : decode cX0_begin 212 = .ok (.iload 6, 2) := by decide +kernel
theorem dX0_begin_214 : decode cX0_begin 214 = .ok (.invokevirtual 50, 3) := by decide +kernel
theorem dX0_begin_217 : decode cX0_begin 217 = .ok (.iconst 3, 1) := by decide +kernel
theorem dX0_begin_218 : decode cX0_begin 218 = .ok (.iadd, 1) := by decide +kernel
theorem dX0_begin_219 : decode cX0_begin 219 = .ok (.ireturn, 1) := by decide +kernel
theorem dX0_begin_220 : decode cX0_begin 220 = .ok (.aload_n 0, 1) := by decide +kernel
theorem dX0_begin_221 : decode cX0_begin 221 = .ok (.iload 5, 2) := by decide +kernel
theorem dX0_begin_223 : decode cX0_begin 223 = .ok (.iconst 1, 1) := by decide +kernel
theorem dX0_begin_224 : decode cX0_begin 224 = .ok (.iload_n 3, 1) := by decide +kernel
theorem dX0_begin_225 : decode cX0_begin 225 = .ok (.iload 6, 2) := by decide +kernel
theorem dX0_begin_227 : decode cX0_begin 227 = .ok (.invokevirtual 50, 3) := by decide +kernel
theorem dX0_begin_230 : decode cX0_begin 230 = .ok (.ineg, 1) := by decide +kernel
theorem dX0_begin_231 : decode cX0_begin 231 = .ok (.ireturn, 1) := by decide +kernel
theorem dX0_begin_232 : decode cX0_begin 232 = .ok (.aload_n 0, 1) := by decide +kernel
theorem dX0_begin_233 : decode cX0_begin 233 = .ok (.iload 5, 2) := by decide +kernel
theorem dX0_begin_235 : decode cX0_begin 235 = .ok (.iconst 2, 1) := by decide +kernel
theorem dX0_begin_236 : decode cX0_begin 236 = .ok (.iload_n 3, 1) := by decide +kernel
theorem dX0_begin_237 : decode cX0_begin 237 = .ok (.iload 6, 2) := by decide +kernel
theorem dX0_begin_239 : decode cX0_begin 239 = .ok (.invokevirtual 50, 3) := by decide +kernel
theorem dX0_begin_242 : decode cX0_begin 242 = .ok (.iconst 3, 1) := by decide +kernel
theorem dX0_begin_243 : decode cX0_begin 243 = .ok (.imul, 1) := by decide +kernel
theorem dX0_begin_244 : decode cX0_begin 244 = .ok (.ireturn, 1) := by decide +kernel
theorem dX0_begin_245 : decode cX0_begin 245 = .ok (.aload_n 0, 1) := by decide +kernel
theorem dX0_begin_246 : decode cX0_begin 246 = .ok (.iload 5, 2) := by decide +kernel
theorem dX0_begin_248 : decode cX0_begin 248 = .ok (.iconst 0, 1) := by decide +kernel
theorem dX0_begin_249 : decode cX0_begin 249 = .ok (.iload_n 3, 1) := by decide +kernel
theorem dX0_begin_250 : decode cX0_begin 250 = .ok (.iconst 1, 1) := by decide +kernel
theorem dX0_begin_251 : decode cX0_begin 251 = .ok (.iadd, 1) := by decide +kernel
theorem dX0_begin_252 : decode cX0_begin 252 = .ok (.iload 6, 2) := by decide +kernel
theorem dX0_begin_254 : decode cX0_begin 254 = .ok (.invokevirtual 50, 3) := by decide +kernel
theorem dX0_begin_257 : decode cX0_begin 257 = .ok (.ireturn, 1) := by decide +kernel
theorem dX0_begin_258 : decode cX0_begin 258 = .ok (.aload_n 0, 1) := by decide +kernel
theorem dX0_begin_259 : decode cX0_begin 259 = .ok (.iload 5, 2) := by decide +kernel
theorem dX0_begin_261 : decode cX0_begin 261 = .ok (.iconst 2, 1) := by decide +kernel
theorem dX0_begin_262 : decode cX0_begin 262 = .ok (.iload_n 3, 1) := by decide +kernel
theorem dX0_begin_263 : decode cX0_begin 263 = .ok (.iload 6, 2) := by decide +kernel
theorem dX0_begin_265 : decode cX0_begin 265 = .ok (.invokevirtual 50, 3) := by decide +kernel
theorem dX0_begin_268 : decode cX0_begin 268 = .ok (.aload_n 0, 1) := by decide +kernel
theorem dX0_begin_269 : decode cX0_begin 269 = .ok (.iconst 0, 1) := by decide +kernel
theorem dX0_begin_270 : decode cX0_begin 270 = .ok (.iconst 2, 1) := by decide +kernel
theorem dX0_begin_271 : decode cX0_begin 271 = .ok (.iload 6, 2) := by decide +kernel
theorem dX0_begin_273 : decode cX0_begin 273 = .ok (.invokevirtual 43, 3) := by decide +kernel
theorem dX0_begin_276 : decode cX0_begin 276 = .ok (.isub, 1) := by decide +kernel
theorem dX0_begin_277 : decode cX0_begin 277 = .ok (.ireturn, 1) := by decide +kernel
theorem dX0_begin_278 : decode cX0_begin 278 = .ok (.aload_n 0, 1) := by decide +kernel
theorem dX0_begin_279 : decode cX0_begin 279 = .ok (.iload 5, 2) := by decide +kernel
theorem dX0_begin_281 : decode cX0_begin 281 = .ok (.iconst 3, 1) := by decide +kernel
theorem dX0_begin_282 : decode cX0_begin 282 = .ok (.iload_n 3, 1) := by decide +kernel
theorem dX0_begin_283 : decode cX0_begin 283 = .ok (.iload 6, 2) := by decide +kernel
theorem dX0_begin_285 : decode cX0_begin 285 = .ok (.invokevirtual 50, 3) := by decide +kernel
theorem dX0_begin_288 : decode cX0_begin 288 = .ok (.iconst 5, 1) := by decide +kernel
theorem dX0_begin_289 : decode cX0_begin 289 = .ok (.ixor, 1) := by decide +kernel
theorem dX0_begin_290 : decode cX0_begin 290 = .ok (.ireturn, 1) := by decide +kernel
theorem dX0_begin_291 : decode cX0_begin 291 = .ok (.aload_n 0, 1) := by decide +kernel
theorem dX0_begin_292 : decode cX0_begin 292 = .ok (.iload 5, 2) := by decide +kernel
theorem dX0_begin_294 : decode cX0_begin 294 = .ok (.iconst 0, 1) := by decide +kernel
theorem dX0_begin_295 : decode cX0_begin 295 = .ok (.iload_n 3, 1) := by decide +kernel
theorem dX0_begin_296 : decode cX0_begin 296 = .ok (.iload 6, 2) := by decide +kernel
theorem dX0_begin_298 : decode cX0_begin 298 = .ok (.invokevirtual 50, 3) := by decide +kernel
theorem dX0_begin_301 : decode cX0_begin 301 = .ok (.iconst 2, 1) := by decide +kernel
theorem dX0_begin_302 : decode cX0_begin 302 = .ok (.imul, 1) := by decide +kernel
theorem dX0_begin_303 : decode cX0_begin 303 = .ok (.ireturn, 1) := by decide +kernel
theorem dX0_begin_304 : decode cX0_begin 304 = .ok (.aload_n 0, 1) := by decide +kernel
theorem dX0_begin_305 : decode cX0_begin 305 = .ok (.iload 5, 2) := by decide +kernel
theorem dX0_begin_307 : decode cX0_begin 307 = .ok (.iconst 1, 1) := by decide +kernel
theorem dX0_begin_308 : decode cX0_begin 308 = .ok (.iload_n 3, 1) := by decide +kernel
theorem dX0_begin_309 : decode cX0_begin 309 = .ok (.iload 6, 2) := by decide +kernel
theorem dX0_begin_311 : decode cX0_begin 311 = .ok (.invokevirtual 50, 3) := by decide +kernel
theorem dX0_begin_314 : decode cX0_begin 314 = .ok (.aload_n 0, 1) := by decide +kernel
theorem dX0_begin_315 : decode cX0_begin 315 = .ok (.iconst 2, 1) := by decide +kernel
theorem dX0_begin_316 : decode cX0_begin 316 = .ok (.iconst 2, 1) := by decide +kernel
theorem dX0_begin_317 : decode cX0_begin 317 = .ok (.iload 6, 2) := by decide +kernel
theorem dX0_begin_319 : decode cX0_begin 319 = .ok (.invokevirtual 43, 3) := by decide +kernel
theorem dX0_begin_322 : decode cX0_begin 322 = .ok (.iadd, 1) := by decide +kernel
theorem dX0_begin_323 : decode cX0_begin 323 = .ok (.ireturn, 1) := by decide +kernel
theorem dX0_begin_324 : decode cX0_begin 324 = .ok (.aload_n 0, 1) := by decide +kernel
theorem dX0_begin_325 : decode cX0_begin 325 = .ok (.iload 5, 2) := by decide +kernel
theorem dX0_begin_327 : decode cX0_begin 327 = .ok (.iconst 3, 1) := by decide +kernel
theorem dX0_begin_328 : decode cX0_begin 328 = .ok (.iload_n 3, 1) := by decide +kernel
theorem dX0_begin_329 : decode cX0_begin 329 = .ok (.iload 6, 2) := by decide +kernel
theorem dX0_begin_331 : decode cX0_begin 331 = .ok (.invokevirtual 50, 3) := by decide +kernel
theorem dX0_begin_334 : decode cX0_begin 334 = .ok (.iconst 1, 1) := by decide +kernel
theorem dX0_begin_335 : decode cX0_begin 335 = .ok (.isub, 1) := by decide +kernel
theorem dX0_begin_336 : decode cX0_begin 336 = .ok (.ireturn, 1) := by decide +kernel
theorem dX0_begin_337 : decode cX0_begin 337 = .ok (.iconst 0, 1) := by decide +kernel
theorem dX0_begin_338 : decode cX0_begin 338 = .ok (.ireturn, 1) := by decide +kernel
theorem dX1_init_0 : decode cX1_init 0 = .ok (.aload_n 0, 1) := by decide +kernel
theorem dX1_init_1 : decode cX1_init 1 = .ok (.invokespecial 1, 3) := by decide +kernel
theorem dX1_init_4 : decode cX1_init 4 = .ok (.aload_n 0, 1) := by decide +kernel
theorem dX1_init_5 : decode cX1_init 5 = .ok (.bipush 40, 2) := by decide +kernel
theorem dX1_init_7 : decode cX1_init 7 = .ok (.newarray .int, 2) := by decide +kernel
theorem dX1_init_9 : decode cX1_init 9 = .ok (.putfield 9, 3) := by decide +kernel
theorem dX1_init_12 : decode cX1_init 12 = .ok (.aload_n 0, 1) := by decide +kernel
theorem dX1_init_13 : decode cX1_init 13 = .ok (.bipush 40, 2) := by decide +kernel
theorem dX1_init_15 : decode cX1_init 15 = .ok (.newarray .int, 2) := by decide +kernel
theorem dX1_init_17 : decode cX1_init 17 = .ok (.putfield 13, 3) := by decide +kernel
theorem dX1_init_20 : decode cX1_init 20 = .ok (.aload_n 0, 1) := by decide +kernel
theorem dX1_init_21 : decode cX1_init 21 = .ok (.bipush 40, 2) := by decide +kernel
theorem dX1_init_23 : decode cX1_init 23 = .ok (.newarray .int, 2) := by decide +kernel
theorem dX1_init_25 : decode cX1_init 25 = .ok (.putfield 16, 3) := by decide +kernel
theorem dX1_init_28 : decode cX1_init 28 = .ok (.aload_n 0, 1) := by decide +kernel
theorem dX1_init_29 : decode cX1_init 29 = .ok (.bipush 40, 2) := by decide +kernel
theorem dX1_init_31 : decode cX1_init 31 = .ok (.newarray .int, 2) := by decide +kernel
theorem dX1_init_33 : decode cX1_init 33 = .ok (.putfield 19, 3) := by decide +kernel
theorem dX1_init_36 : decode cX1_init 36 = .ok (.return_, 1) := by decide +kernel
theorem dX1_undoable_0 : decode cX1_undoable 0 = .ok (.aload_n 0, 1) := by decide +kernel
theorem dX1_undoable_1 : decode cX1_undoable 1 = .ok (.getfield 22, 3) := by decide +kernel
theorem dX1_undoable_4 : decode cX1_undoable 4 = .ok (.ireturn, 1) := by decide +kernel
theorem dX1_redoable_0 : decode cX1_redoable 0 = .ok (.aload_n 0, 1) := by decide +kernel
theorem dX1_redoable_1 : decode cX1_redoable 1 = .ok (.getfield 26, 3) := by decide +kernel
theorem dX1_redoable_4 : decode cX1_redoable 4 = .ok (.aload_n 0, 1) := by decide +kernel
theorem dX1_redoable_5 : decode cX1_redoable 5 = .ok (.getfield 22, 3) := by decide +kernel
theorem dX1_redoable_8 : decode cX1_redoable 8 = .ok (.isub, 1) := by decide +kernel
theorem dX1_redoable_9 : decode cX1_redoable 9 = .ok (.ireturn, 1) := by decide +kernel
theorem dX1_add_0 : decode cX1_add 0 = .ok (.aload_n 0, 1) := by decide +kernel
theorem dX1_add_1 : decode cX1_add 1 = .ok (.getfield 22, 3) := by decide +kernel
theorem dX1_add_4 : decode cX1_add 4 = .ok (.bipush 40, 2) := by decide +kernel
theorem dX1_add_6 : decode cX1_add 6 = .ok (.if_icmp .lt 7, 3) := by decide +kernel
theorem dX1_add_9 : decode cX1_add 9 = .ok (.aload_n 0, 1) := by decide +kernel
theorem dX1_add_10 : decode cX1_add 10 = .ok (.invokevirtual 29, 3) := by decide +kernel
theorem dX1_add_13 : decode cX1_add 13 = .ok (.aload_n 0, 1) := by decide +kernel
theorem dX1_add_14 : decode cX1_add 14 = .ok (.getfield 9, 3) := by decide +kernel
theorem dX1_add_17 : decode cX1_add 17 = .ok (.aload_n 0, 1) := by decide +kernel
theorem dX1_add_18 : decode cX1_add 18 = .ok (.getfield 22, 3) := by decide +kernel
theorem dX1_add_21 : decode cX1_add 21 = .ok (.iload_n 1, 1) := by decide +kernel
theorem dX1_add_22 : decode cX1_add 22 = .ok (.iastore, 1) := by decide +kernel
theorem dX1_add_23 : decode cX1_add 23 = .ok (.aload_n 0, 1) := by decide +kernel
theorem dX1_add_24 : decode cX1_add 24 = .ok (.getfield 13, 3) := by decide +kernel
theorem dX1_add_27 : decode cX1_add 27 = .ok (.aload_n 0, 1) := by decide +kernel
theorem dX1_add_28 : decode cX1_add 28 = .ok (.getfield 22, 3) := by decide +kernel
theorem dX1_add_31 : decode cX1_add 31 = .ok (.iload_n 2, 1) := by decide +kernel
theorem dX1_add_32 : decode cX1_add 32 = .ok (.iastore, 1) := by decide +kernel
theorem dX1_add_33 : decode cX1_add 33 = .ok (.aload_n 0, 1) := by decide +kernel
theorem dX1_add_34 : decode cX1_add 34 = .ok (.getfield 16, 3) := by decide +kernel
theorem dX1_add_37 : decode cX1_add 37 = .ok (.aload_n 0, 1) := by decide +kernel
theorem dX1_add_38 : decode cX1_add 38 = .ok (.getfield 22, 3) := by decide +kernel
theorem dX1_add_41 : decode cX1_add 41 = .ok (.iload_n 3, 1) := by decide +kernel
theorem dX1_add_42 : decode cX1_add 42 = .ok (.iastore, 1) := by decide +kernel
theorem dX1_add_43 : decode cX1_add 43 = .ok (.aload_n 0, 1) := by decide +kernel
theorem dX1_add_44 : decode cX1_add 44 = .ok (.getfield 19, 3) := by decide +kernel
theorem dX1_add_47 : decode cX1_add 47 = .ok (.aload_n 0, 1) := by decide +kernel
theorem dX1_add_48 : decode cX1_add 48 = .ok (.getfield 22, 3) := by decide +kernel
theorem dX1_add_51 : decode cX1_add 51 = .ok (.iload 4, 2) := by decide +kernel
theorem dX1_add_53 : decode cX1_add 53 = .ok (.iastore, 1) := by decide +kernel
theorem dX1_add_54 : decode cX1_add 54 = .ok (.aload_n 0, 1) := by decide +kernel
theorem dX1_add_55 : decode cX1_add 55 = .ok (.dup, 1) := by decide +kernel
theorem dX1_add_56 : decode cX1_add 56 = .ok (.getfield 22, 3) := by decide +kernel
theorem dX1_add_59 : decode cX1_add 59 = .ok (.iconst 1, 1) := by decide +kernel
theorem dX1_add_60 : decode cX1_add 60 = .ok (.iadd, 1) := by decide +kernel
theorem dX1_add_61 : decode cX1_add 61 = .ok (.putfield 22, 3) := by decide +kernel
theorem dX1_add_64 : decode cX1_add 64 = .ok (.aload_n 0, 1) := by decide +kernel
theorem dX1_add_65 : decode cX1_add 65 = .ok (.aload_n 0, 1) := by decide +kernel
theorem dX1_add_66 : decode cX1_add 66 = .ok (.getfield 22, 3) := by decide +kernel
theorem dX1_add_69 : decode cX1_add 69 = .ok (.putfield 26, 3) := by decide +kernel
theorem dX1_add_72 : decode cX1_add 72 = .ok (.return_, 1) := by decide +kernel
theorem dX1_forgetOldest_0 : decode cX1_forgetOldest 0 = .ok (.iconst 1, 1) := by decide +kernel
theorem dX1_forgetOldest_1 : decode cX1_forgetOldest 1 = .ok (.istore_n 1, 1) := by decide +kernel
theorem dX1_forgetOldest_2 : decode cX1_forgetOldest 2 = .ok (.iload_n 1, 1) := by decide +kernel
theorem dX1_forgetOldest_3 : decode cX1_forgetOldest 3 = .ok (.bipush 40, 2) := by decide +kernel
theorem dX1_forgetOldest_5 : decode cX1_forgetOldest 5 = .ok (.if_icmp .ge 65, 3) := by decide +kernel
theorem dX1_forgetOldest_8 : decode cX1_forgetOldest 8 = .ok (.aload_n 0, 1) := by decide +kernel
theorem dX1_forgetOldest_9 : decode cX1_forgetOldest 9 = .ok (.getfield 9, 3) := by decide +kernel
theorem dX1_forgetOldest_12 : decode cX1_forgetOldest 12 = .ok (.iload_n 1, 1) := by decide +kernel
theorem dX1_forgetOldest_13 : decode cX1_forgetOldest 13 = .ok (.iconst 1, 1) := by decide +kernel
theorem dX1_forgetOldest_14 : decode cX1_forgetOldest 14 = .ok (.isub, 1) := by decide +kernel
theorem dX1_forgetOldest_15 : decode cX1_forgetOldest 15 = .ok (.aload_n 0, 1) := by decide +kernel
theorem dX1_forgetOldest_16 : decode cX1_forgetOldest 16 = .ok (.getfield 9, 3) := by decide +kernel
theorem dX1_forgetOldest_19 : decode cX1_forgetOldest 19 = .ok (.iload_n 1, 1) := by decide +kernel
theorem dX1_forgetOldest_20 : decode cX1_forgetOldest 20 = .ok (.iaload, 1) := by decide +kernel
theorem dX1_forgetOldest_21 : decode cX1_forgetOldest 21 = .ok (.iastore, 1) := by decide +kernel
theorem dX1_forgetOldest_22 : decode cX1_forgetOldest 22 = .ok (.aload_n 0, 1) := by decide +kernel
theorem dX1_forgetOldest_23 : decode cX1_forgetOldest 23 = .ok (.getfield 13, 3) := by decide +kernel
theorem dX1_forgetOldest_26 : decode cX1_forgetOldest 26 = .ok (.iload_n 1, 1) := by decide +kernel
theorem dX1_forgetOldest_27 : decode cX1_forgetOldest 27 = .ok (.iconst 1, 1) := by decide +kernel
theorem dX1_forgetOldest_28 : decode cX1_forgetOldest 28 = .ok (.isub, 1) := by decide +kernel
theorem dX1_forgetOldest_29 : decode cX1_forgetOldest 29 = .ok (.aload_n 0, 1) := by decide +kernel
theorem dX1_forgetOldest_30 : decode cX1_forgetOldest 30 = .ok (.getfield 13, 3) := by decide +kernel
theorem dX1_forgetOldest_33 : decode cX1_forgetOldest 33 = .ok (.iload_n 1, 1) := by decide +kernel
theorem dX1_forgetOldest_34 : decode cX1_forgetOldest 34 = .ok (.iaload, 1) := by decide +kernel
theorem dX1_forgetOldest_35 : decode cX1_forgetOldest 35 = .ok (.iastore, 1) := by decide +kernel
theorem dX1_forgetOldest_36 : decode cX1_forgetOldest 36 = .ok (.aload_n 0, 1) := by decide +kernel
theorem dX1_forgetOldest_37 : decode cX1_forgetOldest 37 = .ok (.getfield 16, 3) := by decide +kernel
theorem dX1_forgetOldest_40 : decode cX1_forgetOldest 40 = .ok (.iload_n 1, 1) := by decide +kernel
theorem dX1_forgetOldest_41 : decode cX1_forgetOldest 41 = .ok (.iconst 1, 1) := by decide +kernel
theorem dX1_forgetOldest_42 : decode cX1_forgetOldest 42 = .ok (.isub, 1) := by decide +kernel
theorem dX1_forgetOldest_43 : decode cX1_forgetOldest 43 = .ok (.aload_n 0, 1) := by decide +kernel
theorem dX1_forgetOldest_44 : decode cX1_forgetOldest 44 = .ok (.getfield 16, 3) := by decide +kernel
theorem dX1_forgetOldest_47 : decode cX1_forgetOldest 47 = .ok (.iload_n 1, 1) := by decide +kernel
theorem dX1_forgetOldest_48 : decode cX1_forgetOldest 48 = .ok (.iaload, 1) := by decide +kernel
theorem dX1_forgetOldest_49 : decode cX1_forgetOldest 49 = .ok (.iastore, 1) := by decide +kernel
theorem dX1_forgetOldest_50 : decode cX1_forgetOldest 50 = .ok (.aload_n 0, 1) := by decide +kernel
theorem dX1_forgetOldest_51 : decode cX1_forgetOldest 51 = .ok (.getfield 19, 3) := by decide +kernel
theorem dX1_forgetOldest_54 : decode cX1_forgetOldest 54 = .ok (.iload_n 1, 1) := by decide +kernel
theorem dX1_forgetOldest_55 : decode cX1_forgetOldest 55 = .ok (.iconst 1, 1) := by decide +kernel
theorem dX1_forgetOldest_56 : decode cX1_forgetOldest 56 = .ok (.isub, 1) := by decide +kernel
theorem dX1_forgetOldest_57 : decode cX1_forgetOldest 57 = .ok (.aload_n 0, 1) := by decide +kernel
theorem dX1_forgetOldest_58 : decode cX1_forgetOldest 58 = .ok (.getfield 19, 3) := by decide +kernel
theorem dX1_forgetOldest_61 : decode cX1_forgetOldest 61 = .ok (.iload_n 1, 1) := by decide +kernel
theorem dX1_forgetOldest_62 : decode cX1_forgetOldest 62 = .ok (.iaload, 1) := by decide +kernel
theorem dX1_forgetOldest_63 : decode cX1_forgetOldest 63 = .ok (.iastore, 1) := by decide +kernel
theorem dX1_forgetOldest_64 : decode cX1_forgetOldest 64 = .ok (.iinc 1 1, 3) := by decide +kernel
theorem dX1_forgetOldest_67 : decode cX1_forgetOldest 67 = .ok (.goto (-65), 3) := by decide +kernel
theorem dX1_forgetOldest_70 : decode cX1_forgetOldest 70 = .ok (.aload_n 0, 1) := by decide +kernel
theorem dX1_forgetOldest_71 : decode cX1_forgetOldest 71 = .ok (.bipush 39, 2) := by decide +kernel
theorem dX1_forgetOldest_73 : decode cX1_forgetOldest 73 = .ok (.putfield 22, 3) := by decide +kernel
theorem dX1_forgetOldest_76 : decode cX1_forgetOldest 76 = .ok (.return_, 1) := by decide +kernel
theorem dX1_stepBack_0 : decode cX1_stepBack 0 = .ok (.aload_n 0, 1) := by decide +kernel
theorem dX1_stepBack_1 : decode cX1_stepBack 1 = .ok (.getfield 22, 3) := by decide +kernel
theorem dX1_stepBack_4 : decode cX1_stepBack 4 = .ok (.ifCond .le 17, 3) := by decide +kernel
theorem dX1_stepBack_7 : decode cX1_stepBack 7 = .ok (.aload_n 0, 1) := by decide +kernel
theorem dX1_stepBack_8 : decode cX1_stepBack 8 = .ok (.dup, 1) := by decide +kernel
theorem dX1_stepBack_9 : decode cX1_stepBack 9 = .ok (.getfield 22, 3) := by decide +kernel
theorem dX1_stepBack_12 : decode cX1_stepBack 12 = .ok (.iconst 1, 1) := by decide +kernel
theorem dX1_stepBack_13 : decode cX1_stepBack 13 = .ok (.isub, 1) := by decide +kernel
theorem dX1_stepBack_14 : decode cX1_stepBack 14 = .ok (.dup_x1, 1) := by decide +kernel
theorem dX1_stepBack_15 : decode cX1_stepBack 15 = .ok (.putfield 22, 3) := by decide +kernel
theorem dX1_stepBack_18 : decode cX1_stepBack 18 = .ok (.goto 4, 3) := by decide +kernel
theorem dX1_stepBack_21 : decode cX1_stepBack 21 = .ok (.iconst (-1), 1) := by decide +kernel
theorem dX1_stepBack_22 : decode cX1_stepBack 22 = .ok (.ireturn, 1) := by decide +kernel
theorem dX1_stepOn_0 : decode cX1_stepOn 0 = .ok (.aload_n 0, 1) := by decide +kernel
theorem dX1_stepOn_1 : decode cX1_stepOn 1 = .ok (.getfield 22, 3) := by decide +kernel
theorem dX1_stepOn_4 : decode cX1_stepOn 4 = .ok (.aload_n 0, 1) := by decide +kernel
theorem dX1_stepOn_5 : decode cX1_stepOn 5 = .ok (.getfield 26, 3) := by decide +kernel
theorem dX1_stepOn_8 : decode cX1_stepOn 8 = .ok (.if_icmp .ge 17, 3) := by decide +kernel
theorem dX1_stepOn_11 : decode cX1_stepOn 11 = .ok (.aload_n 0, 1) := by decide +kernel
theorem dX1_stepOn_12 : decode cX1_stepOn 12 = .ok (.dup, 1) := by decide +kernel
theorem dX1_stepOn_13 : decode cX1_stepOn 13 = .ok (.getfield 22, 3) := by decide +kernel
theorem dX1_stepOn_16 : decode cX1_stepOn 16 = .ok (.dup_x1, 1) := by decide +kernel
theorem dX1_stepOn_17 : decode cX1_stepOn 17 = .ok (.iconst 1, 1) := by decide +kernel
theorem dX1_stepOn_18 : decode cX1_stepOn 18 = .ok (.iadd, 1) := by decide +kernel
theorem dX1_stepOn_19 : decode cX1_stepOn 19 = .ok (.putfield 22, 3) := by decide +kernel
theorem dX1_stepOn_22 : decode cX1_stepOn 22 = .ok (.goto 4, 3) := by decide +kernel
theorem dX1_stepOn_25 : decode cX1_stepOn 25 = .ok (.iconst (-1), 1) := by decide +kernel
theorem dX1_stepOn_26 : decode cX1_stepOn 26 = .ok (.ireturn, 1) := by decide +kernel
theorem dX1_isPlace_0 : decode cX1_isPlace 0 = .ok (.iload_n 0, 1) := by decide +kernel
theorem dX1_isPlace_1 : decode cX1_isPlace 1 = .ok (.ifCond .lt 13, 3) := by decide +kernel
theorem dX1_isPlace_4 : decode cX1_isPlace 4 = .ok (.iload_n 0, 1) := by decide +kernel
theorem dX1_isPlace_5 : decode cX1_isPlace 5 = .ok (.bipush 40, 2) := by decide +kernel
theorem dX1_isPlace_7 : decode cX1_isPlace 7 = .ok (.if_icmp .ge 7, 3) := by decide +kernel
theorem dX1_isPlace_10 : decode cX1_isPlace 10 = .ok (.iconst 1, 1) := by decide +kernel
theorem dX1_isPlace_11 : decode cX1_isPlace 11 = .ok (.goto 4, 3) := by decide +kernel
theorem dX1_isPlace_14 : decode cX1_isPlace 14 = .ok (.iconst 0, 1) := by decide +kernel
theorem dX1_isPlace_15 : decode cX1_isPlace 15 = .ok (.ireturn, 1) := by decide +kernel
theorem dX1_numberOf_0 : decode cX1_numberOf 0 = .ok (.iload_n 1, 1) := by decide +kernel
theorem dX1_numberOf_1 : decode cX1_numberOf 1 = .ok (.invokestatic 32, 3) := by decide +kernel
theorem dX1_numberOf_4 : decode cX1_numberOf 4 = .ok (.ifCond .eq 12, 3) := by decide +kernel
theorem dX1_numberOf_7 : decode cX1_numberOf 7 = .ok (.aload_n 0, 1) := by decide +kernel
theorem dX1_numberOf_8 : decode cX1_numberOf 8 = .ok (.getfield 9, 3) := by decide +kernel
theorem dX1_numberOf_11 : decode cX1_numberOf 11 = .ok (.iload_n 1, 1) := by decide +kernel
theorem dX1_numberOf_12 : decode cX1_numberOf 12 = .ok (.iaload, 1) := by decide +kernel
theorem dX1_numberOf_13 : decode cX1_numberOf 13 = .ok (.goto 4, 3) := by decide +kernel
theorem dX1_numberOf_16 : decode cX1_numberOf 16 = .ok (.iconst (-1), 1) := by decide +kernel
theorem dX1_numberOf_17 : decode cX1_numberOf 17 = .ok (.ireturn, 1) := by decide +kernel
theorem dX1_whatOf_0 : decode cX1_whatOf 0 = .ok (.iload_n 1, 1) := by decide +kernel
theorem dX1_whatOf_1 : decode cX1_whatOf 1 = .ok (.invokestatic 32, 3) := by decide +kernel
theorem dX1_whatOf_4 : decode cX1_whatOf 4 = .ok (.ifCond .eq 12, 3) := by decide +kernel
theorem dX1_whatOf_7 : decode cX1_whatOf 7 = .ok (.aload_n 0, 1) := by decide +kernel
theorem dX1_whatOf_8 : decode cX1_whatOf 8 = .ok (.getfield 13, 3) := by decide +kernel
theorem dX1_whatOf_11 : decode cX1_whatOf 11 = .ok (.iload_n 1, 1) := by decide +kernel
theorem dX1_whatOf_12 : decode cX1_whatOf 12 = .ok (.iaload, 1) := by decide +kernel
theorem dX1_whatOf_13 : decode cX1_whatOf 13 = .ok (.goto 4, 3) := by decide +kernel
theorem dX1_whatOf_16 : decode cX1_whatOf 16 = .ok (.iconst (-1), 1) := by decide +kernel
theorem dX1_whatOf_17 : decode cX1_whatOf 17 = .ok (.ireturn, 1) := by decide +kernel
theorem dX1_beforeOf_0 : decode cX1_beforeOf 0 = .ok (.iload_n 1, 1) := by decide +kernel
theorem dX1_beforeOf_1 : decode cX1_beforeOf 1 = .ok (.invokestatic 32, 3) := by decide +kernel
theorem dX1_beforeOf_4 : decode cX1_beforeOf 4 = .ok (.ifCond .eq 12, 3) := by decide +kernel
theorem dX1_beforeOf_7 : decode cX1_beforeOf 7 = .ok (.aload_n 0, 1) := by decide +kernel
theorem dX1_beforeOf_8 : decode cX1_beforeOf 8 = .ok (.getfield 16, 3) := by decide +kernel
theorem dX1_beforeOf_11 : decode cX1_beforeOf 11 = .ok (.iload_n 1, 1) := by decide +kernel
theorem dX1_beforeOf_12 : decode cX1_beforeOf 12 = .ok (.iaload, 1) := by decide +kernel
theorem dX1_beforeOf_13 : decode cX1_beforeOf 13 = .ok (.goto 4, 3) := by decide +kernel
theorem dX1_beforeOf_16 : decode cX1_beforeOf 16 = .ok (.iconst 0, 1) := by decide +kernel
theorem dX1_beforeOf_17 : decode cX1_beforeOf 17 = .ok (.ireturn, 1) := by decide +kernel
theorem dX1_behindOf_0 : decode cX1_behindOf 0 = .ok (.iload_n 1, 1) := by decide +kernel
theorem dX1_behindOf_1 : decode cX1_behindOf 1 = .ok (.invokestatic 32, 3) := by decide +kernel
theorem dX1_behindOf_4 : decode cX1_behindOf 4 = .ok (.ifCond .eq 12, 3) := by decide +kernel
theorem dX1_behindOf_7 : decode cX1_behindOf 7 = .ok (.aload_n 0, 1) := by decide +kernel
theorem dX1_behindOf_8 : decode cX1_behindOf 8 = .ok (.getfield 19, 3) := by decide +kernel
theorem dX1_behindOf_11 : decode cX1_behindOf 11 = .ok (.iload_n 1, 1) := by decide +kernel
theorem dX1_behindOf_12 : decode cX1_behindOf 12 = .ok (.iaload, 1) := by decide +kernel
theorem dX1_behindOf_13 : decode cX1_behindOf 13 = .ok (.goto 4, 3) := by decide +kernel
theorem dX1_behindOf_16 : decode cX1_behindOf 16 = .ok (.iconst 0, 1) := by decide +kernel
theorem dX1_behindOf_17 : decode cX1_behindOf 17 = .ok (.ireturn, 1) := by decide +kernel
theorem dX2_init_0 : decode cX2_init 0 = .ok (.aload_n 0, 1) := by decide +kernel
theorem dX2_init_1 : decode cX2_init 1 = .ok (.invokespecial 3, 3) := by decide +kernel
theorem dX2_init_4 : decode cX2_init 4 = .ok (.aload_n 0, 1) := by decide +kernel
theorem dX2_init_5 : decode cX2_init 5 = .ok (.bipush 30, 2) := by decide +kernel
theorem dX2_init_7 : decode cX2_init 7 = .ok (.newarray .int, 2) := by decide +kernel
theorem dX2_init_9 : decode cX2_init 9 = .ok (.putfield 9, 3) := by decide +kernel
theorem dX2_init_12 : decode cX2_init 12 = .ok (.aload_n 0, 1) := by decide +kernel
theorem dX2_init_13 : decode cX2_init 13 = .ok (.bipush 30, 2) := by decide +kernel
theorem dX2_init_15 : decode cX2_init 15 = .ok (.newarray .int, 2) := by decide +kernel
theorem dX2_init_17 : decode cX2_init 17 = .ok (.putfield 15, 3) := by decide +kernel
theorem dX2_init_20 : decode cX2_init 20 = .ok (.aload_n 0, 1) := by decide +kernel
theorem dX2_init_21 : decode cX2_init 21 = .ok (.bipush 30, 2) := by decide +kernel
theorem dX2_init_23 : decode cX2_init 23 = .ok (.newarray .int, 2) := by decide +kernel
theorem dX2_init_25 : decode cX2_init 25 = .ok (.putfield 18, 3) := by decide +kernel
theorem dX2_init_28 : decode cX2_init 28 = .ok (.aload_n 0, 1) := by decide +kernel
theorem dX2_init_29 : decode cX2_init 29 = .ok (.aload_n 1, 1) := by decide +kernel
theorem dX2_init_30 : decode cX2_init 30 = .ok (.putfield 21, 3) := by decide +kernel
theorem dX2_init_33 : decode cX2_init 33 = .ok (.return_, 1) := by decide +kernel
theorem dX2_share_0 : decode cX2_share 0 = .ok (.aload_n 0, 1) := by decide +kernel
theorem dX2_share_1 : decode cX2_share 1 = .ok (.getfield 21, 3) := by decide +kernel
theorem dX2_share_4 : decode cX2_share 4 = .ok (.iload_n 1, 1) := by decide +kernel
theorem dX2_share_5 : decode cX2_share 5 = .ok (.iload_n 2, 1) := by decide +kernel
theorem dX2_share_6 : decode cX2_share 6 = .ok (.invokevirtual 25, 3) := by decide +kernel
theorem dX2_share_9 : decode cX2_share 9 = .ok (.istore 4, 2) := by decide +kernel
theorem dX2_share_11 : decode cX2_share 11 = .ok (.iload_n 3, 1) := by decide +kernel
theorem dX2_share_12 : decode cX2_share 12 = .ok (.istore 5, 2) := by decide +kernel
theorem dX2_share_14 : decode cX2_share 14 = .ok (.iconst (-1), 1) := by decide +kernel
theorem dX2_share_15 : decode cX2_share 15 = .ok (.istore 6, 2) := by decide +kernel
theorem dX2_share_17 : decode cX2_share 17 = .ok (.aload_n 0, 1) := by decide +kernel
theorem dX2_share_18 : decode cX2_share 18 = .ok (.iconst 0, 1) := by decide +kernel
theorem dX2_share_19 : decode cX2_share 19 = .ok (.putfield 31, 3) := by decide +kernel
theorem dX2_share_22 : decode cX2_share 22 = .ok (.iconst 0, 1) := by decide +kernel
theorem dX2_share_23 : decode cX2_share 23 = .ok (.istore 7, 2) := by decide +kernel
theorem dX2_share_25 : decode cX2_share 25 = .ok (.iload 7, 2) := by decide +kernel
theorem dX2_share_27 : decode cX2_share 27 = .ok (.bipush 30, 2) := by decide +kernel
theorem dX2_share_29 : decode cX2_share 29 = .ok (.if_icmp .ge 154, 3) := by decide +kernel
theorem dX2_share_32 : decode cX2_share 32 = .ok (.aload_n 0, 1) := by decide +kernel
theorem dX2_share_33 : decode cX2_share 33 = .ok (.getfield 21, 3) := by decide +kernel
theorem dX2_share_36 : decode cX2_share 36 = .ok (.iload 7, 2) := by decide +kernel
theorem dX2_share_38 : decode cX2_share 38 = .ok (.iload_n 1, 1) := by decide +kernel
theorem dX2_share_39 : decode cX2_share 39 = .ok (.invokevirtual 35, 3) := by decide +kernel
theorem dX2_share_42 : decode cX2_share 42 = .ok (.ifCond .ne 6, 3) := by decide +kernel
theorem dX2_share_45 : decode cX2_share 45 = .ok (.goto 132, 3) := by decide +kernel
theorem dX2_share_48 : decode cX2_share 48 = .ok (.aload_n 0, 1) := by decide +kernel
theorem dX2_share_49 : decode cX2_share 49 = .ok (.getfield 15, 3) := by decide +kernel
theorem dX2_share_52 : decode cX2_share 52 = .ok (.aload_n 0, 1) := by decide +kernel
theorem dX2_share_53 : decode cX2_share 53 = .ok (.getfield 31, 3) := by decide +kernel
theorem dX2_share_56 : decode cX2_share 56 = .ok (.aload_n 0, 1) := by decide +kernel
theorem dX2_share_57 : decode cX2_share 57 = .ok (.getfield 21, 3) := by decide +kernel
theorem dX2_share_60 : decode cX2_share 60 = .ok (.iload 7, 2) := by decide +kernel
theorem dX2_share_62 : decode cX2_share 62 = .ok (.iload_n 2, 1) := by decide +kernel
theorem dX2_share_63 : decode cX2_share 63 = .ok (.invokevirtual 39, 3) := by decide +kernel
theorem dX2_share_66 : decode cX2_share 66 = .ok (.iastore, 1) := by decide +kernel
theorem dX2_share_67 : decode cX2_share 67 = .ok (.aload_n 0, 1) := by decide +kernel
theorem dX2_share_68 : decode cX2_share 68 = .ok (.getfield 18, 3) := by decide +kernel
theorem dX2_share_71 : decode cX2_share 71 = .ok (.aload_n 0, 1) := by decide +kernel
theorem dX2_share_72 : decode cX2_share 72 = .ok (.getfield 31, 3) := by decide +kernel
theorem dX2_share_75 : decode cX2_share 75 = .ok (.aload_n 0, 1) := by decide +kernel
theorem dX2_share_76 : decode cX2_share 76 = .ok (.getfield 21, 3) := by decide +kernel
theorem dX2_share_79 : decode cX2_share 79 = .ok (.iload 7, 2) := by decide +kernel
theorem dX2_share_81 : decode cX2_share 81 = .ok (.invokevirtual 42, 3) := by decide +kernel
theorem dX2_share_84 : decode cX2_share 84 = .ok (.iastore, 1) := by decide +kernel
theorem dX2_share_85 : decode cX2_share 85 = .ok (.aload_n 0, 1) := by decide +kernel
theorem dX2_share_86 : decode cX2_share 86 = .ok (.getfield 9, 3) := by decide +kernel
theorem dX2_share_89 : decode cX2_share 89 = .ok (.aload_n 0, 1) := by decide +kernel
theorem dX2_share_90 : decode cX2_share 90 = .ok (.getfield 31, 3) := by decide +kernel
theorem dX2_share_93 : decode cX2_share 93 = .ok (.aload_n 0, 1) := by decide +kernel
theorem dX2_share_94 : decode cX2_share 94 = .ok (.getfield 15, 3) := by decide +kernel
theorem dX2_share_97 : decode cX2_share 97 = .ok (.aload_n 0, 1) := by decide +kernel
theorem dX2_share_98 : decode cX2_share 98 = .ok (.getfield 31, 3) := by decide +kernel
theorem dX2_share_101 : decode cX2_share 101 = .ok (.iaload, 1) := by decide +kernel
theorem dX2_share_102 : decode cX2_share 102 = .ok (.ifCond .le 25, 3) := by decide +kernel
theorem dX2_share_105 : decode cX2_share 105 = .ok (.iload 4, 2) := by decide +kernel
theorem dX2_share_107 : decode cX2_share 107 = .ok (.ifCond .le 20, 3) := by decide +kernel
theorem dX2_share_110 : decode cX2_share 110 = .ok (.iload_n 3, 1) := by decide +kernel
theorem dX2_share_111 : decode cX2_share 111 = .ok (.aload_n 0, 1) := by decide +kernel
theorem dX2_share_112 : decode cX2_share 112 = .ok (.getfield 15, 3) := by decide +kernel
theorem dX2_share_115 : decode cX2_share 115 = .ok (.aload_n 0, 1) := by decide +kernel
theorem dX2_share_116 : decode cX2_share 116 = .ok (.getfield 31, 3) := by decide +kernel
theorem dX2_share_119 : decode cX2_share 119 = .ok (.iaload, 1) := by decide +kernel
theorem dX2_share_120 : decode cX2_share 120 = .ok (.imul, 1) := by decide +kernel
theorem dX2_share_121 : decode cX2_share 121 = .ok (.iload 4, 2) := by decide +kernel
theorem dX2_share_123 : decode cX2_share 123 = .ok (.idiv, 1) := by decide +kernel
theorem dX2_share_124 : decode cX2_share 124 = .ok (.goto 4, 3) := by decide +kernel
theorem dX2_share_127 : decode cX2_share 127 = .ok (.iconst 0, 1) := by decide +kernel
theorem dX2_share_128 : decode cX2_share 128 = .ok (.iastore, 1) := by decide +kernel
theorem dX2_share_129 : decode cX2_share 129 = .ok (.iload 5, 2) := by decide +kernel
theorem dX2_share_131 : decode cX2_share 131 = .ok (.aload_n 0, 1) := by decide +kernel
theorem dX2_share_132 : decode cX2_share 132 = .ok (.getfield 9, 3) := by decide +kernel
theorem dX2_share_135 : decode cX2_share 135 = .ok (.aload_n 0, 1) := by decide +kernel
theorem dX2_share_136 : decode cX2_share 136 = .ok (.getfield 31, 3) := by decide +kernel
theorem dX2_share_139 : decode cX2_share 139 = .ok (.iaload, 1) := by decide +kernel
theorem dX2_share_140 : decode cX2_share 140 = .ok (.isub, 1) := by decide +kernel
theorem dX2_share_141 : decode cX2_share 141 = .ok (.istore 5, 2) := by decide +kernel
theorem dX2_share_143 : decode cX2_share 143 = .ok (.iload 6, 2) := by decide +kernel
theorem dX2_share_145 : decode cX2_share 145 = .ok (.iconst (-1), 1) := by decide +kernel
theorem dX2_share_146 : decode cX2_share 146 = .ok (.if_icmp .ne 21, 3) := by decide +kernel
theorem dX2_share_149 : decode cX2_share 149 = .ok (.aload_n 0, 1) := by decide +kernel
theorem dX2_share_150 : decode cX2_share 150 = .ok (.getfield 15, 3) := by decide +kernel
theorem dX2_share_153 : decode cX2_share 153 = .ok (.aload_n 0, 1) := by decide +kernel
theorem dX2_share_154 : decode cX2_share 154 = .ok (.getfield 31, 3) := by decide +kernel
theorem dX2_share_157 : decode cX2_share 157 = .ok (.iaload, 1) := by decide +kernel
theorem dX2_share_158 : decode cX2_share 158 = .ok (.ifCond .le 9, 3) := by decide +kernel
theorem dX2_share_161 : decode cX2_share 161 = .ok (.aload_n 0, 1) := by decide +kernel
theorem dX2_share_162 : decode cX2_share 162 = .ok (.getfield 31, 3) := by decide +kernel
theorem dX2_share_165 : decode cX2_share 165 = .ok (.istore 6, 2) := by decide +kernel
theorem dX2_share_167 : decode cX2_share 167 = .ok (.aload_n 0, 1) := by decide +kernel
theorem dX2_share_168 : decode cX2_share 168 = .ok (.dup, 1) := by decide +kernel
theorem dX2_share_169 : decode cX2_share 169 = .ok (.getfield 31, 3) := by decide +kernel
theorem dX2_share_172 : decode cX2_share 172 = .ok (.iconst 1, 1) := by decide +kernel
theorem dX2_share_173 : decode cX2_share 173 = .ok (.iadd, 1) := by decide +kernel
theorem dX2_share_174 : decode cX2_share 174 = .ok (.putfield 31, 3) := by decide +kernel
theorem dX2_share_177 : decode cX2_share 177 = .ok (.iinc 7 1, 3) := by decide +kernel
theorem dX2_share_180 : decode cX2_share 180 = .ok (.goto (-155), 3) := by decide +kernel
theorem dX2_share_183 : decode cX2_share 183 = .ok (.iload 6, 2) := by decide +kernel
theorem dX2_share_185 : decode cX2_share 185 = .ok (.iconst (-1), 1) := by decide +kernel
theorem dX2_share_186 : decode cX2_share 186 = .ok (.if_icmp .eq 15, 3) := by decide +kernel
theorem dX2_share_189 : decode cX2_share 189 = .ok (.aload_n 0, 1) := by decide +kernel
theorem dX2_share_190 : decode cX2_share 190 = .ok (.getfield 9, 3) := by decide +kernel
theorem dX2_share_193 : decode cX2_share 193 = .ok (.iload 6, 2) := by decide +kernel
theorem dX2_share_195 : decode cX2_share 195 = .ok (.dup2, 1) := by decide +kernel
theorem dX2_share_196 : decode cX2_share 196 = .ok (.iaload, 1) := by decide +kernel
theorem dX2_share_197 : decode cX2_share 197 = .ok (.iload 5, 2) := by decide +kernel
theorem dX2_share_199 : decode cX2_share 199 = .ok (.iadd, 1) := by decide +kernel
theorem dX2_share_200 : decode cX2_share 200 = .ok (.iastore, 1) := by decide +kernel
theorem dX2_share_201 : decode cX2_share 201 = .ok (.return_, 1) := by decide +kernel
theorem dX2_partOf_0 : decode cX2_partOf 0 = .ok (.iload_n 1, 1) := by decide +kernel
theorem dX2_partOf_1 : decode cX2_partOf 1 = .ok (.ifCond .lt 20, 3) := by decide +kernel
theorem dX2_partOf_4 : decode cX2_partOf 4 = .ok (.iload_n 1, 1) := by decide +kernel
theorem dX2_partOf_5 : decode cX2_partOf 5 = .ok (.aload_n 0, 1) := by decide +kernel
theorem dX2_partOf_6 : decode cX2_partOf 6 = .ok (.getfield 31, 3) := by decide +kernel
theorem dX2_partOf_9 : decode cX2_partOf 9 = .ok (.if_icmp .ge 12, 3) := by decide +kernel
theorem dX2_partOf_12 : decode cX2_partOf 12 = .ok (.aload_n 0, 1) := by decide +kernel
theorem dX2_partOf_13 : decode cX2_partOf 13 = .ok (.getfield 9, 3) := by decide +kernel
theorem dX2_partOf_16 : decode cX2_partOf 16 = .ok (.iload_n 1, 1) := by decide +kernel
theorem dX2_partOf_17 : decode cX2_partOf 17 = .ok (.iaload, 1) := by decide +kernel
theorem dX2_partOf_18 : decode cX2_partOf 18 = .ok (.goto 4, 3) := by decide +kernel
theorem dX2_partOf_21 : decode cX2_partOf 21 = .ok (.iconst (-1), 1) := by decide +kernel
theorem dX2_partOf_22 : decode cX2_partOf 22 = .ok (.ireturn, 1) := by decide +kernel
theorem dX2_isAboveHarm_0 : decode cX2_isAboveHarm 0 = .ok (.aload_n 0, 1) := by decide +kernel
theorem dX2_isAboveHarm_1 : decode cX2_isAboveHarm 1 = .ok (.getfield 15, 3) := by decide +kernel
theorem dX2_isAboveHarm_4 : decode cX2_isAboveHarm 4 = .ok (.iload_n 1, 1) := by decide +kernel
theorem dX2_isAboveHarm_5 : decode cX2_isAboveHarm 5 = .ok (.iaload, 1) := by decide +kernel
theorem dX2_isAboveHarm_6 : decode cX2_isAboveHarm 6 = .ok (.ifCond .le 22, 3) := by decide +kernel
theorem dX2_isAboveHarm_9 : decode cX2_isAboveHarm 9 = .ok (.aload_n 0, 1) := by decide +kernel
theorem dX2_isAboveHarm_10 : decode cX2_isAboveHarm 10 = .ok (.getfield 9, 3) := by decide +kernel
theorem dX2_isAboveHarm_13 : decode cX2_isAboveHarm 13 = .ok (.iload_n 1, 1) := by decide +kernel
theorem dX2_isAboveHarm_14 : decode cX2_isAboveHarm 14 = .ok (.iaload, 1) := by decide +kernel
theorem dX2_isAboveHarm_15 : decode cX2_isAboveHarm 15 = .ok (.aload_n 0, 1) := by decide +kernel
theorem dX2_isAboveHarm_16 : decode cX2_isAboveHarm 16 = .ok (.getfield 15, 3) := by decide +kernel
theorem dX2_isAboveHarm_19 : decode cX2_isAboveHarm 19 = .ok (.iload_n 1, 1) := by decide +kernel
theorem dX2_isAboveHarm_20 : decode cX2_isAboveHarm 20 = .ok (.iaload, 1) := by decide +kernel
theorem dX2_isAboveHarm_21 : decode cX2_isAboveHarm 21 = .ok (.if_icmp .le 7, 3) := by decide +kernel
theorem dX2_isAboveHarm_24 : decode cX2_isAboveHarm 24 = .ok (.iconst 1, 1) := by decide +kernel
theorem dX2_isAboveHarm_25 : decode cX2_isAboveHarm 25 = .ok (.goto 4, 3) := by decide +kernel
theorem dX2_isAboveHarm_28 : decode cX2_isAboveHarm 28 = .ok (.iconst 0, 1) := by decide +kernel
theorem dX2_isAboveHarm_29 : decode cX2_isAboveHarm 29 = .ok (.ireturn, 1) := by decide +kernel
theorem dX2_holds_0 : decode cX2_holds 0 = .ok (.iconst 0, 1) := by decide +kernel
theorem dX2_holds_1 : decode cX2_holds 1 = .ok (.istore_n 1, 1) := by decide +kernel
theorem dX2_holds_2 : decode cX2_holds 2 = .ok (.iload_n 1, 1) := by decide +kernel
theorem dX2_holds_3 : decode cX2_holds 3 = .ok (.aload_n 0, 1) := by decide +kernel
theorem dX2_holds_4 : decode cX2_holds 4 = .ok (.getfield 31, 3) := by decide +kernel
theorem dX2_holds_7 : decode cX2_holds 7 = .ok (.if_icmp .ge 34, 3) := by decide +kernel
theorem dX2_holds_10 : decode cX2_holds 10 = .ok (.aload_n 0, 1) := by decide +kernel
theorem dX2_holds_11 : decode cX2_holds 11 = .ok (.iload_n 1, 1) := by decide +kernel
theorem dX2_holds_12 : decode cX2_holds 12 = .ok (.invokevirtual 45, 3) := by decide +kernel
theorem dX2_holds_15 : decode cX2_holds 15 = .ok (.ifCond .ne 18, 3) := by decide +kernel
theorem dX2_holds_18 : decode cX2_holds 18 = .ok (.aload_n 0, 1) := by decide +kernel
theorem dX2_holds_19 : decode cX2_holds 19 = .ok (.getfield 9, 3) := by decide +kernel
theorem dX2_holds_22 : decode cX2_holds 22 = .ok (.iload_n 1, 1) := by decide +kernel
theorem dX2_holds_23 : decode cX2_holds 23 = .ok (.iaload, 1) := by decide +kernel
theorem dX2_holds_24 : decode cX2_holds 24 = .ok (.aload_n 0, 1) := by decide +kernel
theorem dX2_holds_25 : decode cX2_holds 25 = .ok (.getfield 18, 3) := by decide +kernel
theorem dX2_holds_28 : decode cX2_holds 28 = .ok (.iload_n 1, 1) := by decide +kernel
theorem dX2_holds_29 : decode cX2_holds 29 = .ok (.iaload, 1) := by decide +kernel
theorem dX2_holds_30 : decode cX2_holds 30 = .ok (.if_icmp .le 5, 3) := by decide +kernel
theorem dX2_holds_33 : decode cX2_holds 33 = .ok (.iconst 0, 1) := by decide +kernel
theorem dX2_holds_34 : decode cX2_holds 34 = .ok (.ireturn, 1) := by decide +kernel
theorem dX2_holds_35 : decode cX2_holds 35 = .ok (.iinc 1 1, 3) := by decide +kernel
theorem dX2_holds_38 : decode cX2_holds 38 = .ok (.goto (-36), 3) := by decide +kernel
theorem dX2_holds_41 : decode cX2_holds 41 = .ok (.iconst 1, 1) := by decide +kernel
theorem dX2_holds_42 : decode cX2_holds 42 = .ok (.ireturn, 1) := by decide +kernel
theorem dX2_unwilling_0 : decode cX2_unwilling 0 = .ok (.iconst 0, 1) := by decide +kernel
theorem dX2_unwilling_1 : decode cX2_unwilling 1 = .ok (.istore_n 1, 1) := by decide +kernel
theorem dX2_unwilling_2 : decode cX2_unwilling 2 = .ok (.iconst 0, 1) := by decide +kernel
theorem dX2_unwilling_3 : decode cX2_unwilling 3 = .ok (.istore_n 2, 1) := by decide +kernel
theorem dX2_unwilling_4 : decode cX2_unwilling 4 = .ok (.iload_n 2, 1) := by decide +kernel
theorem dX2_unwilling_5 : decode cX2_unwilling 5 = .ok (.aload_n 0, 1) := by decide +kernel
theorem dX2_unwilling_6 : decode cX2_unwilling 6 = .ok (.getfield 31, 3) := by decide +kernel
theorem dX2_unwilling_9 : decode cX2_unwilling 9 = .ok (.if_icmp .ge 23, 3) := by decide +kernel
theorem dX2_unwilling_12 : decode cX2_unwilling 12 = .ok (.aload_n 0, 1) := by decide +kernel
theorem dX2_unwilling_13 : decode cX2_unwilling 13 = .ok (.iload_n 2, 1) := by decide +kernel
theorem dX2_unwilling_14 : decode cX2_unwilling 14 = .ok (.invokevirtual 45, 3) := by decide +kernel
theorem dX2_unwilling_17 : decode cX2_unwilling 17 = .ok (.ifCond .eq 9, 3) := by decide +kernel
theorem dX2_unwilling_20 : decode cX2_unwilling 20 = .ok (.iload_n 1, 1) := by decide +kernel
theorem dX2_unwilling_21 : decode cX2_unwilling 21 = .ok (.iconst 1, 1) := by decide +kernel
theorem dX2_unwilling_22 : decode cX2_unwilling 22 = .ok (.iload_n 2, 1) := by decide +kernel
theorem dX2_unwilling_23 : decode cX2_unwilling 23 = .ok (.ishl, 1) := by decide +kernel
theorem dX2_unwilling_24 : decode cX2_unwilling 24 = .ok (.ior, 1) := by decide +kernel
theorem dX2_unwilling_25 : decode cX2_unwilling 25 = .ok (.istore_n 1, 1) := by decide +kernel
theorem dX2_unwilling_26 : decode cX2_unwilling 26 = .ok (.iinc 2 1, 3) := by decide +kernel
theorem dX2_unwilling_29 : decode cX2_unwilling 29 = .ok (.goto (-25), 3) := by decide +kernel
theorem dX2_unwilling_32 : decode cX2_unwilling 32 = .ok (.iload_n 1, 1) := by decide +kernel
theorem dX2_unwilling_33 : decode cX2_unwilling 33 = .ok (.ireturn, 1) := by decide +kernel
theorem dX3_init_0 : decode cX3_init 0 = .ok (.aload_n 0, 1) := by decide +kernel
theorem dX3_init_1 : decode cX3_init 1 = .ok (.invokespecial 3, 3) := by decide +kernel
theorem dX3_init_4 : decode cX3_init 4 = .ok (.aload_n 0, 1) := by decide +kernel
theorem dX3_init_5 : decode cX3_init 5 = .ok (.bipush 120, 2) := by decide +kernel
theorem dX3_init_7 : decode cX3_init 7 = .ok (.newarray .int, 2) := by decide +kernel
theorem dX3_init_9 : decode cX3_init 9 = .ok (.putfield 9, 3) := by decide +kernel
theorem dX3_init_12 : decode cX3_init 12 = .ok (.return_, 1) := by decide +kernel
theorem dX3_bytes_0 : decode cX3_bytes 0 = .ok (.aload_n 0, 1) := by decide +kernel
theorem dX3_bytes_1 : decode cX3_bytes 1 = .ok (.getfield 15, 3) := by decide +kernel
theorem dX3_bytes_4 : decode cX3_bytes 4 = .ok (.ireturn, 1) := by decide +kernel
theorem dX3_feedBytes_0 : decode cX3_feedBytes 0 = .ok (.aload_n 0, 1) := by decide +kernel
theorem dX3_feedBytes_1 : decode cX3_feedBytes 1 = .ok (.getfield 15, 3) := by decide +kernel
theorem dX3_feedBytes_4 : decode cX3_feedBytes 4 = .ok (.iload_n 1, 1) := by decide +kernel
theorem dX3_feedBytes_5 : decode cX3_feedBytes 5 = .ok (.iadd, 1) := by decide +kernel
theorem dX3_feedBytes_6 : decode cX3_feedBytes 6 = .ok (.bipush 120, 2) := by decide +kernel
theorem dX3_feedBytes_8 : decode cX3_feedBytes 8 = .ok (.if_icmp .le 6, 3) := by decide +kernel
theorem dX3_feedBytes_11 : decode cX3_feedBytes 11 = .ok (.bipush (-3), 2) := by decide +kernel
theorem dX3_feedBytes_13 : decode cX3_feedBytes 13 = .ok (.ireturn, 1) := by decide +kernel
theorem dX3_feedBytes_14 : decode cX3_feedBytes 14 = .ok (.iconst 0, 1) := by decide +kernel
theorem dX3_feedBytes_15 : decode cX3_feedBytes 15 = .ok (.istore_n 3, 1) := by decide +kernel
theorem dX3_feedBytes_16 : decode cX3_feedBytes 16 = .ok (.iload_n 3, 1) := by decide +kernel
theorem dX3_feedBytes_17 : decode cX3_feedBytes 17 = .ok (.iload_n 1, 1) := by decide +kernel
theorem dX3_feedBytes_18 : decode cX3_feedBytes 18 = .ok (.if_icmp .ge 35, 3) := by decide +kernel
theorem dX3_feedBytes_21 : decode cX3_feedBytes 21 = .ok (.aload_n 0, 1) := by decide +kernel
theorem dX3_feedBytes_22 : decode cX3_feedBytes 22 = .ok (.getfield 9, 3) := by decide +kernel
theorem dX3_feedBytes_25 : decode cX3_feedBytes 25 = .ok (.aload_n 0, 1) := by decide +kernel
theorem dX3_feedBytes_26 : decode cX3_feedBytes 26 = .ok (.dup, 1) := by decide +kernel
theorem dX3_feedBytes_27 : decode cX3_feedBytes 27 = .ok (.getfield 15, 3) := by decide +kernel
theorem dX3_feedBytes_30 : decode cX3_feedBytes 30 = .ok (.dup_x1, 1) := by decide +kernel
theorem dX3_feedBytes_31 : decode cX3_feedBytes 31 = .ok (.iconst 1, 1) := by decide +kernel
theorem dX3_feedBytes_32 : decode cX3_feedBytes 32 = .ok (.iadd, 1) := by decide +kernel
theorem dX3_feedBytes_33 : decode cX3_feedBytes 33 = .ok (.putfield 15, 3) := by decide +kernel
theorem dX3_feedBytes_36 : decode cX3_feedBytes 36 = .ok (.iload_n 2, 1) := by decide +kernel
theorem dX3_feedBytes_37 : decode cX3_feedBytes 37 = .ok (.bipush 8, 2) := by decide +kernel
theorem dX3_feedBytes_39 : decode cX3_feedBytes 39 = .ok (.iload_n 3, 1) := by decide +kernel
theorem dX3_feedBytes_40 : decode cX3_feedBytes 40 = .ok (.imul, 1) := by decide +kernel
theorem dX3_feedBytes_41 : decode cX3_feedBytes 41 = .ok (.iushr, 1) := by decide +kernel
theorem dX3_feedBytes_42 : decode cX3_feedBytes 42 = .ok (.sipush 255, 3) := by decide +kernel
theorem dX3_feedBytes_45 : decode cX3_feedBytes 45 = .ok (.iand, 1) := by decide +kernel
theorem dX3_feedBytes_46 : decode cX3_feedBytes 46 = .ok (.iastore, 1) := by decide +kernel
theorem dX3_feedBytes_47 : decode cX3_feedBytes 47 = .ok (.iinc 3 1, 3) := by decide +kernel
theorem dX3_feedBytes_50 : decode cX3_feedBytes 50 = .ok (.goto (-34), 3) := by decide +kernel
theorem dX3_feedBytes_53 : decode cX3_feedBytes 53 = .ok (.aload_n 0, 1) := by decide +kernel
theorem dX3_feedBytes_54 : decode cX3_feedBytes 54 = .ok (.getfield 15, 3) := by decide +kernel
theorem dX3_feedBytes_57 : decode cX3_feedBytes 57 = .ok (.ireturn, 1) := by decide +kernel
theorem dX3_read_0 : decode cX3_read 0 = .ok (.aload_n 0, 1) := by decide +kernel
theorem dX3_read_1 : decode cX3_read 1 = .ok (.aload_n 1, 1) := by decide +kernel
theorem dX3_read_2 : decode cX3_read 2 = .ok (.putfield 19, 3) := by decide +kernel
theorem dX3_read_5 : decode cX3_read 5 = .ok (.aload_n 0, 1) := by decide +kernel
theorem dX3_read_6 : decode cX3_read 6 = .ok (.getfield 19, 3) := by decide +kernel
theorem dX3_read_9 : decode cX3_read 9 = .ok (.invokevirtual 23, 3) := by decide +kernel
theorem dX3_read_12 : decode cX3_read 12 = .ok (.aload_n 0, 1) := by decide +kernel
theorem dX3_read_13 : decode cX3_read 13 = .ok (.iconst 0, 1) := by decide +kernel
theorem dX3_read_14 : decode cX3_read 14 = .ok (.putfield 28, 3) := by decide +kernel
theorem dX3_read_17 : decode cX3_read 17 = .ok (.aload_n 0, 1) := by decide +kernel
theorem dX3_read_18 : decode cX3_read 18 = .ok (.invokevirtual 31, 3) := by decide +kernel
theorem dX3_read_21 : decode cX3_read 21 = .ok (.istore_n 2, 1) := by decide +kernel
theorem dX3_read_22 : decode cX3_read 22 = .ok (.iconst 1, 1) := by decide +kernel
theorem dX3_read_23 : decode cX3_read 23 = .ok (.istore_n 3, 1) := by decide +kernel
theorem dX3_read_24 : decode cX3_read 24 = .ok (.iload_n 2, 1) := by decide +kernel
theorem dX3_read_25 : decode cX3_read 25 = .ok (.ifCond .eq 60, 3) := by decide +kernel
theorem dX3_read_28 : decode cX3_read 28 = .ok (.aload_n 0, 1) := by decide +kernel
theorem dX3_read_29 : decode cX3_read 29 = .ok (.getfield 28, 3) := by decide +kernel
theorem dX3_read_32 : decode cX3_read 32 = .ok (.aload_n 0, 1) := by decide +kernel
theorem dX3_read_33 : decode cX3_read 33 = .ok (.getfield 15, 3) := by decide +kernel
theorem dX3_read_36 : decode cX3_read 36 = .ok (.if_icmp .ge 49, 3) := by decide +kernel
theorem dX3_read_39 : decode cX3_read 39 = .ok (.iload_n 3, 1) := by decide +kernel
theorem dX3_read_40 : decode cX3_read 40 = .ok (.bipush 120, 2) := by decide +kernel
theorem dX3_read_42 : decode cX3_read 42 = .ok (.if_icmp .gt 43, 3) := by decide +kernel
theorem dX3_read_45 : decode cX3_read 45 = .ok (.aload_n 0, 1) := by decide +kernel
theorem dX3_read_46 : decode cX3_read 46 = .ok (.invokevirtual 35, 3) := by decide +kernel
theorem dX3_read_49 : decode cX3_read 49 = .ok (.bipush 59, 2) := by decide +kernel
theorem dX3_read_51 : decode cX3_read 51 = .ok (.if_icmp .ne 7, 3) := by decide +kernel
theorem dX3_read_54 : decode cX3_read 54 = .ok (.iconst 1, 1) := by decide +kernel
theorem dX3_read_55 : decode cX3_read 55 = .ok (.goto 4, 3) := by decide +kernel
theorem dX3_read_58 : decode cX3_read 58 = .ok (.iconst 0, 1) := by decide +kernel
theorem dX3_read_59 : decode cX3_read 59 = .ok (.istore_n 2, 1) := by decide +kernel
theorem dX3_read_60 : decode cX3_read 60 = .ok (.iload_n 2, 1) := by decide +kernel
theorem dX3_read_61 : decode cX3_read 61 = .ok (.ifCond .eq 18, 3) := by decide +kernel
theorem dX3_read_64 : decode cX3_read 64 = .ok (.aload_n 0, 1) := by decide +kernel
theorem dX3_read_65 : decode cX3_read 65 = .ok (.dup, 1) := by decide +kernel
theorem dX3_read_66 : decode cX3_read 66 = .ok (.getfield 28, 3) := by decide +kernel
theorem dX3_read_69 : decode cX3_read 69 = .ok (.iconst 1, 1) := by decide +kernel
theorem dX3_read_70 : decode cX3_read 70 = .ok (.iadd, 1) := by decide +kernel
theorem dX3_read_71 : decode cX3_read 71 = .ok (.putfield 28, 3) := by decide +kernel
theorem dX3_read_74 : decode cX3_read 74 = .ok (.aload_n 0, 1) := by decide +kernel
theorem dX3_read_75 : decode cX3_read 75 = .ok (.invokevirtual 31, 3) := by decide +kernel
theorem dX3_read_78 : decode cX3_read 78 = .ok (.istore_n 2, 1) := by decide +kernel
theorem dX3_read_79 : decode cX3_read 79 = .ok (.iinc 3 1, 3) := by decide +kernel
theorem dX3_read_82 : decode cX3_read 82 = .ok (.goto (-58), 3) := by decide +kernel
theorem dX3_read_85 : decode cX3_read 85 = .ok (.iload_n 2, 1) := by decide +kernel
theorem dX3_read_86 : decode cX3_read 86 = .ok (.ifCond .eq 7, 3) := by decide +kernel
theorem dX3_read_89 : decode cX3_read 89 = .ok (.iconst (-1), 1) := by decide +kernel
theorem dX3_read_90 : decode cX3_read 90 = .ok (.goto 7, 3) := by decide +kernel
theorem dX3_read_93 : decode cX3_read 93 = .ok (.aload_n 0, 1) := by decide +kernel
theorem dX3_read_94 : decode cX3_read 94 = .ok (.getfield 28, 3) := by decide +kernel
theorem dX3_read_97 : decode cX3_read 97 = .ok (.istore_n 3, 1) := by decide +kernel
theorem dX3_read_98 : decode cX3_read 98 = .ok (.aload_n 0, 1) := by decide +kernel
theorem dX3_read_99 : decode cX3_read 99 = .ok (.iconst 0, 1) := by decide +kernel
theorem dX3_read_100 : decode cX3_read 100 = .ok (.putfield 15, 3) := by decide +kernel
theorem dX3_read_103 : decode cX3_read 103 = .ok (.iload_n 3, 1) := by decide +kernel
theorem dX3_read_104 : decode cX3_read 104 = .ok (.ireturn, 1) := by decide +kernel
theorem dX3_next_0 : decode cX3_next 0 = .ok (.aload_n 0, 1) := by decide +kernel
theorem dX3_next_1 : decode cX3_next 1 = .ok (.getfield 28, 3) := by decide +kernel
theorem dX3_next_4 : decode cX3_next 4 = .ok (.ifCond .lt 35, 3) := by decide +kernel
theorem dX3_next_7 : decode cX3_next 7 = .ok (.aload_n 0, 1) := by decide +kernel
theorem dX3_next_8 : decode cX3_next 8 = .ok (.getfield 28, 3) := by decide +kernel
theorem dX3_next_11 : decode cX3_next 11 = .ok (.aload_n 0, 1) := by decide +kernel
theorem dX3_next_12 : decode cX3_next 12 = .ok (.getfield 15, 3) := by decide +kernel
theorem dX3_next_15 : decode cX3_next 15 = .ok (.if_icmp .ge 24, 3) := by decide +kernel
theorem dX3_next_18 : decode cX3_next 18 = .ok (.aload_n 0, 1) := by decide +kernel
theorem dX3_next_19 : decode cX3_next 19 = .ok (.getfield 28, 3) := by decide +kernel
theorem dX3_next_22 : decode cX3_next 22 = .ok (.bipush 120, 2) := by decide +kernel
theorem dX3_next_24 : decode cX3_next 24 = .ok (.if_icmp .ge 15, 3) := by decide +kernel
theorem dX3_next_27 : decode cX3_next 27 = .ok (.aload_n 0, 1) := by decide +kernel
theorem dX3_next_28 : decode cX3_next 28 = .ok (.getfield 9, 3) := by decide +kernel
theorem dX3_next_31 : decode cX3_next 31 = .ok (.aload_n 0, 1) := by decide +kernel
theorem dX3_next_32 : decode cX3_next 32 = .ok (.getfield 28, 3) := by decide +kernel
theorem dX3_next_35 : decode cX3_next 35 = .ok (.iaload, 1) := by decide +kernel
theorem dX3_next_36 : decode cX3_next 36 = .ok (.goto 4, 3) := by decide +kernel
theorem dX3_next_39 : decode cX3_next 39 = .ok (.iconst (-1), 1) := by decide +kernel
theorem dX3_next_40 : decode cX3_next 40 = .ok (.ireturn, 1) := by decide +kernel
theorem dX3_addSign_0 : decode cX3_addSign 0 = .ok (.aload_n 0, 1) := by decide +kernel
theorem dX3_addSign_1 : decode cX3_addSign 1 = .ok (.getfield 19, 3) := by decide +kernel
theorem dX3_addSign_4 : decode cX3_addSign 4 = .ok (.bipush (-100), 2) := by decide +kernel
theorem dX3_addSign_6 : decode cX3_addSign 6 = .ok (.iload_n 1, 1) := by decide +kernel
theorem dX3_addSign_7 : decode cX3_addSign 7 = .ok (.isub, 1) := by decide +kernel
theorem dX3_addSign_8 : decode cX3_addSign 8 = .ok (.invokevirtual 39, 3) := by decide +kernel
theorem dX3_addSign_11 : decode cX3_addSign 11 = .ok (.return_, 1) := by decide +kernel
theorem dX3_readLine_0 : decode cX3_readLine 0 = .ok (.aload_n 0, 1) := by decide +kernel
theorem dX3_readLine_1 : decode cX3_readLine 1 = .ok (.iconst 0, 1) := by decide +kernel
theorem dX3_readLine_2 : decode cX3_readLine 2 = .ok (.iconst 0, 1) := by decide +kernel
theorem dX3_readLine_3 : decode cX3_readLine 3 = .ok (.invokevirtual 43, 3) := by decide +kernel
theorem dX3_readLine_6 : decode cX3_readLine 6 = .ok (.ifCond .ne 5, 3) := by decide +kernel
theorem dX3_readLine_9 : decode cX3_readLine 9 = .ok (.iconst 0, 1) := by decide +kernel
theorem dX3_readLine_10 : decode cX3_readLine 10 = .ok (.ireturn, 1) := by decide +kernel
theorem dX3_readLine_11 : decode cX3_readLine 11 = .ok (.aload_n 0, 1) := by decide +kernel
theorem dX3_readLine_12 : decode cX3_readLine 12 = .ok (.invokevirtual 35, 3) := by decide +kernel
theorem dX3_readLine_15 : decode cX3_readLine 15 = .ok (.bipush 63, 2) := by decide +kernel
theorem dX3_readLine_17 : decode cX3_readLine 17 = .ok (.if_icmp .ne 30, 3) := by decide +kernel
theorem dX3_readLine_20 : decode cX3_readLine 20 = .ok (.aload_n 0, 1) := by decide +kernel
theorem dX3_readLine_21 : decode cX3_readLine 21 = .ok (.dup, 1) := by decide +kernel
theorem dX3_readLine_22 : decode cX3_readLine 22 = .ok (.getfield 28, 3) := by decide +kernel
theorem dX3_readLine_25 : decode cX3_readLine 25 = .ok (.iconst 1, 1) := by decide +kernel
theorem dX3_readLine_26 : decode cX3_readLine 26 = .ok (.iadd, 1) := by decide +kernel
theorem dX3_readLine_27 : decode cX3_readLine 27 = .ok (.putfield 28, 3) := by decide +kernel
theorem dX3_readLine_30 : decode cX3_readLine 30 = .ok (.aload_n 0, 1) := by decide +kernel
theorem dX3_readLine_31 : decode cX3_readLine 31 = .ok (.bipush 63, 2) := by decide +kernel
theorem dX3_readLine_33 : decode cX3_readLine 33 = .ok (.invokevirtual 47, 3) := by decide +kernel
theorem dX3_readLine_36 : decode cX3_readLine 36 = .ok (.aload_n 0, 1) := by decide +kernel
theorem dX3_readLine_37 : decode cX3_readLine 37 = .ok (.iconst 0, 1) := by decide +kernel
theorem dX3_readLine_38 : decode cX3_readLine 38 = .ok (.iconst 0, 1) := by decide +kernel
theorem dX3_readLine_39 : decode cX3_readLine 39 = .ok (.invokevirtual 43, 3) := by decide +kernel
theorem dX3_readLine_42 : decode cX3_readLine 42 = .ok (.ifCond .ne 5, 3) := by decide +kernel
theorem dX3_readLine_45 : decode cX3_readLine 45 = .ok (.iconst 0, 1) := by decide +kernel
theorem dX3_readLine_46 : decode cX3_readLine 46 = .ok (.ireturn, 1) := by decide +kernel
theorem dX3_readLine_47 : decode cX3_readLine 47 = .ok (.aload_n 0, 1) := by decide +kernel
theorem dX3_readLine_48 : decode cX3_readLine 48 = .ok (.bipush 59, 2) := by decide +kernel
theorem dX3_readLine_50 : decode cX3_readLine 50 = .ok (.invokevirtual 47, 3) := by decide +kernel
theorem dX3_readLine_53 : decode cX3_readLine 53 = .ok (.iconst 1, 1) := by decide +kernel
theorem dX3_readLine_54 : decode cX3_readLine 54 = .ok (.ireturn, 1) := by decide +kernel
theorem dX3_readPart_0 : decode cX3_readPart 0 = .ok (.iload_n 1, 1) := by decide +kernel
theorem dX3_readPart_1 : decode cX3_readPart 1 = .ok (.iconst 5, 1) := by decide +kernel
theorem dX3_readPart_2 : decode cX3_readPart 2 = .ok (.if_icmp .lt 9, 3) := by decide +kernel
theorem dX3_readPart_5 : decode cX3_readPart 5 = .ok (.aload_n 0, 1) := by decide +kernel
theorem dX3_readPart_6 : decode cX3_readPart 6 = .ok (.iload_n 2, 1) := by decide +kernel
theorem dX3_readPart_7 : decode cX3_readPart 7 = .ok (.invokevirtual 50, 3) := by decide +kernel
theorem dX3_readPart_10 : decode cX3_readPart 10 = .ok (.ireturn, 1) := by decide +kernel
theorem dX3_readPart_11 : decode cX3_readPart 11 = .ok (.aload_n 0, 1) := by decide +kernel
theorem dX3_readPart_12 : decode cX3_readPart 12 = .ok (.iload_n 1, 1) := by decide +kernel
theorem dX3_readPart_13 : decode cX3_readPart 13 = .ok (.iconst 1, 1) := by decide +kernel
theorem dX3_readPart_14 : decode cX3_readPart 14 = .ok (.iadd, 1) := by decide +kernel
theorem dX3_readPart_15 : decode cX3_readPart 15 = .ok (.iload_n 2, 1) := by decide +kernel
theorem dX3_readPart_16 : decode cX3_readPart 16 = .ok (.invokevirtual 43, 3) := by decide +kernel
theorem dX3_readPart_19 : decode cX3_readPart 19 = .ok (.ifCond .ne 5, 3) := by decide +kernel
theorem dX3_readPart_22 : decode cX3_readPart 22 = .ok (.iconst 0, 1) := by decide +kernel
theorem dX3_readPart_23 : decode cX3_readPart 23 = .ok (.ireturn, 1) := by decide +kernel
theorem dX3_readPart_24 : decode cX3_readPart 24 = .ok (.iload_n 1, 1) := by decide +kernel
theorem dX3_readPart_25 : decode cX3_readPart 25 = .ok (.iconst 2, 1) := by decide +kernel
theorem dX3_readPart_26 : decode cX3_readPart 26 = .ok (.if_icmp .ne 7, 3) := by decide +kernel
theorem dX3_readPart_29 : decode cX3_readPart 29 = .ok (.iconst 1, 1) := by decide +kernel
theorem dX3_readPart_30 : decode cX3_readPart 30 = .ok (.goto 5, 3) := by decide +kernel
theorem dX3_readPart_33 : decode cX3_readPart 33 = .ok (.bipush 120, 2) := by decide +kernel
theorem dX3_readPart_35 : decode cX3_readPart 35 = .ok (.istore_n 3, 1) := by decide +kernel
theorem dX3_readPart_36 : decode cX3_readPart 36 = .ok (.iconst 0, 1) := by decide +kernel
theorem dX3_readPart_37 : decode cX3_readPart 37 = .ok (.istore 4, 2) := by decide +kernel
theorem dX3_readPart_39 : decode cX3_readPart 39 = .ok (.iload 4, 2) := by decide +kernel
theorem dX3_readPart_41 : decode cX3_readPart 41 = .ok (.iload_n 3, 1) := by decide +kernel
theorem dX3_readPart_42 : decode cX3_readPart 42 = .ok (.if_icmp .ge 55, 3) := by decide +kernel
theorem dX3_readPart_45 : decode cX3_readPart 45 = .ok (.aload_n 0, 1) := by decide +kernel
theorem dX3_readPart_46 : decode cX3_readPart 46 = .ok (.invokevirtual 35, 3) := by decide +kernel
theorem dX3_readPart_49 : decode cX3_readPart 49 = .ok (.invokestatic 54, 3) := by decide +kernel
theorem dX3_readPart_52 : decode cX3_readPart 52 = .ok (.iload_n 1, 1) := by decide +kernel
theorem dX3_readPart_53 : decode cX3_readPart 53 = .ok (.if_icmp .ne 44, 3) := by decide +kernel
theorem dX3_readPart_56 : decode cX3_readPart 56 = .ok (.aload_n 0, 1) := by decide +kernel
theorem dX3_readPart_57 : decode cX3_readPart 57 = .ok (.invokevirtual 35, 3) := by decide +kernel
theorem dX3_readPart_60 : decode cX3_readPart 60 = .ok (.istore 5, 2) := by decide +kernel
theorem dX3_readPart_62 : decode cX3_readPart 62 = .ok (.aload_n 0, 1) := by decide +kernel
theorem dX3_readPart_63 : decode cX3_readPart 63 = .ok (.dup, 1) := by decide +kernel
theorem dX3_readPart_64 : decode cX3_readPart 64 = .ok (.getfield 28, 3) := by decide +kernel
theorem dX3_readPart_67 : decode cX3_readPart 67 = .ok (.iconst 1, 1) := by decide +kernel
theorem dX3_readPart_68 : decode cX3_readPart 68 = .ok (.iadd, 1) := by decide +kernel
theorem dX3_readPart_69 : decode cX3_readPart 69 = .ok (.putfield 28, 3) := by decide +kernel
theorem dX3_readPart_72 : decode cX3_readPart 72 = .ok (.aload_n 0, 1) := by decide +kernel
theorem dX3_readPart_73 : decode cX3_readPart 73 = .ok (.iload_n 1, 1) := by decide +kernel
theorem dX3_readPart_74 : decode cX3_readPart 74 = .ok (.iconst 1, 1) := by decide +kernel
theorem dX3_readPart_75 : decode cX3_readPart 75 = .ok (.iadd, 1) := by decide +kernel
theorem dX3_readPart_76 : decode cX3_readPart 76 = .ok (.iload_n 2, 1) := by decide +kernel
theorem dX3_readPart_77 : decode cX3_readPart 77 = .ok (.invokevirtual 43, 3) := by decide +kernel
theorem dX3_readPart_80 : decode cX3_readPart 80 = .ok (.ifCond .ne 5, 3) := by decide +kernel
theorem dX3_readPart_83 : decode cX3_readPart 83 = .ok (.iconst 0, 1) := by decide +kernel
theorem dX3_readPart_84 : decode cX3_readPart 84 = .ok (.ireturn, 1) := by decide +kernel
theorem dX3_readPart_85 : decode cX3_readPart 85 = .ok (.aload_n 0, 1) := by decide +kernel
theorem dX3_readPart_86 : decode cX3_readPart 86 = .ok (.iload 5, 2) := by decide +kernel
theorem dX3_readPart_88 : decode cX3_readPart 88 = .ok (.invokevirtual 47, 3) := by decide +kernel
theorem dX3_readPart_91 : decode cX3_readPart 91 = .ok (.iinc 4 1, 3) := by decide +kernel
theorem dX3_readPart_94 : decode cX3_readPart 94 = .ok (.goto (-55), 3) := by decide +kernel
theorem dX3_readPart_97 : decode cX3_readPart 97 = .ok (.iconst 1, 1) := by decide +kernel
theorem dX3_readPart_98 : decode cX3_readPart 98 = .ok (.ireturn, 1) := by decide +kernel
theorem dX3_levelOf_0 : decode cX3_levelOf 0 = .ok (.iload_n 0, 1) := by decide +kernel
theorem dX3_levelOf_1 : decode cX3_levelOf 1 = .ok (.lookupswitch 101 #[(37, 99), (38, 93), (42, 99), (43, 97), (45, 97), (47, 99), (60, 95), (61, 95), (62, 95), (124, 91)], 91) := by decide +kernel
theorem dX3_levelOf_92 : decode cX3_levelOf 92 = .ok (.iconst 0, 1) := by decide +kernel
theorem dX3_levelOf_93 : decode cX3_levelOf 93 = .ok (.ireturn, 1) := by decide +kernel
theorem dX3_levelOf_94 : decode cX3_levelOf 94 = .ok (.iconst 1, 1) := by decide +kernel
theorem dX3_levelOf_95 : decode cX3_levelOf 95 = .ok (.ireturn, 1) := by decide +kernel
theorem dX3_levelOf_96 : decode cX3_levelOf 96 = .ok (.iconst 2, 1) := by decide +kernel
theorem dX3_levelOf_97 : decode cX3_levelOf 97 = .ok (.ireturn, 1) := by decide +kernel
theorem dX3_levelOf_98 : decode cX3_levelOf 98 = .ok (.iconst 3, 1) := by decide +kernel
theorem dX3_levelOf_99 : decode cX3_levelOf 99 = .ok (.ireturn, 1) := by decide +kernel
theorem dX3_levelOf_100 : decode cX3_levelOf 100 = .ok (.iconst 4, 1) := by decide +kernel
theorem dX3_levelOf_101 : decode cX3_levelOf 101 = .ok (.ireturn, 1) := by decide +kernel
theorem dX3_levelOf_102 : decode cX3_levelOf 102 = .ok (.iconst (-1), 1) := by decide +kernel
theorem dX3_levelOf_103 : decode cX3_levelOf 103 = .ok (.ireturn, 1) := by decide +kernel
theorem dX3_readOperand_0 : decode cX3_readOperand 0 = .ok (.aload_n 0, 1) := by decide +kernel
theorem dX3_readOperand_1 : decode cX3_readOperand 1 = .ok (.invokevirtual 35, 3) := by decide +kernel
theorem dX3_readOperand_4 : decode cX3_readOperand 4 = .ok (.istore_n 2, 1) := by decide +kernel
theorem dX3_readOperand_5 : decode cX3_readOperand 5 = .ok (.iload_n 2, 1) := by decide +kernel
theorem dX3_readOperand_6 : decode cX3_readOperand 6 = .ok (.invokestatic 58, 3) := by decide +kernel
theorem dX3_readOperand_9 : decode cX3_readOperand 9 = .ok (.ifCond .eq 8, 3) := by decide +kernel
theorem dX3_readOperand_12 : decode cX3_readOperand 12 = .ok (.aload_n 0, 1) := by decide +kernel
theorem dX3_readOperand_13 : decode cX3_readOperand 13 = .ok (.invokevirtual 61, 3) := by decide +kernel
theorem dX3_readOperand_16 : decode cX3_readOperand 16 = .ok (.ireturn, 1) := by decide +kernel
theorem dX3_readOperand_17 : decode cX3_readOperand 17 = .ok (.iload_n 2, 1) := by decide +kernel
theorem dX3_readOperand_18 : decode cX3_readOperand 18 = .ok (.ifCond .ge 7, 3) := by decide +kernel
theorem dX3_readOperand_21 : decode cX3_readOperand 21 = .ok (.iconst (-1), 1) := by decide +kernel
theorem dX3_readOperand_22 : decode cX3_readOperand 22 = .ok (.goto 10, 3) := by decide +kernel
theorem dX3_readOperand_25 : decode cX3_readOperand 25 = .ok (.ldc 64, 2) := by decide +kernel
theorem dX3_readOperand_27 : decode cX3_readOperand 27 = .ok (.iload_n 2, 1) := by decide +kernel
theorem dX3_readOperand_28 : decode cX3_readOperand 28 = .ok (.i2c, 1) := by decide +kernel
theorem dX3_readOperand_29 : decode cX3_readOperand 29 = .ok (.invokevirtual 66, 3) := by decide +kernel
theorem dX3_readOperand_32 : decode cX3_readOperand 32 = .ok (.istore_n 3, 1) := by decide +kernel
theorem dX3_readOperand_33 : decode cX3_readOperand 33 = .ok (.iload_n 3, 1) := by decide +kernel
theorem dX3_readOperand_34 : decode cX3_readOperand 34 = .ok (.ifCond .lt 25, 3) := by decide +kernel
theorem dX3_readOperand_37 : decode cX3_readOperand 37 = .ok (.aload_n 0, 1) := by decide +kernel
theorem dX3_readOperand_38 : decode cX3_readOperand 38 = .ok (.dup, 1) := by decide +kernel
theorem dX3_readOperand_39 : decode cX3_readOperand 39 = .ok (.getfield 28, 3) := by decide +kernel
theorem dX3_readOperand_42 : decode cX3_readOperand 42 = .ok (.iconst 1, 1) := by decide +kernel
theorem dX3_readOperand_43 : decode cX3_readOperand 43 = .ok (.iadd, 1) := by decide +kernel
theorem dX3_readOperand_44 : decode cX3_readOperand 44 = .ok (.putfield 28, 3) := by decide +kernel
theorem dX3_readOperand_47 : decode cX3_readOperand 47 = .ok (.aload_n 0, 1) := by decide +kernel
theorem dX3_readOperand_48 : decode cX3_readOperand 48 = .ok (.getfield 19, 3) := by decide +kernel
theorem dX3_readOperand_51 : decode cX3_readOperand 51 = .ok (.iconst (-1), 1) := by decide +kernel
theorem dX3_readOperand_52 : decode cX3_readOperand 52 = .ok (.iload_n 3, 1) := by decide +kernel
theorem dX3_readOperand_53 : decode cX3_readOperand 53 = .ok (.isub, 1) := by decide +kernel
theorem dX3_readOperand_54 : decode cX3_readOperand 54 = .ok (.invokevirtual 39, 3) := by decide +kernel
theorem dX3_readOperand_57 : decode cX3_readOperand 57 = .ok (.iconst 1, 1) := by decide +kernel
theorem dX3_readOperand_58 : decode cX3_readOperand 58 = .ok (.ireturn, 1) := by decide +kernel
theorem dX3_readOperand_59 : decode cX3_readOperand 59 = .ok (.iload_n 1, 1) := by decide +kernel
theorem dX3_readOperand_60 : decode cX3_readOperand 60 = .ok (.bipush 6, 2) := by decide +kernel
theorem dX3_readOperand_62 : decode cX3_readOperand 62 = .ok (.if_icmp .lt 5, 3) := by decide +kernel
theorem dX3_readOperand_65 : decode cX3_readOperand 65 = .ok (.iconst 0, 1) := by decide +kernel
theorem dX3_readOperand_66 : decode cX3_readOperand 66 = .ok (.ireturn, 1) := by decide +kernel
theorem dX3_readOperand_67 : decode cX3_readOperand 67 = .ok (.iload_n 2, 1) := by decide +kernel
theorem dX3_readOperand_68 : decode cX3_readOperand 68 = .ok (.bipush 40, 2) := by decide +kernel
theorem dX3_readOperand_70 : decode cX3_readOperand 70 = .ok (.if_icmp .ne 11, 3) := by decide +kernel
theorem dX3_readOperand_73 : decode cX3_readOperand 73 = .ok (.aload_n 0, 1) := by decide +kernel
theorem dX3_readOperand_74 : decode cX3_readOperand 74 = .ok (.iload_n 1, 1) := by decide +kernel
theorem dX3_readOperand_75 : decode cX3_readOperand 75 = .ok (.iconst 1, 1) := by decide +kernel
theorem dX3_readOperand_76 : decode cX3_readOperand 76 = .ok (.iadd, 1) := by decide +kernel
theorem dX3_readOperand_77 : decode cX3_readOperand 77 = .ok (.invokevirtual 71, 3) := by decide +kernel
theorem dX3_readOperand_80 : decode cX3_readOperand 80 = .ok (.ireturn, 1) := by decide +kernel
theorem dX3_readOperand_81 : decode cX3_readOperand 81 = .ok (.iload_n 2, 1) := by decide +kernel
theorem dX3_readOperand_82 : decode cX3_readOperand 82 = .ok (.bipush 33, 2) := by decide +kernel
theorem dX3_readOperand_84 : decode cX3_readOperand 84 = .ok (.if_icmp .eq 11, 3) := by decide +kernel
theorem dX3_readOperand_87 : decode cX3_readOperand 87 = .ok (.iload_n 2, 1) := by decide +kernel
theorem dX3_readOperand_88 : decode cX3_readOperand 88 = .ok (.bipush 45, 2) := by decide +kernel
theorem dX3_readOperand_90 : decode cX3_readOperand 90 = .ok (.if_icmp .eq 5, 3) := by decide +kernel
theorem dX3_readOperand_93 : decode cX3_readOperand 93 = .ok (.iconst 0, 1) := by decide +kernel
theorem dX3_readOperand_94 : decode cX3_readOperand 94 = .ok (.ireturn, 1) := by decide +kernel
theorem dX3_readOperand_95 : decode cX3_readOperand 95 = .ok (.aload_n 0, 1) := by decide +kernel
theorem dX3_readOperand_96 : decode cX3_readOperand 96 = .ok (.dup, 1) := by decide +kernel
theorem dX3_readOperand_97 : decode cX3_readOperand 97 = .ok (.getfield 28, 3) := by decide +kernel
theorem dX3_readOperand_100 : decode cX3_readOperand 100 = .ok (.iconst 1, 1) := by decide +kernel
theorem dX3_readOperand_101 : decode cX3_readOperand 101 = .ok (.iadd, 1) := by decide +kernel
theorem dX3_readOperand_102 : decode cX3_readOperand 102 = .ok (.putfield 28, 3) := by decide +kernel
theorem dX3_readOperand_105 : decode cX3_readOperand 105 = .ok (.aload_n 0, 1) := by decide +kernel
theorem dX3_readOperand_106 : decode cX3_readOperand 106 = .ok (.iload_n 1, 1) := by decide +kernel
theorem dX3_readOperand_107 : decode cX3_readOperand 107 = .ok (.iconst 1, 1) := by decide +kernel
theorem dX3_readOperand_108 : decode cX3_readOperand 108 = .ok (.iadd, 1) := by decide +kernel
theorem dX3_readOperand_109 : decode cX3_readOperand 109 = .ok (.invokevirtual 50, 3) := by decide +kernel
theorem dX3_readOperand_112 : decode cX3_readOperand 112 = .ok (.ifCond .ne 5, 3) := by decide +kernel
theorem dX3_readOperand_115 : decode cX3_readOperand 115 = .ok (.iconst 0, 1) := by decide +kernel
theorem dX3_readOperand_116 : decode cX3_readOperand 116 = .ok (.ireturn, 1) := by decide +kernel
theorem dX3_readOperand_117 : decode cX3_readOperand 117 = .ok (.aload_n 0, 1) := by decide +kernel
theorem dX3_readOperand_118 : decode cX3_readOperand 118 = .ok (.iload_n 2, 1) := by decide +kernel
theorem dX3_readOperand_119 : decode cX3_readOperand 119 = .ok (.bipush 45, 2) := by decide +kernel
theorem dX3_readOperand_121 : decode cX3_readOperand 121 = .ok (.if_icmp .ne 8, 3) := by decide +kernel
theorem dX3_readOperand_124 : decode cX3_readOperand 124 = .ok (.bipush 126, 2) := by decide +kernel
theorem dX3_readOperand_126 : decode cX3_readOperand 126 = .ok (.goto 5, 3) := by decide +kernel
theorem dX3_readOperand_129 : decode cX3_readOperand 129 = .ok (.bipush 33, 2) := by decide +kernel
theorem dX3_readOperand_131 : decode cX3_readOperand 131 = .ok (.invokevirtual 47, 3) := by decide +kernel
theorem dX3_readOperand_134 : decode cX3_readOperand 134 = .ok (.iconst 1, 1) := by decide +kernel
theorem dX3_readOperand_135 : decode cX3_readOperand 135 = .ok (.ireturn, 1) := by decide +kernel
theorem dX3_readBracket_0 : decode cX3_readBracket 0 = .ok (.aload_n 0, 1) := by decide +kernel
theorem dX3_readBracket_1 : decode cX3_readBracket 1 = .ok (.dup, 1) := by decide +kernel
theorem dX3_readBracket_2 : decode cX3_readBracket 2 = .ok (.getfield 28, 3) := by decide +kernel
theorem dX3_readBracket_5 : decode cX3_readBracket 5 = .ok (.iconst 1, 1) := by decide +kernel
theorem dX3_readBracket_6 : decode cX3_readBracket 6 = .ok (.iadd, 1) := by decide +kernel
theorem dX3_readBracket_7 : decode cX3_readBracket 7 = .ok (.putfield 28, 3) := by decide +kernel
theorem dX3_readBracket_10 : decode cX3_readBracket 10 = .ok (.aload_n 0, 1) := by decide +kernel
theorem dX3_readBracket_11 : decode cX3_readBracket 11 = .ok (.iconst 0, 1) := by decide +kernel
theorem dX3_readBracket_12 : decode cX3_readBracket 12 = .ok (.iload_n 1, 1) := by decide +kernel
theorem dX3_readBracket_13 : decode cX3_readBracket 13 = .ok (.invokevirtual 43, 3) := by decide +kernel
theorem dX3_readBracket_16 : decode cX3_readBracket 16 = .ok (.ifCond .eq 12, 3) := by decide +kernel
theorem dX3_readBracket_19 : decode cX3_readBracket 19 = .ok (.aload_n 0, 1) := by decide +kernel
theorem dX3_readBracket_20 : decode cX3_readBracket 20 = .ok (.invokevirtual 35, 3) := by decide +kernel
theorem dX3_readBracket_23 : decode cX3_readBracket 23 = .ok (.bipush 41, 2) := by decide +kernel
theorem dX3_readBracket_25 : decode cX3_readBracket 25 = .ok (.if_icmp .eq 5, 3) := by decide +kernel
theorem dX3_readBracket_28 : decode cX3_readBracket 28 = .ok (.iconst 0, 1) := by decide +kernel
theorem dX3_readBracket_29 : decode cX3_readBracket 29 = .ok (.ireturn, 1) := by decide +kernel
theorem dX3_readBracket_30 : decode cX3_readBracket 30 = .ok (.aload_n 0, 1) := by decide +kernel
theorem dX3_readBracket_31 : decode cX3_readBracket 31 = .ok (.dup, 1) := by decide +kernel
theorem dX3_readBracket_32 : decode cX3_readBracket 32 = .ok (.getfield 28, 3) := by decide +kernel
theorem dX3_readBracket_35 : decode cX3_readBracket 35 = .ok (.iconst 1, 1) := by decide +kernel
theorem dX3_readBracket_36 : decode cX3_readBracket 36 = .ok (.iadd, 1) := by decide +kernel
theorem dX3_readBracket_37 : decode cX3_readBracket 37 = .ok (.putfield 28, 3) := by decide +kernel
theorem dX3_readBracket_40 : decode cX3_readBracket 40 = .ok (.iconst 1, 1) := by decide +kernel
theorem dX3_readBracket_41 : decode cX3_readBracket 41 = .ok (.ireturn, 1) := by decide +kernel
theorem dX3_readNumber_0 : decode cX3_readNumber 0 = .ok (.iconst 0, 1) := by decide +kernel
theorem dX3_readNumber_1 : decode cX3_readNumber 1 = .ok (.istore_n 1, 1) := by decide +kernel
theorem dX3_readNumber_2 : decode cX3_readNumber 2 = .ok (.iconst 0, 1) := by decide +kernel
theorem dX3_readNumber_3 : decode cX3_readNumber 3 = .ok (.istore_n 2, 1) := by decide +kernel
theorem dX3_readNumber_4 : decode cX3_readNumber 4 = .ok (.iload_n 2, 1) := by decide +kernel
theorem dX3_readNumber_5 : decode cX3_readNumber 5 = .ok (.iconst 4, 1) := by decide +kernel
theorem dX3_readNumber_6 : decode cX3_readNumber 6 = .ok (.if_icmp .ge 42, 3) := by decide +kernel
theorem dX3_readNumber_9 : decode cX3_readNumber 9 = .ok (.aload_n 0, 1) := by decide +kernel
theorem dX3_readNumber_10 : decode cX3_readNumber 10 = .ok (.invokevirtual 35, 3) := by decide +kernel
theorem dX3_readNumber_13 : decode cX3_readNumber 13 = .ok (.invokestatic 58, 3) := by decide +kernel
theorem dX3_readNumber_16 : decode cX3_readNumber 16 = .ok (.ifCond .eq 32, 3) := by decide +kernel
theorem dX3_readNumber_19 : decode cX3_readNumber 19 = .ok (.bipush 10, 2) := by decide +kernel
theorem dX3_readNumber_21 : decode cX3_readNumber 21 = .ok (.iload_n 1, 1) := by decide +kernel
theorem dX3_readNumber_22 : decode cX3_readNumber 22 = .ok (.imul, 1) := by decide +kernel
theorem dX3_readNumber_23 : decode cX3_readNumber 23 = .ok (.aload_n 0, 1) := by decide +kernel
theorem dX3_readNumber_24 : decode cX3_readNumber 24 = .ok (.invokevirtual 35, 3) := by decide +kernel
theorem dX3_readNumber_27 : decode cX3_readNumber 27 = .ok (.iadd, 1) := by decide +kernel
theorem dX3_readNumber_28 : decode cX3_readNumber 28 = .ok (.bipush 48, 2) := by decide +kernel
theorem dX3_readNumber_30 : decode cX3_readNumber 30 = .ok (.isub, 1) := by decide +kernel
theorem dX3_readNumber_31 : decode cX3_readNumber 31 = .ok (.istore_n 1, 1) := by decide +kernel
theorem dX3_readNumber_32 : decode cX3_readNumber 32 = .ok (.aload_n 0, 1) := by decide +kernel
theorem dX3_readNumber_33 : decode cX3_readNumber 33 = .ok (.dup, 1) := by decide +kernel
theorem dX3_readNumber_34 : decode cX3_readNumber 34 = .ok (.getfield 28, 3) := by decide +kernel
theorem dX3_readNumber_37 : decode cX3_readNumber 37 = .ok (.iconst 1, 1) := by decide +kernel
theorem dX3_readNumber_38 : decode cX3_readNumber 38 = .ok (.iadd, 1) := by decide +kernel
theorem dX3_readNumber_39 : decode cX3_readNumber 39 = .ok (.putfield 28, 3) := by decide +kernel
theorem dX3_readNumber_42 : decode cX3_readNumber 42 = .ok (.iinc 2 1, 3) := by decide +kernel
theorem dX3_readNumber_45 : decode cX3_readNumber 45 = .ok (.goto (-41), 3) := by decide +kernel
theorem dX3_readNumber_48 : decode cX3_readNumber 48 = .ok (.aload_n 0, 1) := by decide +kernel
theorem dX3_readNumber_49 : decode cX3_readNumber 49 = .ok (.getfield 19, 3) := by decide +kernel
theorem dX3_readNumber_52 : decode cX3_readNumber 52 = .ok (.iload_n 1, 1) := by decide +kernel
theorem dX3_readNumber_53 : decode cX3_readNumber 53 = .ok (.invokevirtual 39, 3) := by decide +kernel
theorem dX3_readNumber_56 : decode cX3_readNumber 56 = .ok (.iconst 1, 1) := by decide +kernel
theorem dX3_readNumber_57 : decode cX3_readNumber 57 = .ok (.ireturn, 1) := by decide +kernel
theorem dX3_isDigit_0 : decode cX3_isDigit 0 = .ok (.iload_n 0, 1) := by decide +kernel
theorem dX3_isDigit_1 : decode cX3_isDigit 1 = .ok (.bipush 48, 2) := by decide +kernel
theorem dX3_isDigit_3 : decode cX3_isDigit 3 = .ok (.if_icmp .lt 13, 3) := by decide +kernel
theorem dX3_isDigit_6 : decode cX3_isDigit 6 = .ok (.iload_n 0, 1) := by decide +kernel
theorem dX3_isDigit_7 : decode cX3_isDigit 7 = .ok (.bipush 57, 2) := by decide +kernel
theorem dX3_isDigit_9 : decode cX3_isDigit 9 = .ok (.if_icmp .gt 7, 3) := by decide +kernel
theorem dX3_isDigit_12 : decode cX3_isDigit 12 = .ok (.iconst 1, 1) := by decide +kernel
theorem dX3_isDigit_13 : decode cX3_isDigit 13 = .ok (.goto 4, 3) := by decide +kernel
theorem dX3_isDigit_16 : decode cX3_isDigit 16 = .ok (.iconst 0, 1) := by decide +kernel
theorem dX3_isDigit_17 : decode cX3_isDigit 17 = .ok (.ireturn, 1) := by decide +kernel
theorem dX4_init_0 : decode cX4_init 0 = .ok (.aload_n 0, 1) := by decide +kernel
theorem dX4_init_1 : decode cX4_init 1 = .ok (.invokespecial 3, 3) := by decide +kernel
theorem dX4_init_4 : decode cX4_init 4 = .ok (.aload_n 0, 1) := by decide +kernel
theorem dX4_init_5 : decode cX4_init 5 = .ok (.sipush 128, 3) := by decide +kernel
theorem dX4_init_8 : decode cX4_init 8 = .ok (.newarray .int, 2) := by decide +kernel
theorem dX4_init_10 : decode cX4_init 10 = .ok (.putfield 11, 3) := by decide +kernel
theorem dX4_init_13 : decode cX4_init 13 = .ok (.aload_n 0, 1) := by decide +kernel
theorem dX4_init_14 : decode cX4_init 14 = .ok (.sipush 128, 3) := by decide +kernel
theorem dX4_init_17 : decode cX4_init 17 = .ok (.newarray .int, 2) := by decide +kernel
theorem dX4_init_19 : decode cX4_init 19 = .ok (.putfield 15, 3) := by decide +kernel
theorem dX4_init_22 : decode cX4_init 22 = .ok (.return_, 1) := by decide +kernel
theorem dX4_clearSteps_0 : decode cX4_clearSteps 0 = .ok (.aload_n 0, 1) := by decide +kernel
theorem dX4_clearSteps_1 : decode cX4_clearSteps 1 = .ok (.iconst 0, 1) := by decide +kernel
theorem dX4_clearSteps_2 : decode cX4_clearSteps 2 = .ok (.putfield 18, 3) := by decide +kernel
theorem dX4_clearSteps_5 : decode cX4_clearSteps 5 = .ok (.return_, 1) := by decide +kernel
theorem dX4_addStep_0 : decode cX4_addStep 0 = .ok (.aload_n 0, 1) := by decide +kernel
theorem dX4_addStep_1 : decode cX4_addStep 1 = .ok (.getfield 18, 3) := by decide +kernel
theorem dX4_addStep_4 : decode cX4_addStep 4 = .ok (.sipush 128, 3) := by decide +kernel
theorem dX4_addStep_7 : decode cX4_addStep 7 = .ok (.if_icmp .ge 20, 3) := by decide +kernel
theorem dX4_addStep_10 : decode cX4_addStep 10 = .ok (.aload_n 0, 1) := by decide +kernel
theorem dX4_addStep_11 : decode cX4_addStep 11 = .ok (.getfield 11, 3) := by decide +kernel
theorem dX4_addStep_14 : decode cX4_addStep 14 = .ok (.aload_n 0, 1) := by decide +kernel
theorem dX4_addStep_15 : decode cX4_addStep 15 = .ok (.dup, 1) := by decide +kernel
theorem dX4_addStep_16 : decode cX4_addStep 16 = .ok (.getfield 18, 3) := by decide +kernel
theorem dX4_addStep_19 : decode cX4_addStep 19 = .ok (.dup_x1, 1) := by decide +kernel
theorem dX4_addStep_20 : decode cX4_addStep 20 = .ok (.iconst 1, 1) := by decide +kernel
theorem dX4_addStep_21 : decode cX4_addStep 21 = .ok (.iadd, 1) := by decide +kernel
theorem dX4_addStep_22 : decode cX4_addStep 22 = .ok (.putfield 18, 3) := by decide +kernel
theorem dX4_addStep_25 : decode cX4_addStep 25 = .ok (.iload_n 1, 1) := by decide +kernel
theorem dX4_addStep_26 : decode cX4_addStep 26 = .ok (.iastore, 1) := by decide +kernel
theorem dX4_addStep_27 : decode cX4_addStep 27 = .ok (.return_, 1) := by decide +kernel
theorem dX4_push_0 : decode cX4_push 0 = .ok (.aload_n 0, 1) := by decide +kernel
theorem dX4_push_1 : decode cX4_push 1 = .ok (.getfield 22, 3) := by decide +kernel
theorem dX4_push_4 : decode cX4_push 4 = .ok (.ifCond .lt 30, 3) := by decide +kernel
theorem dX4_push_7 : decode cX4_push 7 = .ok (.aload_n 0, 1) := by decide +kernel
theorem dX4_push_8 : decode cX4_push 8 = .ok (.getfield 22, 3) := by decide +kernel
theorem dX4_push_11 : decode cX4_push 11 = .ok (.sipush 128, 3) := by decide +kernel
theorem dX4_push_14 : decode cX4_push 14 = .ok (.if_icmp .ge 20, 3) := by decide +kernel
theorem dX4_push_17 : decode cX4_push 17 = .ok (.aload_n 0, 1) := by decide +kernel
theorem dX4_push_18 : decode cX4_push 18 = .ok (.getfield 15, 3) := by decide +kernel
theorem dX4_push_21 : decode cX4_push 21 = .ok (.aload_n 0, 1) := by decide +kernel
theorem dX4_push_22 : decode cX4_push 22 = .ok (.dup, 1) := by decide +kernel
theorem dX4_push_23 : decode cX4_push 23 = .ok (.getfield 22, 3) := by decide +kernel
theorem dX4_push_26 : decode cX4_push 26 = .ok (.dup_x1, 1) := by decide +kernel
theorem dX4_push_27 : decode cX4_push 27 = .ok (.iconst 1, 1) := by decide +kernel
theorem dX4_push_28 : decode cX4_push 28 = .ok (.iadd, 1) := by decide +kernel
theorem dX4_push_29 : decode cX4_push 29 = .ok (.putfield 22, 3) := by decide +kernel
theorem dX4_push_32 : decode cX4_push 32 = .ok (.iload_n 1, 1) := by decide +kernel
theorem dX4_push_33 : decode cX4_push 33 = .ok (.iastore, 1) := by decide +kernel
theorem dX4_push_34 : decode cX4_push 34 = .ok (.return_, 1) := by decide +kernel
theorem dX4_pop_0 : decode cX4_pop 0 = .ok (.aload_n 0, 1) := by decide +kernel
theorem dX4_pop_1 : decode cX4_pop 1 = .ok (.getfield 22, 3) := by decide +kernel
theorem dX4_pop_4 : decode cX4_pop 4 = .ok (.ifCond .le 32, 3) := by decide +kernel
theorem dX4_pop_7 : decode cX4_pop 7 = .ok (.aload_n 0, 1) := by decide +kernel
theorem dX4_pop_8 : decode cX4_pop 8 = .ok (.getfield 22, 3) := by decide +kernel
theorem dX4_pop_11 : decode cX4_pop 11 = .ok (.sipush 128, 3) := by decide +kernel
theorem dX4_pop_14 : decode cX4_pop 14 = .ok (.if_icmp .gt 22, 3) := by decide +kernel
theorem dX4_pop_17 : decode cX4_pop 17 = .ok (.aload_n 0, 1) := by decide +kernel
theorem dX4_pop_18 : decode cX4_pop 18 = .ok (.getfield 15, 3) := by decide +kernel
theorem dX4_pop_21 : decode cX4_pop 21 = .ok (.aload_n 0, 1) := by decide +kernel
theorem dX4_pop_22 : decode cX4_pop 22 = .ok (.dup, 1) := by decide +kernel
theorem dX4_pop_23 : decode cX4_pop 23 = .ok (.getfield 22, 3) := by decide +kernel
theorem dX4_pop_26 : decode cX4_pop 26 = .ok (.iconst 1, 1) := by decide +kernel
theorem dX4_pop_27 : decode cX4_pop 27 = .ok (.isub, 1) := by decide +kernel
theorem dX4_pop_28 : decode cX4_pop 28 = .ok (.dup_x1, 1) := by decide +kernel
theorem dX4_pop_29 : decode cX4_pop 29 = .ok (.putfield 22, 3) := by decide +kernel
theorem dX4_pop_32 : decode cX4_pop 32 = .ok (.iaload, 1) := by decide +kernel
theorem dX4_pop_33 : decode cX4_pop 33 = .ok (.goto 4, 3) := by decide +kernel
theorem dX4_pop_36 : decode cX4_pop 36 = .ok (.iconst 0, 1) := by decide +kernel
theorem dX4_pop_37 : decode cX4_pop 37 = .ok (.ireturn, 1) := by decide +kernel
theorem dX4_worth_0 : decode cX4_worth 0 = .ok (.aload_n 0, 1) := by decide +kernel
theorem dX4_worth_1 : decode cX4_worth 1 = .ok (.getfield 18, 3) := by decide +kernel
theorem dX4_worth_4 : decode cX4_worth 4 = .ok (.ifCond .ne 18, 3) := by decide +kernel
theorem dX4_worth_7 : decode cX4_worth 7 = .ok (.aload_n 1, 1) := by decide +kernel
theorem dX4_worth_8 : decode cX4_worth 8 = .ok (.iconst 0, 1) := by decide +kernel
theorem dX4_worth_9 : decode cX4_worth 9 = .ok (.iaload, 1) := by decide +kernel
theorem dX4_worth_10 : decode cX4_worth 10 = .ok (.aload_n 1, 1) := by decide +kernel
theorem dX4_worth_11 : decode cX4_worth 11 = .ok (.iconst 1, 1) := by decide +kernel
theorem dX4_worth_12 : decode cX4_worth 12 = .ok (.iaload, 1) := by decide +kernel
theorem dX4_worth_13 : decode cX4_worth 13 = .ok (.isub, 1) := by decide +kernel
theorem dX4_worth_14 : decode cX4_worth 14 = .ok (.bipush 10, 2) := by decide +kernel
theorem dX4_worth_16 : decode cX4_worth 16 = .ok (.aload_n 1, 1) := by decide +kernel
theorem dX4_worth_17 : decode cX4_worth 17 = .ok (.iconst 4, 1) := by decide +kernel
theorem dX4_worth_18 : decode cX4_worth 18 = .ok (.iaload, 1) := by decide +kernel
theorem dX4_worth_19 : decode cX4_worth 19 = .ok (.imul, 1) := by decide +kernel
theorem dX4_worth_20 : decode cX4_worth 20 = .ok (.isub, 1) := by decide +kernel
theorem dX4_worth_21 : decode cX4_worth 21 = .ok (.ireturn, 1) := by decide +kernel
theorem dX4_worth_22 : decode cX4_worth 22 = .ok (.iconst 1, 1) := by decide +kernel
theorem dX4_worth_23 : decode cX4_worth 23 = .ok (.istore_n 2, 1) := by decide +kernel
theorem dX4_worth_24 : decode cX4_worth 24 = .ok (.aload_n 0, 1) := by decide +kernel
theorem dX4_worth_25 : decode cX4_worth 25 = .ok (.iconst 0, 1) := by decide +kernel
theorem dX4_worth_26 : decode cX4_worth 26 = .ok (.putfield 22, 3) := by decide +kernel
theorem dX4_worth_29 : decode cX4_worth 29 = .ok (.iconst 0, 1) := by decide +kernel
theorem dX4_worth_30 : decode cX4_worth 30 = .ok (.istore_n 3, 1) := by decide +kernel
theorem dX4_worth_31 : decode cX4_worth 31 = .ok (.iload_n 3, 1) := by decide +kernel
theorem dX4_worth_32 : decode cX4_worth 32 = .ok (.aload_n 0, 1) := by decide +kernel
theorem dX4_worth_33 : decode cX4_worth 33 = .ok (.getfield 18, 3) := by decide +kernel
theorem dX4_worth_36 : decode cX4_worth 36 = .ok (.if_icmp .ge 146, 3) := by decide +kernel
theorem dX4_worth_39 : decode cX4_worth 39 = .ok (.aload_n 0, 1) := by decide +kernel
theorem dX4_worth_40 : decode cX4_worth 40 = .ok (.getfield 11, 3) := by decide +kernel
theorem dX4_worth_43 : decode cX4_worth 43 = .ok (.iload_n 3, 1) := by decide +kernel
theorem dX4_worth_44 : decode cX4_worth 44 = .ok (.iaload, 1) := by decide +kernel
theorem dX4_worth_45 : decode cX4_worth 45 = .ok (.istore 4, 2) := by decide +kernel
theorem dX4_worth_47 : decode cX4_worth 47 = .ok (.bipush (-100), 2) := by decide +kernel
theorem dX4_worth_49 : decode cX4_worth 49 = .ok (.iload 4, 2) := by decide +kernel
theorem dX4_worth_51 : decode cX4_worth 51 = .ok (.isub, 1) := by decide +kernel
theorem dX4_worth_52 : decode cX4_worth 52 = .ok (.istore 5, 2) := by decide +kernel
theorem dX4_worth_54 : decode cX4_worth 54 = .ok (.iload 5, 2) := by decide +kernel
theorem dX4_worth_56 : decode cX4_worth 56 = .ok (.ifCond .ge 28, 3) := by decide +kernel
theorem dX4_worth_59 : decode cX4_worth 59 = .ok (.aload_n 0, 1) := by decide +kernel
theorem dX4_worth_60 : decode cX4_worth 60 = .ok (.iload 4, 2) := by decide +kernel
theorem dX4_worth_62 : decode cX4_worth 62 = .ok (.ifCond .lt 8, 3) := by decide +kernel
theorem dX4_worth_65 : decode cX4_worth 65 = .ok (.iload 4, 2) := by decide +kernel
theorem dX4_worth_67 : decode cX4_worth 67 = .ok (.goto 11, 3) := by decide +kernel
theorem dX4_worth_70 : decode cX4_worth 70 = .ok (.aload_n 1, 1) := by decide +kernel
theorem dX4_worth_71 : decode cX4_worth 71 = .ok (.iconst (-1), 1) := by decide +kernel
theorem dX4_worth_72 : decode cX4_worth 72 = .ok (.iload 4, 2) := by decide +kernel
theorem dX4_worth_74 : decode cX4_worth 74 = .ok (.isub, 1) := by decide +kernel
theorem dX4_worth_75 : decode cX4_worth 75 = .ok (.invokestatic 27, 3) := by decide +kernel
theorem dX4_worth_78 : decode cX4_worth 78 = .ok (.invokevirtual 31, 3) := by decide +kernel
theorem dX4_worth_81 : decode cX4_worth 81 = .ok (.goto 95, 3) := by decide +kernel
theorem dX4_worth_84 : decode cX4_worth 84 = .ok (.iload 5, 2) := by decide +kernel
theorem dX4_worth_86 : decode cX4_worth 86 = .ok (.bipush 63, 2) := by decide +kernel
theorem dX4_worth_88 : decode cX4_worth 88 = .ok (.if_icmp .ne 19, 3) := by decide +kernel
theorem dX4_worth_91 : decode cX4_worth 91 = .ok (.aload_n 0, 1) := by decide +kernel
theorem dX4_worth_92 : decode cX4_worth 92 = .ok (.invokevirtual 35, 3) := by decide +kernel
theorem dX4_worth_95 : decode cX4_worth 95 = .ok (.ifCond .eq 7, 3) := by decide +kernel
theorem dX4_worth_98 : decode cX4_worth 98 = .ok (.iconst 1, 1) := by decide +kernel
theorem dX4_worth_99 : decode cX4_worth 99 = .ok (.goto 4, 3) := by decide +kernel
theorem dX4_worth_102 : decode cX4_worth 102 = .ok (.iconst 0, 1) := by decide +kernel
theorem dX4_worth_103 : decode cX4_worth 103 = .ok (.istore_n 2, 1) := by decide +kernel
theorem dX4_worth_104 : decode cX4_worth 104 = .ok (.goto 72, 3) := by decide +kernel
theorem dX4_worth_107 : decode cX4_worth 107 = .ok (.iload 5, 2) := by decide +kernel
theorem dX4_worth_109 : decode cX4_worth 109 = .ok (.bipush 59, 2) := by decide +kernel
theorem dX4_worth_111 : decode cX4_worth 111 = .ok (.if_icmp .eq 49, 3) := by decide +kernel
theorem dX4_worth_114 : decode cX4_worth 114 = .ok (.aload_n 0, 1) := by decide +kernel
theorem dX4_worth_115 : decode cX4_worth 115 = .ok (.invokevirtual 35, 3) := by decide +kernel
theorem dX4_worth_118 : decode cX4_worth 118 = .ok (.istore 6, 2) := by decide +kernel
theorem dX4_worth_120 : decode cX4_worth 120 = .ok (.iload 5, 2) := by decide +kernel
theorem dX4_worth_122 : decode cX4_worth 122 = .ok (.bipush 33, 2) := by decide +kernel
theorem dX4_worth_124 : decode cX4_worth 124 = .ok (.if_icmp .eq 10, 3) := by decide +kernel
theorem dX4_worth_127 : decode cX4_worth 127 = .ok (.iload 5, 2) := by decide +kernel
theorem dX4_worth_129 : decode cX4_worth 129 = .ok (.bipush 126, 2) := by decide +kernel
theorem dX4_worth_131 : decode cX4_worth 131 = .ok (.if_icmp .ne 7, 3) := by decide +kernel
theorem dX4_worth_134 : decode cX4_worth 134 = .ok (.iconst 0, 1) := by decide +kernel
theorem dX4_worth_135 : decode cX4_worth 135 = .ok (.goto 7, 3) := by decide +kernel
theorem dX4_worth_138 : decode cX4_worth 138 = .ok (.aload_n 0, 1) := by decide +kernel
theorem dX4_worth_139 : decode cX4_worth 139 = .ok (.invokevirtual 35, 3) := by decide +kernel
theorem dX4_worth_142 : decode cX4_worth 142 = .ok (.istore 7, 2) := by decide +kernel
theorem dX4_worth_144 : decode cX4_worth 144 = .ok (.aload_n 0, 1) := by decide +kernel
theorem dX4_worth_145 : decode cX4_worth 145 = .ok (.iload 5, 2) := by decide +kernel
theorem dX4_worth_147 : decode cX4_worth 147 = .ok (.iload 7, 2) := by decide +kernel
theorem dX4_worth_149 : decode cX4_worth 149 = .ok (.iload 6, 2) := by decide +kernel
theorem dX4_worth_151 : decode cX4_worth 151 = .ok (.invokestatic 39, 3) := by decide +kernel
theorem dX4_worth_154 : decode cX4_worth 154 = .ok (.invokevirtual 31, 3) := by decide +kernel
theorem dX4_worth_157 : decode cX4_worth 157 = .ok (.goto 19, 3) := by decide +kernel
theorem dX4_worth_160 : decode cX4_worth 160 = .ok (.iload_n 2, 1) := by decide +kernel
theorem dX4_worth_161 : decode cX4_worth 161 = .ok (.ifCond .eq 8, 3) := by decide +kernel
theorem dX4_worth_164 : decode cX4_worth 164 = .ok (.aload_n 0, 1) := by decide +kernel
theorem dX4_worth_165 : decode cX4_worth 165 = .ok (.invokevirtual 35, 3) := by decide +kernel
theorem dX4_worth_168 : decode cX4_worth 168 = .ok (.ireturn, 1) := by decide +kernel
theorem dX4_worth_169 : decode cX4_worth 169 = .ok (.aload_n 0, 1) := by decide +kernel
theorem dX4_worth_170 : decode cX4_worth 170 = .ok (.iconst 0, 1) := by decide +kernel
theorem dX4_worth_171 : decode cX4_worth 171 = .ok (.putfield 22, 3) := by decide +kernel
theorem dX4_worth_174 : decode cX4_worth 174 = .ok (.iconst 1, 1) := by decide +kernel
theorem dX4_worth_175 : decode cX4_worth 175 = .ok (.istore_n 2, 1) := by decide +kernel
theorem dX4_worth_176 : decode cX4_worth 176 = .ok (.iinc 3 1, 3) := by decide +kernel
theorem dX4_worth_179 : decode cX4_worth 179 = .ok (.goto (-148), 3) := by decide +kernel
theorem dX4_worth_182 : decode cX4_worth 182 = .ok (.iconst 0, 1) := by decide +kernel
theorem dX4_worth_183 : decode cX4_worth 183 = .ok (.ireturn, 1) := by decide +kernel
theorem dX4_factAt_0 : decode cX4_factAt 0 = .ok (.iload_n 1, 1) := by decide +kernel
theorem dX4_factAt_1 : decode cX4_factAt 1 = .ok (.ifCond .lt 15, 3) := by decide +kernel
theorem dX4_factAt_4 : decode cX4_factAt 4 = .ok (.iload_n 1, 1) := by decide +kernel
theorem dX4_factAt_5 : decode cX4_factAt 5 = .ok (.aload_n 0, 1) := by decide +kernel
theorem dX4_factAt_6 : decode cX4_factAt 6 = .ok (.arraylength, 1) := by decide +kernel
theorem dX4_factAt_7 : decode cX4_factAt 7 = .ok (.if_icmp .ge 9, 3) := by decide +kernel
theorem dX4_factAt_10 : decode cX4_factAt 10 = .ok (.aload_n 0, 1) := by decide +kernel
theorem dX4_factAt_11 : decode cX4_factAt 11 = .ok (.iload_n 1, 1) := by decide +kernel
theorem dX4_factAt_12 : decode cX4_factAt 12 = .ok (.iaload, 1) := by decide +kernel
theorem dX4_factAt_13 : decode cX4_factAt 13 = .ok (.goto 4, 3) := by decide +kernel
theorem dX4_factAt_16 : decode cX4_factAt 16 = .ok (.iconst 0, 1) := by decide +kernel
theorem dX4_factAt_17 : decode cX4_factAt 17 = .ok (.ireturn, 1) := by decide +kernel
theorem dX4_joined_0 : decode cX4_joined 0 = .ok (.iload_n 0, 1) := by decide +kernel
theorem dX4_joined_1 : decode cX4_joined 1 = .ok (.lookupswitch 217 #[(33, 204), (37, 192), (38, 121), (42, 176), (43, 168), (45, 172), (47, 180), (60, 135), (61, 146), (62, 157), (124, 107), (126, 214)], 107) := by decide +kernel
theorem dX4_joined_108 : decode cX4_joined 108 = .ok (.iload_n 1, 1) := by decide +kernel
theorem dX4_joined_109 : decode cX4_joined 109 = .ok (.ifCond .ne 7, 3) := by decide +kernel
theorem dX4_joined_112 : decode cX4_joined 112 = .ok (.iload_n 2, 1) := by decide +kernel
theorem dX4_joined_113 : decode cX4_joined 113 = .ok (.ifCond .eq 7, 3) := by decide +kernel
theorem dX4_joined_116 : decode cX4_joined 116 = .ok (.iconst 1, 1) := by decide +kernel
theorem dX4_joined_117 : decode cX4_joined 117 = .ok (.goto 4, 3) := by decide +kernel
theorem dX4_joined_120 : decode cX4_joined 120 = .ok (.iconst 0, 1) := by decide +kernel
theorem dX4_joined_121 : decode cX4_joined 121 = .ok (.ireturn, 1) := by decide +kernel
theorem dX4_joined_122 : decode cX4_joined 122 = .ok (.iload_n 1, 1) := by decide +kernel
theorem dX4_joined_123 : decode cX4_joined 123 = .ok (.ifCond .eq 11, 3) := by decide +kernel
theorem dX4_joined_126 : decode cX4_joined 126 = .ok (.iload_n 2, 1) := by decide +kernel
theorem dX4_joined_127 : decode cX4_joined 127 = .ok (.ifCond .eq 7, 3) := by decide +kernel
theorem dX4_joined_130 : decode cX4_joined 130 = .ok (.iconst 1, 1) := by decide +kernel
theorem dX4_joined_131 : decode cX4_joined 131 = .ok (.goto 4, 3) := by decide +kernel
theorem dX4_joined_134 : decode cX4_joined 134 = .ok (.iconst 0, 1) := by decide +kernel
theorem dX4_joined_135 : decode cX4_joined 135 = .ok (.ireturn, 1) := by decide +kernel
theorem dX4_joined_136 : decode cX4_joined 136 = .ok (.iload_n 1, 1) := by decide +kernel
theorem dX4_joined_137 : decode cX4_joined 137 = .ok (.iload_n 2, 1) := by decide +kernel
theorem dX4_joined_138 : decode cX4_joined 138 = .ok (.if_icmp .ge 7, 3) := by decide +kernel
theorem dX4_joined_141 : decode cX4_joined 141 = .ok (.iconst 1, 1) := by decide +kernel
theorem dX4_joined_142 : decode cX4_joined 142 = .ok (.goto 4, 3) := by decide +kernel
theorem dX4_joined_145 : decode cX4_joined 145 = .ok (.iconst 0, 1) := by decide +kernel
theorem dX4_joined_146 : decode cX4_joined 146 = .ok (.ireturn, 1) := by decide +kernel
theorem dX4_joined_147 : decode cX4_joined 147 = .ok (.iload_n 1, 1) := by decide +kernel
theorem dX4_joined_148 : decode cX4_joined 148 = .ok (.iload_n 2, 1) := by decide +kernel
theorem dX4_joined_149 : decode cX4_joined 149 = .ok (.if_icmp .ne 7, 3) := by decide +kernel
theorem dX4_joined_152 : decode cX4_joined 152 = .ok (.iconst 1, 1) := by decide +kernel
theorem dX4_joined_153 : decode cX4_joined 153 = .ok (.goto 4, 3) := by decide +kernel
theorem dX4_joined_156 : decode cX4_joined 156 = .ok (.iconst 0, 1) := by decide +kernel
theorem dX4_joined_157 : decode cX4_joined 157 = .ok (.ireturn, 1) := by decide +kernel
theorem dX4_joined_158 : decode cX4_joined 158 = .ok (.iload_n 1, 1) := by decide +kernel
theorem dX4_joined_159 : decode cX4_joined 159 = .ok (.iload_n 2, 1) := by decide +kernel
theorem dX4_joined_160 : decode cX4_joined 160 = .ok (.if_icmp .le 7, 3) := by decide +kernel
theorem dX4_joined_163 : decode cX4_joined 163 = .ok (.iconst 1, 1) := by decide +kernel
theorem dX4_joined_164 : decode cX4_joined 164 = .ok (.goto 4, 3) := by decide +kernel
theorem dX4_joined_167 : decode cX4_joined 167 = .ok (.iconst 0, 1) := by decide +kernel
theorem dX4_joined_168 : decode cX4_joined 168 = .ok (.ireturn, 1) := by decide +kernel
theorem dX4_joined_169 : decode cX4_joined 169 = .ok (.iload_n 1, 1) := by decide +kernel
theorem dX4_joined_170 : decode cX4_joined 170 = .ok (.iload_n 2, 1) := by decide +kernel
theorem dX4_joined_171 : decode cX4_joined 171 = .ok (.iadd, 1) := by decide +kernel
theorem dX4_joined_172 : decode cX4_joined 172 = .ok (.ireturn, 1) := by decide +kernel
theorem dX4_joined_173 : decode cX4_joined 173 = .ok (.iload_n 1, 1) := by decide +kernel
theorem dX4_joined_174 : decode cX4_joined 174 = .ok (.iload_n 2, 1) := by decide +kernel
theorem dX4_joined_175 : decode cX4_joined 175 = .ok (.isub, 1) := by decide +kernel
theorem dX4_joined_176 : decode cX4_joined 176 = .ok (.ireturn, 1) := by decide +kernel
theorem dX4_joined_177 : decode cX4_joined 177 = .ok (.iload_n 1, 1) := by decide +kernel
theorem dX4_joined_178 : decode cX4_joined 178 = .ok (.iload_n 2, 1) := by decide +kernel
theorem dX4_joined_179 : decode cX4_joined 179 = .ok (.imul, 1) := by decide +kernel
theorem dX4_joined_180 : decode cX4_joined 180 = .ok (.ireturn, 1) := by decide +kernel
theorem dX4_joined_181 : decode cX4_joined 181 = .ok (.iload_n 2, 1) := by decide +kernel
theorem dX4_joined_182 : decode cX4_joined 182 = .ok (.ifCond .ne 7, 3) := by decide +kernel
theorem dX4_joined_185 : decode cX4_joined 185 = .ok (.iconst 0, 1) := by decide +kernel
theorem dX4_joined_186 : decode cX4_joined 186 = .ok (.goto 6, 3) := by decide +kernel
theorem dX4_joined_189 : decode cX4_joined 189 = .ok (.iload_n 1, 1) := by decide +kernel
theorem dX4_joined_190 : decode cX4_joined 190 = .ok (.iload_n 2, 1) := by decide +kernel
theorem dX4_joined_191 : decode cX4_joined 191 = .ok (.idiv, 1) := by decide +kernel
theorem dX4_joined_192 : decode cX4_joined 192 = .ok (.ireturn, 1) := by decide +kernel
theorem dX4_joined_193 : decode cX4_joined 193 = .ok (.iload_n 2, 1) := by decide +kernel
theorem dX4_joined_194 : decode cX4_joined 194 = .ok (.ifCond .ne 7, 3) := by decide +kernel
theorem dX4_joined_197 : decode cX4_joined 197 = .ok (.iconst 0, 1) := by decide +kernel
theorem dX4_joined_198 : decode cX4_joined 198 = .ok (.goto 6, 3) := by decide +kernel
theorem dX4_joined_201 : decode cX4_joined 201 = .ok (.iload_n 1, 1) := by decide +kernel
theorem dX4_joined_202 : decode cX4_joined 202 = .ok (.iload_n 2, 1) := by decide +kernel
theorem dX4_joined_203 : decode cX4_joined 203 = .ok (.irem, 1) := by decide +kernel
theorem dX4_joined_204 : decode cX4_joined 204 = .ok (.ireturn, 1) := by decide +kernel
theorem dX4_joined_205 : decode cX4_joined 205 = .ok (.iload_n 2, 1) := by decide +kernel
theorem dX4_joined_206 : decode cX4_joined 206 = .ok (.ifCond .ne 7, 3) := by decide +kernel
theorem dX4_joined_209 : decode cX4_joined 209 = .ok (.iconst 1, 1) := by decide +kernel
theorem dX4_joined_210 : decode cX4_joined 210 = .ok (.goto 4, 3) := by decide +kernel
theorem dX4_joined_213 : decode cX4_joined 213 = .ok (.iconst 0, 1) := by decide +kernel
theorem dX4_joined_214 : decode cX4_joined 214 = .ok (.ireturn, 1) := by decide +kernel
theorem dX4_joined_215 : decode cX4_joined 215 = .ok (.iload_n 2, 1) := by decide +kernel
theorem dX4_joined_216 : decode cX4_joined 216 = .ok (.ineg, 1) := by decide +kernel
theorem dX4_joined_217 : decode cX4_joined 217 = .ok (.ireturn, 1) := by decide +kernel
theorem dX4_joined_218 : decode cX4_joined 218 = .ok (.iconst 0, 1) := by decide +kernel
theorem dX4_joined_219 : decode cX4_joined 219 = .ok (.ireturn, 1) := by decide +kernel
theorem dX5_init_0 : decode cX5_init 0 = .ok (.aload_n 0, 1) := by decide +kernel
theorem dX5_init_1 : decode cX5_init 1 = .ok (.invokespecial 3, 3) := by decide +kernel
theorem dX5_init_4 : decode cX5_init 4 = .ok (.aload_n 0, 1) := by decide +kernel
theorem dX5_init_5 : decode cX5_init 5 = .ok (.aload_n 1, 1) := by decide +kernel
theorem dX5_init_6 : decode cX5_init 6 = .ok (.putfield 9, 3) := by decide +kernel
theorem dX5_init_9 : decode cX5_init 9 = .ok (.return_, 1) := by decide +kernel
theorem dX5_bargain_0 : decode cX5_bargain 0 = .ok (.aload_n 0, 1) := by decide +kernel
theorem dX5_bargain_1 : decode cX5_bargain 1 = .ok (.getfield 9, 3) := by decide +kernel
theorem dX5_bargain_4 : decode cX5_bargain 4 = .ok (.iload_n 1, 1) := by decide +kernel
theorem dX5_bargain_5 : decode cX5_bargain 5 = .ok (.iload_n 2, 1) := by decide +kernel
theorem dX5_bargain_6 : decode cX5_bargain 6 = .ok (.invokevirtual 15, 3) := by decide +kernel
theorem dX5_bargain_9 : decode cX5_bargain 9 = .ok (.istore 4, 2) := by decide +kernel
theorem dX5_bargain_11 : decode cX5_bargain 11 = .ok (.aload_n 0, 1) := by decide +kernel
theorem dX5_bargain_12 : decode cX5_bargain 12 = .ok (.getfield 9, 3) := by decide +kernel
theorem dX5_bargain_15 : decode cX5_bargain 15 = .ok (.iload_n 2, 1) := by decide +kernel
theorem dX5_bargain_16 : decode cX5_bargain 16 = .ok (.iload_n 3, 1) := by decide +kernel
theorem dX5_bargain_17 : decode cX5_bargain 17 = .ok (.invokevirtual 21, 3) := by decide +kernel
theorem dX5_bargain_20 : decode cX5_bargain 20 = .ok (.istore 5, 2) := by decide +kernel
theorem dX5_bargain_22 : decode cX5_bargain 22 = .ok (.iload 5, 2) := by decide +kernel
theorem dX5_bargain_24 : decode cX5_bargain 24 = .ok (.iload 4, 2) := by decide +kernel
theorem dX5_bargain_26 : decode cX5_bargain 26 = .ok (.if_icmp .lt 13, 3) := by decide +kernel
theorem dX5_bargain_29 : decode cX5_bargain 29 = .ok (.iload 4, 2) := by decide +kernel
theorem dX5_bargain_31 : decode cX5_bargain 31 = .ok (.iload 5, 2) := by decide +kernel
theorem dX5_bargain_33 : decode cX5_bargain 33 = .ok (.iadd, 1) := by decide +kernel
theorem dX5_bargain_34 : decode cX5_bargain 34 = .ok (.iconst 2, 1) := by decide +kernel
theorem dX5_bargain_35 : decode cX5_bargain 35 = .ok (.idiv, 1) := by decide +kernel
theorem dX5_bargain_36 : decode cX5_bargain 36 = .ok (.goto 5, 3) := by decide +kernel
theorem dX5_bargain_39 : decode cX5_bargain 39 = .ok (.bipush (-2), 2) := by decide +kernel
theorem dX5_bargain_41 : decode cX5_bargain 41 = .ok (.ireturn, 1) := by decide +kernel
theorem dX5_haste_0 : decode cX5_haste 0 = .ok (.iload_n 0, 1) := by decide +kernel
theorem dX5_haste_1 : decode cX5_haste 1 = .ok (.iload_n 1, 1) := by decide +kernel
theorem dX5_haste_2 : decode cX5_haste 2 = .ok (.iload_n 2, 1) := by decide +kernel
theorem dX5_haste_3 : decode cX5_haste 3 = .ok (.iconst 1, 1) := by decide +kernel
theorem dX5_haste_4 : decode cX5_haste 4 = .ok (.isub, 1) := by decide +kernel
theorem dX5_haste_5 : decode cX5_haste 5 = .ok (.imul, 1) := by decide +kernel
theorem dX5_haste_6 : decode cX5_haste 6 = .ok (.iadd, 1) := by decide +kernel
theorem dX5_haste_7 : decode cX5_haste 7 = .ok (.istore_n 3, 1) := by decide +kernel
theorem dX5_haste_8 : decode cX5_haste 8 = .ok (.iload_n 3, 1) := by decide +kernel
theorem dX5_haste_9 : decode cX5_haste 9 = .ok (.ifCond .le 13, 3) := by decide +kernel
theorem dX5_haste_12 : decode cX5_haste 12 = .ok (.sipush 1000, 3) := by decide +kernel
theorem dX5_haste_15 : decode cX5_haste 15 = .ok (.iload_n 0, 1) := by decide +kernel
theorem dX5_haste_16 : decode cX5_haste 16 = .ok (.imul, 1) := by decide +kernel
theorem dX5_haste_17 : decode cX5_haste 17 = .ok (.iload_n 3, 1) := by decide +kernel
theorem dX5_haste_18 : decode cX5_haste 18 = .ok (.idiv, 1) := by decide +kernel
theorem dX5_haste_19 : decode cX5_haste 19 = .ok (.goto 4, 3) := by decide +kernel
theorem dX5_haste_22 : decode cX5_haste 22 = .ok (.iconst 0, 1) := by decide +kernel
theorem dX5_haste_23 : decode cX5_haste 23 = .ok (.ireturn, 1) := by decide +kernel
theorem dX5_firstToPay_0 : decode cX5_firstToPay 0 = .ok (.iload_n 1, 1) := by decide +kernel
theorem dX5_firstToPay_1 : decode cX5_firstToPay 1 = .ok (.bipush 10, 2) := by decide +kernel
theorem dX5_firstToPay_3 : decode cX5_firstToPay 3 = .ok (.irem, 1) := by decide +kernel
theorem dX5_firstToPay_4 : decode cX5_firstToPay 4 = .ok (.istore 5, 2) := by decide +kernel
theorem dX5_firstToPay_6 : decode cX5_firstToPay 6 = .ok (.aload_n 0, 1) := by decide +kernel
theorem dX5_firstToPay_7 : decode cX5_firstToPay 7 = .ok (.getfield 9, 3) := by decide +kernel
theorem dX5_firstToPay_10 : decode cX5_firstToPay 10 = .ok (.iload_n 1, 1) := by decide +kernel
theorem dX5_firstToPay_11 : decode cX5_firstToPay 11 = .ok (.bipush 10, 2) := by decide +kernel
theorem dX5_firstToPay_13 : decode cX5_firstToPay 13 = .ok (.idiv, 1) := by decide +kernel
theorem dX5_firstToPay_14 : decode cX5_firstToPay 14 = .ok (.invokevirtual 24, 3) := by decide +kernel
theorem dX5_firstToPay_17 : decode cX5_firstToPay 17 = .ok (.istore 6, 2) := by decide +kernel
theorem dX5_firstToPay_19 : decode cX5_firstToPay 19 = .ok (.aload_n 0, 1) := by decide +kernel
theorem dX5_firstToPay_20 : decode cX5_firstToPay 20 = .ok (.getfield 9, 3) := by decide +kernel
theorem dX5_firstToPay_23 : decode cX5_firstToPay 23 = .ok (.iload 5, 2) := by decide +kernel
theorem dX5_firstToPay_25 : decode cX5_firstToPay 25 = .ok (.iload 6, 2) := by decide +kernel
theorem dX5_firstToPay_27 : decode cX5_firstToPay 27 = .ok (.invokevirtual 28, 3) := by decide +kernel
theorem dX5_firstToPay_30 : decode cX5_firstToPay 30 = .ok (.istore 7, 2) := by decide +kernel
theorem dX5_firstToPay_32 : decode cX5_firstToPay 32 = .ok (.iload_n 3, 1) := by decide +kernel
theorem dX5_firstToPay_33 : decode cX5_firstToPay 33 = .ok (.istore 8, 2) := by decide +kernel
theorem dX5_firstToPay_35 : decode cX5_firstToPay 35 = .ok (.iconst 0, 1) := by decide +kernel
theorem dX5_firstToPay_36 : decode cX5_firstToPay 36 = .ok (.istore 9, 2) := by decide +kernel
theorem dX5_firstToPay_38 : decode cX5_firstToPay 38 = .ok (.iload 9, 2) := by decide +kernel
theorem dX5_firstToPay_40 : decode cX5_firstToPay 40 = .ok (.iload 4, 2) := by decide +kernel
theorem dX5_firstToPay_42 : decode cX5_firstToPay 42 = .ok (.if_icmp .ge 93, 3) := by decide +kernel
theorem dX5_firstToPay_45 : decode cX5_firstToPay 45 = .ok (.iconst 0, 1) := by decide +kernel
theorem dX5_firstToPay_46 : decode cX5_firstToPay 46 = .ok (.istore 10, 2) := by decide +kernel
theorem dX5_firstToPay_48 : decode cX5_firstToPay 48 = .ok (.iload 10, 2) := by decide +kernel
theorem dX5_firstToPay_50 : decode cX5_firstToPay 50 = .ok (.bipush 30, 2) := by decide +kernel
theorem dX5_firstToPay_52 : decode cX5_firstToPay 52 = .ok (.if_icmp .ge 77, 3) := by decide +kernel
theorem dX5_firstToPay_55 : decode cX5_firstToPay 55 = .ok (.aload_n 0, 1) := by decide +kernel
theorem dX5_firstToPay_56 : decode cX5_firstToPay 56 = .ok (.getfield 9, 3) := by decide +kernel
theorem dX5_firstToPay_59 : decode cX5_firstToPay 59 = .ok (.iload 10, 2) := by decide +kernel
theorem dX5_firstToPay_61 : decode cX5_firstToPay 61 = .ok (.iload 5, 2) := by decide +kernel
theorem dX5_firstToPay_63 : decode cX5_firstToPay 63 = .ok (.iload 6, 2) := by decide +kernel
theorem dX5_firstToPay_65 : decode cX5_firstToPay 65 = .ok (.invokevirtual 31, 3) := by decide +kernel
theorem dX5_firstToPay_68 : decode cX5_firstToPay 68 = .ok (.ifCond .ne 6, 3) := by decide +kernel
theorem dX5_firstToPay_71 : decode cX5_firstToPay 71 = .ok (.goto 52, 3) := by decide +kernel
theorem dX5_firstToPay_74 : decode cX5_firstToPay 74 = .ok (.iload 8, 2) := by decide +kernel
theorem dX5_firstToPay_76 : decode cX5_firstToPay 76 = .ok (.ldc 35, 2) := by decide +kernel
theorem dX5_firstToPay_78 : decode cX5_firstToPay 78 = .ok (.imul, 1) := by decide +kernel
theorem dX5_firstToPay_79 : decode cX5_firstToPay 79 = .ok (.sipush 12345, 3) := by decide +kernel
theorem dX5_firstToPay_82 : decode cX5_firstToPay 82 = .ok (.iadd, 1) := by decide +kernel
theorem dX5_firstToPay_83 : decode cX5_firstToPay 83 = .ok (.istore 8, 2) := by decide +kernel
theorem dX5_firstToPay_85 : decode cX5_firstToPay 85 = .ok (.iload 8, 2) := by decide +kernel
theorem dX5_firstToPay_87 : decode cX5_firstToPay 87 = .ok (.bipush 8, 2) := by decide +kernel
theorem dX5_firstToPay_89 : decode cX5_firstToPay 89 = .ok (.iushr, 1) := by decide +kernel
theorem dX5_firstToPay_90 : decode cX5_firstToPay 90 = .ok (.sipush 1000, 3) := by decide +kernel
theorem dX5_firstToPay_93 : decode cX5_firstToPay 93 = .ok (.irem, 1) := by decide +kernel
theorem dX5_firstToPay_94 : decode cX5_firstToPay 94 = .ok (.aload_n 0, 1) := by decide +kernel
theorem dX5_firstToPay_95 : decode cX5_firstToPay 95 = .ok (.getfield 9, 3) := by decide +kernel
theorem dX5_firstToPay_98 : decode cX5_firstToPay 98 = .ok (.iload 10, 2) := by decide +kernel
theorem dX5_firstToPay_100 : decode cX5_firstToPay 100 = .ok (.iload 6, 2) := by decide +kernel
theorem dX5_firstToPay_102 : decode cX5_firstToPay 102 = .ok (.invokevirtual 36, 3) := by decide +kernel
theorem dX5_firstToPay_105 : decode cX5_firstToPay 105 = .ok (.iload_n 2, 1) := by decide +kernel
theorem dX5_firstToPay_106 : decode cX5_firstToPay 106 = .ok (.iload 7, 2) := by decide +kernel
theorem dX5_firstToPay_108 : decode cX5_firstToPay 108 = .ok (.invokestatic 39, 3) := by decide +kernel
theorem dX5_firstToPay_111 : decode cX5_firstToPay 111 = .ok (.if_icmp .ge 12, 3) := by decide +kernel
theorem dX5_firstToPay_114 : decode cX5_firstToPay 114 = .ok (.iload 9, 2) := by decide +kernel
theorem dX5_firstToPay_116 : decode cX5_firstToPay 116 = .ok (.bipush 30, 2) := by decide +kernel
theorem dX5_firstToPay_118 : decode cX5_firstToPay 118 = .ok (.imul, 1) := by decide +kernel
theorem dX5_firstToPay_119 : decode cX5_firstToPay 119 = .ok (.iload 10, 2) := by decide +kernel
theorem dX5_firstToPay_121 : decode cX5_firstToPay 121 = .ok (.iadd, 1) := by decide +kernel
theorem dX5_firstToPay_122 : decode cX5_firstToPay 122 = .ok (.ireturn, 1) := by decide +kernel
theorem dX5_firstToPay_123 : decode cX5_firstToPay 123 = .ok (.iinc 10 1, 3) := by decide +kernel
theorem dX5_firstToPay_126 : decode cX5_firstToPay 126 = .ok (.goto (-78), 3) := by decide +kernel
theorem dX5_firstToPay_129 : decode cX5_firstToPay 129 = .ok (.iinc 9 1, 3) := by decide +kernel
theorem dX5_firstToPay_132 : decode cX5_firstToPay 132 = .ok (.goto (-94), 3) := by decide +kernel
theorem dX5_firstToPay_135 : decode cX5_firstToPay 135 = .ok (.bipush (-2), 2) := by decide +kernel
theorem dX5_firstToPay_137 : decode cX5_firstToPay 137 = .ok (.ireturn, 1) := by decide +kernel
theorem dX5_lost_0 : decode cX5_lost 0 = .ok (.aload_n 0, 1) := by decide +kernel
theorem dX5_lost_1 : decode cX5_lost 1 = .ok (.getfield 9, 3) := by decide +kernel
theorem dX5_lost_4 : decode cX5_lost 4 = .ok (.iload_n 1, 1) := by decide +kernel
theorem dX5_lost_5 : decode cX5_lost 5 = .ok (.bipush 10, 2) := by decide +kernel
theorem dX5_lost_7 : decode cX5_lost 7 = .ok (.irem, 1) := by decide +kernel
theorem dX5_lost_8 : decode cX5_lost 8 = .ok (.aload_n 0, 1) := by decide +kernel
theorem dX5_lost_9 : decode cX5_lost 9 = .ok (.getfield 9, 3) := by decide +kernel
theorem dX5_lost_12 : decode cX5_lost 12 = .ok (.iload_n 1, 1) := by decide +kernel
theorem dX5_lost_13 : decode cX5_lost 13 = .ok (.bipush 10, 2) := by decide +kernel
theorem dX5_lost_15 : decode cX5_lost 15 = .ok (.idiv, 1) := by decide +kernel
theorem dX5_lost_16 : decode cX5_lost 16 = .ok (.invokevirtual 24, 3) := by decide +kernel
theorem dX5_lost_19 : decode cX5_lost 19 = .ok (.invokevirtual 21, 3) := by decide +kernel
theorem dX5_lost_22 : decode cX5_lost 22 = .ok (.iload_n 2, 1) := by decide +kernel
theorem dX5_lost_23 : decode cX5_lost 23 = .ok (.imul, 1) := by decide +kernel
theorem dX5_lost_24 : decode cX5_lost 24 = .ok (.ireturn, 1) := by decide +kernel
theorem dX5_unpaidThousandths_0 : decode cX5_unpaidThousandths 0 = .ok (.iload_n 1, 1) := by decide +kernel
theorem dX5_unpaidThousandths_1 : decode cX5_unpaidThousandths 1 = .ok (.bipush 10, 2) := by decide +kernel
theorem dX5_unpaidThousandths_3 : decode cX5_unpaidThousandths 3 = .ok (.irem, 1) := by decide +kernel
theorem dX5_unpaidThousandths_4 : decode cX5_unpaidThousandths 4 = .ok (.istore 4, 2) := by decide +kernel
theorem dX5_unpaidThousandths_6 : decode cX5_unpaidThousandths 6 = .ok (.aload_n 0, 1) := by decide +kernel
theorem dX5_unpaidThousandths_7 : decode cX5_unpaidThousandths 7 = .ok (.getfield 9, 3) := by decide +kernel
theorem dX5_unpaidThousandths_10 : decode cX5_unpaidThousandths 10 = .ok (.iload_n 1, 1) := by decide +kernel
theorem dX5_unpaidThousandths_11 : decode cX5_unpaidThousandths 11 = .ok (.bipush 10, 2) := by decide +kernel
theorem dX5_unpaidThousandths_13 : decode cX5_unpaidThousandths 13 = .ok (.idiv, 1) := by decide +kernel
theorem dX5_unpaidThousandths_14 : decode cX5_unpaidThousandths 14 = .ok (.invokevirtual 24, 3) := by decide +kernel
theorem dX5_unpaidThousandths_17 : decode cX5_unpaidThousandths 17 = .ok (.istore 5, 2) := by decide +kernel
theorem dX5_unpaidThousandths_19 : decode cX5_unpaidThousandths 19 = .ok (.aload_n 0, 1) := by decide +kernel
theorem dX5_unpaidThousandths_20 : decode cX5_unpaidThousandths 20 = .ok (.getfield 9, 3) := by decide +kernel
theorem dX5_unpaidThousandths_23 : decode cX5_unpaidThousandths 23 = .ok (.iload 4, 2) := by decide +kernel
theorem dX5_unpaidThousandths_25 : decode cX5_unpaidThousandths 25 = .ok (.iload 5, 2) := by decide +kernel
theorem dX5_unpaidThousandths_27 : decode cX5_unpaidThousandths 27 = .ok (.invokevirtual 28, 3) := by decide +kernel
theorem dX5_unpaidThousandths_30 : decode cX5_unpaidThousandths 30 = .ok (.istore 6, 2) := by decide +kernel
theorem dX5_unpaidThousandths_32 : decode cX5_unpaidThousandths 32 = .ok (.ldc 43, 2) := by decide +kernel
theorem dX5_unpaidThousandths_34 : decode cX5_unpaidThousandths 34 = .ok (.istore 7, 2) := by decide +kernel
theorem dX5_unpaidThousandths_36 : decode cX5_unpaidThousandths 36 = .ok (.iconst 0, 1) := by decide +kernel
theorem dX5_unpaidThousandths_37 : decode cX5_unpaidThousandths 37 = .ok (.istore 8, 2) := by decide +kernel
theorem dX5_unpaidThousandths_39 : decode cX5_unpaidThousandths 39 = .ok (.iload 8, 2) := by decide +kernel
theorem dX5_unpaidThousandths_41 : decode cX5_unpaidThousandths 41 = .ok (.iload_n 3, 1) := by decide +kernel
theorem dX5_unpaidThousandths_42 : decode cX5_unpaidThousandths 42 = .ok (.if_icmp .ge 74, 3) := by decide +kernel
theorem dX5_unpaidThousandths_45 : decode cX5_unpaidThousandths 45 = .ok (.iconst 0, 1) := by decide +kernel
theorem dX5_unpaidThousandths_46 : decode cX5_unpaidThousandths 46 = .ok (.istore 9, 2) := by decide +kernel
theorem dX5_unpaidThousandths_48 : decode cX5_unpaidThousandths 48 = .ok (.iload 9, 2) := by decide +kernel
theorem dX5_unpaidThousandths_50 : decode cX5_unpaidThousandths 50 = .ok (.bipush 30, 2) := by decide +kernel
theorem dX5_unpaidThousandths_52 : decode cX5_unpaidThousandths 52 = .ok (.if_icmp .ge 58, 3) := by decide +kernel
theorem dX5_unpaidThousandths_55 : decode cX5_unpaidThousandths 55 = .ok (.aload_n 0, 1) := by decide +kernel
theorem dX5_unpaidThousandths_56 : decode cX5_unpaidThousandths 56 = .ok (.getfield 9, 3) := by decide +kernel
theorem dX5_unpaidThousandths_59 : decode cX5_unpaidThousandths 59 = .ok (.iload 9, 2) := by decide +kernel
theorem dX5_unpaidThousandths_61 : decode cX5_unpaidThousandths 61 = .ok (.iload 4, 2) := by decide +kernel
theorem dX5_unpaidThousandths_63 : decode cX5_unpaidThousandths 63 = .ok (.iload 5, 2) := by decide +kernel
theorem dX5_unpaidThousandths_65 : decode cX5_unpaidThousandths 65 = .ok (.invokevirtual 31, 3) := by decide +kernel
theorem dX5_unpaidThousandths_68 : decode cX5_unpaidThousandths 68 = .ok (.ifCond .ne 6, 3) := by decide +kernel
theorem dX5_unpaidThousandths_71 : decode cX5_unpaidThousandths 71 = .ok (.goto 33, 3) := by decide +kernel
theorem dX5_unpaidThousandths_74 : decode cX5_unpaidThousandths 74 = .ok (.iload 7, 2) := by decide +kernel
theorem dX5_unpaidThousandths_76 : decode cX5_unpaidThousandths 76 = .ok (.sipush 1000, 3) := by decide +kernel
theorem dX5_unpaidThousandths_79 : decode cX5_unpaidThousandths 79 = .ok (.aload_n 0, 1) := by decide +kernel
theorem dX5_unpaidThousandths_80 : decode cX5_unpaidThousandths 80 = .ok (.getfield 9, 3) := by decide +kernel
theorem dX5_unpaidThousandths_83 : decode cX5_unpaidThousandths 83 = .ok (.iload 9, 2) := by decide +kernel
theorem dX5_unpaidThousandths_85 : decode cX5_unpaidThousandths 85 = .ok (.iload 5, 2) := by decide +kernel
theorem dX5_unpaidThousandths_87 : decode cX5_unpaidThousandths 87 = .ok (.invokevirtual 36, 3) := by decide +kernel
theorem dX5_unpaidThousandths_90 : decode cX5_unpaidThousandths 90 = .ok (.iload_n 2, 1) := by decide +kernel
theorem dX5_unpaidThousandths_91 : decode cX5_unpaidThousandths 91 = .ok (.iload 6, 2) := by decide +kernel
theorem dX5_unpaidThousandths_93 : decode cX5_unpaidThousandths 93 = .ok (.invokestatic 39, 3) := by decide +kernel
theorem dX5_unpaidThousandths_96 : decode cX5_unpaidThousandths 96 = .ok (.isub, 1) := by decide +kernel
theorem dX5_unpaidThousandths_97 : decode cX5_unpaidThousandths 97 = .ok (.imul, 1) := by decide +kernel
theorem dX5_unpaidThousandths_98 : decode cX5_unpaidThousandths 98 = .ok (.sipush 1000, 3) := by decide +kernel
theorem dX5_unpaidThousandths_101 : decode cX5_unpaidThousandths 101 = .ok (.idiv, 1) := by decide +kernel
theorem dX5_unpaidThousandths_102 : decode cX5_unpaidThousandths 102 = .ok (.istore 7, 2) := by decide +kernel
theorem dX5_unpaidThousandths_104 : decode cX5_unpaidThousandths 104 = .ok (.iinc 9 1, 3) := by decide +kernel
theorem dX5_unpaidThousandths_107 : decode cX5_unpaidThousandths 107 = .ok (.goto (-59), 3) := by decide +kernel
theorem dX5_unpaidThousandths_110 : decode cX5_unpaidThousandths 110 = .ok (.iinc 8 1, 3) := by decide +kernel
theorem dX5_unpaidThousandths_113 : decode cX5_unpaidThousandths 113 = .ok (.goto (-74), 3) := by decide +kernel
theorem dX5_unpaidThousandths_116 : decode cX5_unpaidThousandths 116 = .ok (.iload 7, 2) := by decide +kernel
theorem dX5_unpaidThousandths_118 : decode cX5_unpaidThousandths 118 = .ok (.sipush 1000, 3) := by decide +kernel
theorem dX5_unpaidThousandths_121 : decode cX5_unpaidThousandths 121 = .ok (.idiv, 1) := by decide +kernel
theorem dX5_unpaidThousandths_122 : decode cX5_unpaidThousandths 122 = .ok (.ireturn, 1) := by decide +kernel
theorem dX6_init_0 : decode cX6_init 0 = .ok (.aload_n 0, 1) := by decide +kernel
theorem dX6_init_1 : decode cX6_init 1 = .ok (.invokespecial 3, 3) := by decide +kernel
theorem dX6_init_4 : decode cX6_init 4 = .ok (.aload_n 0, 1) := by decide +kernel
theorem dX6_init_5 : decode cX6_init 5 = .ok (.bipush 6, 2) := by decide +kernel
theorem dX6_init_7 : decode cX6_init 7 = .ok (.newarray .int, 2) := by decide +kernel
theorem dX6_init_9 : decode cX6_init 9 = .ok (.dup, 1) := by decide +kernel
theorem dX6_init_10 : decode cX6_init 10 = .ok (.iconst 0, 1) := by decide +kernel
theorem dX6_init_11 : decode cX6_init 11 = .ok (.iconst (-1), 1) := by decide +kernel
theorem dX6_init_12 : decode cX6_init 12 = .ok (.iastore, 1) := by decide +kernel
theorem dX6_init_13 : decode cX6_init 13 = .ok (.dup, 1) := by decide +kernel
theorem dX6_init_14 : decode cX6_init 14 = .ok (.iconst 1, 1) := by decide +kernel
theorem dX6_init_15 : decode cX6_init 15 = .ok (.iconst (-1), 1) := by decide +kernel
theorem dX6_init_16 : decode cX6_init 16 = .ok (.iastore, 1) := by decide +kernel
theorem dX6_init_17 : decode cX6_init 17 = .ok (.dup, 1) := by decide +kernel
theorem dX6_init_18 : decode cX6_init 18 = .ok (.iconst 2, 1) := by decide +kernel
theorem dX6_init_19 : decode cX6_init 19 = .ok (.iconst (-1), 1) := by decide +kernel
theorem dX6_init_20 : decode cX6_init 20 = .ok (.iastore, 1) := by decide +kernel
theorem dX6_init_21 : decode cX6_init 21 = .ok (.dup, 1) := by decide +kernel
theorem dX6_init_22 : decode cX6_init 22 = .ok (.iconst 3, 1) := by decide +kernel
theorem dX6_init_23 : decode cX6_init 23 = .ok (.iconst (-1), 1) := by decide +kernel
theorem dX6_init_24 : decode cX6_init 24 = .ok (.iastore, 1) := by decide +kernel
theorem dX6_init_25 : decode cX6_init 25 = .ok (.dup, 1) := by decide +kernel
theorem dX6_init_26 : decode cX6_init 26 = .ok (.iconst 4, 1) := by decide +kernel
theorem dX6_init_27 : decode cX6_init 27 = .ok (.iconst (-1), 1) := by decide +kernel
theorem dX6_init_28 : decode cX6_init 28 = .ok (.iastore, 1) := by decide +kernel
theorem dX6_init_29 : decode cX6_init 29 = .ok (.dup, 1) := by decide +kernel
theorem dX6_init_30 : decode cX6_init 30 = .ok (.iconst 5, 1) := by decide +kernel
theorem dX6_init_31 : decode cX6_init 31 = .ok (.iconst (-1), 1) := by decide +kernel
theorem dX6_init_32 : decode cX6_init 32 = .ok (.iastore, 1) := by decide +kernel
theorem dX6_init_33 : decode cX6_init 33 = .ok (.putfield 11, 3) := by decide +kernel
theorem dX6_init_36 : decode cX6_init 36 = .ok (.aload_n 0, 1) := by decide +kernel
theorem dX6_init_37 : decode cX6_init 37 = .ok (.bipush 6, 2) := by decide +kernel
theorem dX6_init_39 : decode cX6_init 39 = .ok (.newarray .int, 2) := by decide +kernel
theorem dX6_init_41 : decode cX6_init 41 = .ok (.putfield 15, 3) := by decide +kernel
theorem dX6_init_44 : decode cX6_init 44 = .ok (.aload_n 0, 1) := by decide +kernel
theorem dX6_init_45 : decode cX6_init 45 = .ok (.bipush 6, 2) := by decide +kernel
theorem dX6_init_47 : decode cX6_init 47 = .ok (.newarray .int, 2) := by decide +kernel
theorem dX6_init_49 : decode cX6_init 49 = .ok (.putfield 18, 3) := by decide +kernel
theorem dX6_init_52 : decode cX6_init 52 = .ok (.aload_n 0, 1) := by decide +kernel
theorem dX6_init_53 : decode cX6_init 53 = .ok (.bipush 6, 2) := by decide +kernel
theorem dX6_init_55 : decode cX6_init 55 = .ok (.bipush 60, 2) := by decide +kernel
theorem dX6_init_57 : decode cX6_init 57 = .ok (.multianewarray 21 2, 4) := by decide +kernel
theorem dX6_init_61 : decode cX6_init 61 = .ok (.putfield 23, 3) := by decide +kernel
theorem dX6_init_64 : decode cX6_init 64 = .ok (.return_, 1) := by decide +kernel
theorem dX6_isShelf_0 : decode cX6_isShelf 0 = .ok (.iload_n 1, 1) := by decide +kernel
theorem dX6_isShelf_1 : decode cX6_isShelf 1 = .ok (.ifCond .lt 13, 3) := by decide +kernel
theorem dX6_isShelf_4 : decode cX6_isShelf 4 = .ok (.iload_n 1, 1) := by decide +kernel
theorem dX6_isShelf_5 : decode cX6_isShelf 5 = .ok (.bipush 6, 2) := by decide +kernel
theorem dX6_isShelf_7 : decode cX6_isShelf 7 = .ok (.if_icmp .ge 7, 3) := by decide +kernel
theorem dX6_isShelf_10 : decode cX6_isShelf 10 = .ok (.iconst 1, 1) := by decide +kernel
theorem dX6_isShelf_11 : decode cX6_isShelf 11 = .ok (.goto 4, 3) := by decide +kernel
theorem dX6_isShelf_14 : decode cX6_isShelf 14 = .ok (.iconst 0, 1) := by decide +kernel
theorem dX6_isShelf_15 : decode cX6_isShelf 15 = .ok (.ireturn, 1) := by decide +kernel
theorem dX6_isSort_0 : decode cX6_isSort 0 = .ok (.iload_n 1, 1) := by decide +kernel
theorem dX6_isSort_1 : decode cX6_isSort 1 = .ok (.ifCond .lt 12, 3) := by decide +kernel
theorem dX6_isSort_4 : decode cX6_isSort 4 = .ok (.iload_n 1, 1) := by decide +kernel
theorem dX6_isSort_5 : decode cX6_isSort 5 = .ok (.iconst 4, 1) := by decide +kernel
theorem dX6_isSort_6 : decode cX6_isSort 6 = .ok (.if_icmp .gt 7, 3) := by decide +kernel
theorem dX6_isSort_9 : decode cX6_isSort 9 = .ok (.iconst 1, 1) := by decide +kernel
theorem dX6_isSort_10 : decode cX6_isSort 10 = .ok (.goto 4, 3) := by decide +kernel
theorem dX6_isSort_13 : decode cX6_isSort 13 = .ok (.iconst 0, 1) := by decide +kernel
theorem dX6_isSort_14 : decode cX6_isSort 14 = .ok (.ireturn, 1) := by decide +kernel
theorem dX6_isEmpty_0 : decode cX6_isEmpty 0 = .ok (.aload_n 0, 1) := by decide +kernel
theorem dX6_isEmpty_1 : decode cX6_isEmpty 1 = .ok (.iload_n 1, 1) := by decide +kernel
theorem dX6_isEmpty_2 : decode cX6_isEmpty 2 = .ok (.invokevirtual 26, 3) := by decide +kernel
theorem dX6_isEmpty_5 : decode cX6_isEmpty 5 = .ok (.ifCond .eq 13, 3) := by decide +kernel
theorem dX6_isEmpty_8 : decode cX6_isEmpty 8 = .ok (.aload_n 0, 1) := by decide +kernel
theorem dX6_isEmpty_9 : decode cX6_isEmpty 9 = .ok (.getfield 11, 3) := by decide +kernel
theorem dX6_isEmpty_12 : decode cX6_isEmpty 12 = .ok (.iload_n 1, 1) := by decide +kernel
theorem dX6_isEmpty_13 : decode cX6_isEmpty 13 = .ok (.iaload, 1) := by decide +kernel
theorem dX6_isEmpty_14 : decode cX6_isEmpty 14 = .ok (.iconst (-1), 1) := by decide +kernel
theorem dX6_isEmpty_15 : decode cX6_isEmpty 15 = .ok (.if_icmp .ne 7, 3) := by decide +kernel
theorem dX6_isEmpty_18 : decode cX6_isEmpty 18 = .ok (.iconst 1, 1) := by decide +kernel
theorem dX6_isEmpty_19 : decode cX6_isEmpty 19 = .ok (.goto 4, 3) := by decide +kernel
theorem dX6_isEmpty_22 : decode cX6_isEmpty 22 = .ok (.iconst 0, 1) := by decide +kernel
theorem dX6_isEmpty_23 : decode cX6_isEmpty 23 = .ok (.ireturn, 1) := by decide +kernel
theorem dX6_isRow_0 : decode cX6_isRow 0 = .ok (.aload_n 0, 1) := by decide +kernel
theorem dX6_isRow_1 : decode cX6_isRow 1 = .ok (.iload_n 1, 1) := by decide +kernel
theorem dX6_isRow_2 : decode cX6_isRow 2 = .ok (.invokevirtual 26, 3) := by decide +kernel
theorem dX6_isRow_5 : decode cX6_isRow 5 = .ok (.ifCond .eq 20, 3) := by decide +kernel
theorem dX6_isRow_8 : decode cX6_isRow 8 = .ok (.aload_n 0, 1) := by decide +kernel
theorem dX6_isRow_9 : decode cX6_isRow 9 = .ok (.aload_n 0, 1) := by decide +kernel
theorem dX6_isRow_10 : decode cX6_isRow 10 = .ok (.getfield 11, 3) := by decide +kernel
theorem dX6_isRow_13 : decode cX6_isRow 13 = .ok (.iload_n 1, 1) := by decide +kernel
theorem dX6_isRow_14 : decode cX6_isRow 14 = .ok (.iaload, 1) := by decide +kernel
theorem dX6_isRow_15 : decode cX6_isRow 15 = .ok (.invokevirtual 30, 3) := by decide +kernel
theorem dX6_isRow_18 : decode cX6_isRow 18 = .ok (.ifCond .eq 7, 3) := by decide +kernel
theorem dX6_isRow_21 : decode cX6_isRow 21 = .ok (.iconst 1, 1) := by decide +kernel
theorem dX6_isRow_22 : decode cX6_isRow 22 = .ok (.goto 4, 3) := by decide +kernel
theorem dX6_isRow_25 : decode cX6_isRow 25 = .ok (.iconst 0, 1) := by decide +kernel
theorem dX6_isRow_26 : decode cX6_isRow 26 = .ok (.ireturn, 1) := by decide +kernel
theorem dX6_isRowOfShorts_0 : decode cX6_isRowOfShorts 0 = .ok (.aload_n 0, 1) := by decide +kernel
theorem dX6_isRowOfShorts_1 : decode cX6_isRowOfShorts 1 = .ok (.iload_n 1, 1) := by decide +kernel
theorem dX6_isRowOfShorts_2 : decode cX6_isRowOfShorts 2 = .ok (.invokevirtual 26, 3) := by decide +kernel
theorem dX6_isRowOfShorts_5 : decode cX6_isRowOfShorts 5 = .ok (.ifCond .eq 17, 3) := by decide +kernel
theorem dX6_isRowOfShorts_8 : decode cX6_isRowOfShorts 8 = .ok (.aload_n 0, 1) := by decide +kernel
theorem dX6_isRowOfShorts_9 : decode cX6_isRowOfShorts 9 = .ok (.getfield 11, 3) := by decide +kernel
theorem dX6_isRowOfShorts_12 : decode cX6_isRowOfShorts 12 = .ok (.iload_n 1, 1) := by decide +kernel
theorem dX6_isRowOfShorts_13 : decode cX6_isRowOfShorts 13 = .ok (.iaload, 1) := by decide +kernel
theorem dX6_isRowOfShorts_14 : decode cX6_isRowOfShorts 14 = .ok (.iconst 1, 1) := by decide +kernel
theorem dX6_isRowOfShorts_15 : decode cX6_isRowOfShorts 15 = .ok (.if_icmp .ne 7, 3) := by decide +kernel
theorem dX6_isRowOfShorts_18 : decode cX6_isRowOfShorts 18 = .ok (.iconst 1, 1) := by decide +kernel
theorem dX6_isRowOfShorts_19 : decode cX6_isRowOfShorts 19 = .ok (.goto 4, 3) := by decide +kernel
theorem dX6_isRowOfShorts_22 : decode cX6_isRowOfShorts 22 = .ok (.iconst 0, 1) := by decide +kernel
theorem dX6_isRowOfShorts_23 : decode cX6_isRowOfShorts 23 = .ok (.ireturn, 1) := by decide +kernel
theorem dX6_areLikeRows_0 : decode cX6_areLikeRows 0 = .ok (.aload_n 0, 1) := by decide +kernel
theorem dX6_areLikeRows_1 : decode cX6_areLikeRows 1 = .ok (.iload_n 1, 1) := by decide +kernel
theorem dX6_areLikeRows_2 : decode cX6_areLikeRows 2 = .ok (.invokevirtual 33, 3) := by decide +kernel
theorem dX6_areLikeRows_5 : decode cX6_areLikeRows 5 = .ok (.ifCond .eq 30, 3) := by decide +kernel
theorem dX6_areLikeRows_8 : decode cX6_areLikeRows 8 = .ok (.aload_n 0, 1) := by decide +kernel
theorem dX6_areLikeRows_9 : decode cX6_areLikeRows 9 = .ok (.iload_n 2, 1) := by decide +kernel
theorem dX6_areLikeRows_10 : decode cX6_areLikeRows 10 = .ok (.invokevirtual 33, 3) := by decide +kernel
theorem dX6_areLikeRows_13 : decode cX6_areLikeRows 13 = .ok (.ifCond .eq 22, 3) := by decide +kernel
theorem dX6_areLikeRows_16 : decode cX6_areLikeRows 16 = .ok (.aload_n 0, 1) := by decide +kernel
theorem dX6_areLikeRows_17 : decode cX6_areLikeRows 17 = .ok (.getfield 11, 3) := by decide +kernel
theorem dX6_areLikeRows_20 : decode cX6_areLikeRows 20 = .ok (.iload_n 1, 1) := by decide +kernel
theorem dX6_areLikeRows_21 : decode cX6_areLikeRows 21 = .ok (.iaload, 1) := by decide +kernel
theorem dX6_areLikeRows_22 : decode cX6_areLikeRows 22 = .ok (.aload_n 0, 1) := by decide +kernel
theorem dX6_areLikeRows_23 : decode cX6_areLikeRows 23 = .ok (.getfield 11, 3) := by decide +kernel
theorem dX6_areLikeRows_26 : decode cX6_areLikeRows 26 = .ok (.iload_n 2, 1) := by decide +kernel
theorem dX6_areLikeRows_27 : decode cX6_areLikeRows 27 = .ok (.iaload, 1) := by decide +kernel
theorem dX6_areLikeRows_28 : decode cX6_areLikeRows 28 = .ok (.if_icmp .ne 7, 3) := by decide +kernel
theorem dX6_areLikeRows_31 : decode cX6_areLikeRows 31 = .ok (.iconst 1, 1) := by decide +kernel
theorem dX6_areLikeRows_32 : decode cX6_areLikeRows 32 = .ok (.goto 4, 3) := by decide +kernel
theorem dX6_areLikeRows_35 : decode cX6_areLikeRows 35 = .ok (.iconst 0, 1) := by decide +kernel
theorem dX6_areLikeRows_36 : decode cX6_areLikeRows 36 = .ok (.ireturn, 1) := by decide +kernel
theorem dX6_hasPlaces_0 : decode cX6_hasPlaces 0 = .ok (.aload_n 0, 1) := by decide +kernel
theorem dX6_hasPlaces_1 : decode cX6_hasPlaces 1 = .ok (.iload_n 1, 1) := by decide +kernel
theorem dX6_hasPlaces_2 : decode cX6_hasPlaces 2 = .ok (.invokevirtual 33, 3) := by decide +kernel
theorem dX6_hasPlaces_5 : decode cX6_hasPlaces 5 = .ok (.ifCond .eq 37, 3) := by decide +kernel
theorem dX6_hasPlaces_8 : decode cX6_hasPlaces 8 = .ok (.iload_n 2, 1) := by decide +kernel
theorem dX6_hasPlaces_9 : decode cX6_hasPlaces 9 = .ok (.ifCond .lt 33, 3) := by decide +kernel
theorem dX6_hasPlaces_12 : decode cX6_hasPlaces 12 = .ok (.iload_n 3, 1) := by decide +kernel
theorem dX6_hasPlaces_13 : decode cX6_hasPlaces 13 = .ok (.ifCond .lt 29, 3) := by decide +kernel
theorem dX6_hasPlaces_16 : decode cX6_hasPlaces 16 = .ok (.iload_n 3, 1) := by decide +kernel
theorem dX6_hasPlaces_17 : decode cX6_hasPlaces 17 = .ok (.aload_n 0, 1) := by decide +kernel
theorem dX6_hasPlaces_18 : decode cX6_hasPlaces 18 = .ok (.getfield 18, 3) := by decide +kernel
theorem dX6_hasPlaces_21 : decode cX6_hasPlaces 21 = .ok (.iload_n 1, 1) := by decide +kernel
theorem dX6_hasPlaces_22 : decode cX6_hasPlaces 22 = .ok (.iaload, 1) := by decide +kernel
theorem dX6_hasPlaces_23 : decode cX6_hasPlaces 23 = .ok (.if_icmp .gt 19, 3) := by decide +kernel
theorem dX6_hasPlaces_26 : decode cX6_hasPlaces 26 = .ok (.iload_n 2, 1) := by decide +kernel
theorem dX6_hasPlaces_27 : decode cX6_hasPlaces 27 = .ok (.aload_n 0, 1) := by decide +kernel
theorem dX6_hasPlaces_28 : decode cX6_hasPlaces 28 = .ok (.getfield 18, 3) := by decide +kernel
theorem dX6_hasPlaces_31 : decode cX6_hasPlaces 31 = .ok (.iload_n 1, 1) := by decide +kernel
theorem dX6_hasPlaces_32 : decode cX6_hasPlaces 32 = .ok (.iaload, 1) := by decide +kernel
theorem dX6_hasPlaces_33 : decode cX6_hasPlaces 33 = .ok (.iload_n 3, 1) := by decide +kernel
theorem dX6_hasPlaces_34 : decode cX6_hasPlaces 34 = .ok (.isub, 1) := by decide +kernel
theorem dX6_hasPlaces_35 : decode cX6_hasPlaces 35 = .ok (.if_icmp .gt 7, 3) := by decide +kernel
theorem dX6_hasPlaces_38 : decode cX6_hasPlaces 38 = .ok (.iconst 1, 1) := by decide +kernel
theorem dX6_hasPlaces_39 : decode cX6_hasPlaces 39 = .ok (.goto 4, 3) := by decide +kernel
theorem dX6_hasPlaces_42 : decode cX6_hasPlaces 42 = .ok (.iconst 0, 1) := by decide +kernel
theorem dX6_hasPlaces_43 : decode cX6_hasPlaces 43 = .ok (.ireturn, 1) := by decide +kernel
theorem dX6_refusalOf_0 : decode cX6_refusalOf 0 = .ok (.aload_n 0, 1) := by decide +kernel
theorem dX6_refusalOf_1 : decode cX6_refusalOf 1 = .ok (.iload_n 1, 1) := by decide +kernel
theorem dX6_refusalOf_2 : decode cX6_refusalOf 2 = .ok (.invokevirtual 26, 3) := by decide +kernel
theorem dX6_refusalOf_5 : decode cX6_refusalOf 5 = .ok (.ifCond .ne 5, 3) := by decide +kernel
theorem dX6_refusalOf_8 : decode cX6_refusalOf 8 = .ok (.iconst (-1), 1) := by decide +kernel
theorem dX6_refusalOf_9 : decode cX6_refusalOf 9 = .ok (.ireturn, 1) := by decide +kernel
theorem dX6_refusalOf_10 : decode cX6_refusalOf 10 = .ok (.aload_n 0, 1) := by decide +kernel
theorem dX6_refusalOf_11 : decode cX6_refusalOf 11 = .ok (.iload_n 1, 1) := by decide +kernel
theorem dX6_refusalOf_12 : decode cX6_refusalOf 12 = .ok (.invokevirtual 36, 3) := by decide +kernel
theorem dX6_refusalOf_15 : decode cX6_refusalOf 15 = .ok (.ifCond .eq 6, 3) := by decide +kernel
theorem dX6_refusalOf_18 : decode cX6_refusalOf 18 = .ok (.bipush (-11), 2) := by decide +kernel
theorem dX6_refusalOf_20 : decode cX6_refusalOf 20 = .ok (.ireturn, 1) := by decide +kernel
theorem dX6_refusalOf_21 : decode cX6_refusalOf 21 = .ok (.aload_n 0, 1) := by decide +kernel
theorem dX6_refusalOf_22 : decode cX6_refusalOf 22 = .ok (.iload_n 1, 1) := by decide +kernel
theorem dX6_refusalOf_23 : decode cX6_refusalOf 23 = .ok (.invokevirtual 33, 3) := by decide +kernel
theorem dX6_refusalOf_26 : decode cX6_refusalOf 26 = .ok (.ifCond .ne 6, 3) := by decide +kernel
theorem dX6_refusalOf_29 : decode cX6_refusalOf 29 = .ok (.bipush (-12), 2) := by decide +kernel
theorem dX6_refusalOf_31 : decode cX6_refusalOf 31 = .ok (.ireturn, 1) := by decide +kernel
theorem dX6_refusalOf_32 : decode cX6_refusalOf 32 = .ok (.aload_n 0, 1) := by decide +kernel
theorem dX6_refusalOf_33 : decode cX6_refusalOf 33 = .ok (.iload_n 1, 1) := by decide +kernel
theorem dX6_refusalOf_34 : decode cX6_refusalOf 34 = .ok (.iload_n 2, 1) := by decide +kernel
theorem dX6_refusalOf_35 : decode cX6_refusalOf 35 = .ok (.iconst 1, 1) := by decide +kernel
theorem dX6_refusalOf_36 : decode cX6_refusalOf 36 = .ok (.invokevirtual 39, 3) := by decide +kernel
theorem dX6_refusalOf_39 : decode cX6_refusalOf 39 = .ok (.ifCond .eq 7, 3) := by decide +kernel
theorem dX6_refusalOf_42 : decode cX6_refusalOf 42 = .ok (.iconst 0, 1) := by decide +kernel
theorem dX6_refusalOf_43 : decode cX6_refusalOf 43 = .ok (.goto 5, 3) := by decide +kernel
theorem dX6_refusalOf_46 : decode cX6_refusalOf 46 = .ok (.bipush (-13), 2) := by decide +kernel
theorem dX6_refusalOf_48 : decode cX6_refusalOf 48 = .ok (.ireturn, 1) := by decide +kernel
theorem dX6_bodyOn_0 : decode cX6_bodyOn 0 = .ok (.aload_n 0, 1) := by decide +kernel
theorem dX6_bodyOn_1 : decode cX6_bodyOn 1 = .ok (.iload_n 1, 1) := by decide +kernel
theorem dX6_bodyOn_2 : decode cX6_bodyOn 2 = .ok (.invokevirtual 26, 3) := by decide +kernel
theorem dX6_bodyOn_5 : decode cX6_bodyOn 5 = .ok (.ifCond .eq 23, 3) := by decide +kernel
theorem dX6_bodyOn_8 : decode cX6_bodyOn 8 = .ok (.aload_n 0, 1) := by decide +kernel
theorem dX6_bodyOn_9 : decode cX6_bodyOn 9 = .ok (.getfield 11, 3) := by decide +kernel
theorem dX6_bodyOn_12 : decode cX6_bodyOn 12 = .ok (.iload_n 1, 1) := by decide +kernel
theorem dX6_bodyOn_13 : decode cX6_bodyOn 13 = .ok (.iaload, 1) := by decide +kernel
theorem dX6_bodyOn_14 : decode cX6_bodyOn 14 = .ok (.bipush (-2), 2) := by decide +kernel
theorem dX6_bodyOn_16 : decode cX6_bodyOn 16 = .ok (.if_icmp .ne 12, 3) := by decide +kernel
theorem dX6_bodyOn_19 : decode cX6_bodyOn 19 = .ok (.aload_n 0, 1) := by decide +kernel
theorem dX6_bodyOn_20 : decode cX6_bodyOn 20 = .ok (.getfield 15, 3) := by decide +kernel
theorem dX6_bodyOn_23 : decode cX6_bodyOn 23 = .ok (.iload_n 1, 1) := by decide +kernel
theorem dX6_bodyOn_24 : decode cX6_bodyOn 24 = .ok (.iaload, 1) := by decide +kernel
theorem dX6_bodyOn_25 : decode cX6_bodyOn 25 = .ok (.goto 4, 3) := by decide +kernel
theorem dX6_bodyOn_28 : decode cX6_bodyOn 28 = .ok (.iconst (-1), 1) := by decide +kernel
theorem dX6_bodyOn_29 : decode cX6_bodyOn 29 = .ok (.ireturn, 1) := by decide +kernel
theorem dX6_clearShelf_0 : decode cX6_clearShelf 0 = .ok (.aload_n 0, 1) := by decide +kernel
theorem dX6_clearShelf_1 : decode cX6_clearShelf 1 = .ok (.iload_n 1, 1) := by decide +kernel
theorem dX6_clearShelf_2 : decode cX6_clearShelf 2 = .ok (.invokevirtual 26, 3) := by decide +kernel
theorem dX6_clearShelf_5 : decode cX6_clearShelf 5 = .ok (.ifCond .eq 10, 3) := by decide +kernel
theorem dX6_clearShelf_8 : decode cX6_clearShelf 8 = .ok (.aload_n 0, 1) := by decide +kernel
theorem dX6_clearShelf_9 : decode cX6_clearShelf 9 = .ok (.getfield 11, 3) := by decide +kernel
theorem dX6_clearShelf_12 : decode cX6_clearShelf 12 = .ok (.iload_n 1, 1) := by decide +kernel
theorem dX6_clearShelf_13 : decode cX6_clearShelf 13 = .ok (.iconst (-1), 1) := by decide +kernel
theorem dX6_clearShelf_14 : decode cX6_clearShelf 14 = .ok (.iastore, 1) := by decide +kernel
theorem dX6_clearShelf_15 : decode cX6_clearShelf 15 = .ok (.return_, 1) := by decide +kernel
theorem dX6_holdBody_0 : decode cX6_holdBody 0 = .ok (.aload_n 0, 1) := by decide +kernel
theorem dX6_holdBody_1 : decode cX6_holdBody 1 = .ok (.iload_n 1, 1) := by decide +kernel
theorem dX6_holdBody_2 : decode cX6_holdBody 2 = .ok (.invokevirtual 26, 3) := by decide +kernel
theorem dX6_holdBody_5 : decode cX6_holdBody 5 = .ok (.ifCond .ne 4, 3) := by decide +kernel
theorem dX6_holdBody_8 : decode cX6_holdBody 8 = .ok (.return_, 1) := by decide +kernel
theorem dX6_holdBody_9 : decode cX6_holdBody 9 = .ok (.aload_n 0, 1) := by decide +kernel
theorem dX6_holdBody_10 : decode cX6_holdBody 10 = .ok (.getfield 11, 3) := by decide +kernel
theorem dX6_holdBody_13 : decode cX6_holdBody 13 = .ok (.iload_n 1, 1) := by decide +kernel
theorem dX6_holdBody_14 : decode cX6_holdBody 14 = .ok (.bipush (-2), 2) := by decide +kernel
theorem dX6_holdBody_16 : decode cX6_holdBody 16 = .ok (.iastore, 1) := by decide +kernel
theorem dX6_holdBody_17 : decode cX6_holdBody 17 = .ok (.aload_n 0, 1) := by decide +kernel
theorem dX6_holdBody_18 : decode cX6_holdBody 18 = .ok (.getfield 15, 3) := by decide +kernel
theorem dX6_holdBody_21 : decode cX6_holdBody 21 = .ok (.iload_n 1, 1) := by decide +kernel
theorem dX6_holdBody_22 : decode cX6_holdBody 22 = .ok (.iload_n 2, 1) := by decide +kernel
theorem dX6_holdBody_23 : decode cX6_holdBody 23 = .ok (.iastore, 1) := by decide +kernel
theorem dX6_holdBody_24 : decode cX6_holdBody 24 = .ok (.return_, 1) := by decide +kernel
theorem dX6_holdRow_0 : decode cX6_holdRow 0 = .ok (.aload_n 0, 1) := by decide +kernel
theorem dX6_holdRow_1 : decode cX6_holdRow 1 = .ok (.iload_n 1, 1) := by decide +kernel
theorem dX6_holdRow_2 : decode cX6_holdRow 2 = .ok (.invokevirtual 26, 3) := by decide +kernel
theorem dX6_holdRow_5 : decode cX6_holdRow 5 = .ok (.ifCond .ne 4, 3) := by decide +kernel
theorem dX6_holdRow_8 : decode cX6_holdRow 8 = .ok (.return_, 1) := by decide +kernel
theorem dX6_holdRow_9 : decode cX6_holdRow 9 = .ok (.aload_n 0, 1) := by decide +kernel
theorem dX6_holdRow_10 : decode cX6_holdRow 10 = .ok (.getfield 11, 3) := by decide +kernel
theorem dX6_holdRow_13 : decode cX6_holdRow 13 = .ok (.iload_n 1, 1) := by decide +kernel
theorem dX6_holdRow_14 : decode cX6_holdRow 14 = .ok (.iload_n 2, 1) := by decide +kernel
theorem dX6_holdRow_15 : decode cX6_holdRow 15 = .ok (.iastore, 1) := by decide +kernel
theorem dX6_holdRow_16 : decode cX6_holdRow 16 = .ok (.aload_n 0, 1) := by decide +kernel
theorem dX6_holdRow_17 : decode cX6_holdRow 17 = .ok (.getfield 18, 3) := by decide +kernel
theorem dX6_holdRow_20 : decode cX6_holdRow 20 = .ok (.iload_n 1, 1) := by decide +kernel
theorem dX6_holdRow_21 : decode cX6_holdRow 21 = .ok (.iload_n 3, 1) := by decide +kernel
theorem dX6_holdRow_22 : decode cX6_holdRow 22 = .ok (.iastore, 1) := by decide +kernel
theorem dX6_holdRow_23 : decode cX6_holdRow 23 = .ok (.iconst 0, 1) := by decide +kernel
theorem dX6_holdRow_24 : decode cX6_holdRow 24 = .ok (.istore 4, 2) := by decide +kernel
theorem dX6_holdRow_26 : decode cX6_holdRow 26 = .ok (.iload 4, 2) := by decide +kernel
theorem dX6_holdRow_28 : decode cX6_holdRow 28 = .ok (.bipush 60, 2) := by decide +kernel
theorem dX6_holdRow_30 : decode cX6_holdRow 30 = .ok (.if_icmp .ge 19, 3) := by decide +kernel
theorem dX6_holdRow_33 : decode cX6_holdRow 33 = .ok (.aload_n 0, 1) := by decide +kernel
theorem dX6_holdRow_34 : decode cX6_holdRow 34 = .ok (.getfield 23, 3) := by decide +kernel
theorem dX6_holdRow_37 : decode cX6_holdRow 37 = .ok (.iload_n 1, 1) := by decide +kernel
theorem dX6_holdRow_38 : decode cX6_holdRow 38 = .ok (.aaload, 1) := by decide +kernel
theorem dX6_holdRow_39 : decode cX6_holdRow 39 = .ok (.iload 4, 2) := by decide +kernel
theorem dX6_holdRow_41 : decode cX6_holdRow 41 = .ok (.lconst 0, 1) := by decide +kernel
theorem dX6_holdRow_42 : decode cX6_holdRow 42 = .ok (.lastore, 1) := by decide +kernel
theorem dX6_holdRow_43 : decode cX6_holdRow 43 = .ok (.iinc 4 1, 3) := by decide +kernel
theorem dX6_holdRow_46 : decode cX6_holdRow 46 = .ok (.goto (-20), 3) := by decide +kernel
theorem dX6_holdRow_49 : decode cX6_holdRow 49 = .ok (.return_, 1) := by decide +kernel
theorem dX6_elementAt_0 : decode cX6_elementAt 0 = .ok (.aload_n 0, 1) := by decide +kernel
theorem dX6_elementAt_1 : decode cX6_elementAt 1 = .ok (.iload_n 1, 1) := by decide +kernel
theorem dX6_elementAt_2 : decode cX6_elementAt 2 = .ok (.iload_n 2, 1) := by decide +kernel
theorem dX6_elementAt_3 : decode cX6_elementAt 3 = .ok (.iconst 1, 1) := by decide +kernel
theorem dX6_elementAt_4 : decode cX6_elementAt 4 = .ok (.invokevirtual 39, 3) := by decide +kernel
theorem dX6_elementAt_7 : decode cX6_elementAt 7 = .ok (.ifCond .eq 14, 3) := by decide +kernel
theorem dX6_elementAt_10 : decode cX6_elementAt 10 = .ok (.aload_n 0, 1) := by decide +kernel
theorem dX6_elementAt_11 : decode cX6_elementAt 11 = .ok (.getfield 23, 3) := by decide +kernel
theorem dX6_elementAt_14 : decode cX6_elementAt 14 = .ok (.iload_n 1, 1) := by decide +kernel
theorem dX6_elementAt_15 : decode cX6_elementAt 15 = .ok (.aaload, 1) := by decide +kernel
theorem dX6_elementAt_16 : decode cX6_elementAt 16 = .ok (.iload_n 2, 1) := by decide +kernel
theorem dX6_elementAt_17 : decode cX6_elementAt 17 = .ok (.laload, 1) := by decide +kernel
theorem dX6_elementAt_18 : decode cX6_elementAt 18 = .ok (.goto 4, 3) := by decide +kernel
theorem dX6_elementAt_21 : decode cX6_elementAt 21 = .ok (.lconst 0, 1) := by decide +kernel
theorem dX6_elementAt_22 : decode cX6_elementAt 22 = .ok (.lreturn, 1) := by decide +kernel
theorem dX6_set_0 : decode cX6_set 0 = .ok (.aload_n 0, 1) := by decide +kernel
theorem dX6_set_1 : decode cX6_set 1 = .ok (.iload_n 1, 1) := by decide +kernel
theorem dX6_set_2 : decode cX6_set 2 = .ok (.iload_n 2, 1) := by decide +kernel
theorem dX6_set_3 : decode cX6_set 3 = .ok (.iconst 1, 1) := by decide +kernel
theorem dX6_set_4 : decode cX6_set 4 = .ok (.invokevirtual 39, 3) := by decide +kernel
theorem dX6_set_7 : decode cX6_set 7 = .ok (.ifCond .eq 21, 3) := by decide +kernel
theorem dX6_set_10 : decode cX6_set 10 = .ok (.aload_n 0, 1) := by decide +kernel
theorem dX6_set_11 : decode cX6_set 11 = .ok (.getfield 23, 3) := by decide +kernel
theorem dX6_set_14 : decode cX6_set 14 = .ok (.iload_n 1, 1) := by decide +kernel
theorem dX6_set_15 : decode cX6_set 15 = .ok (.aaload, 1) := by decide +kernel
theorem dX6_set_16 : decode cX6_set 16 = .ok (.iload_n 2, 1) := by decide +kernel
theorem dX6_set_17 : decode cX6_set 17 = .ok (.aload_n 0, 1) := by decide +kernel
theorem dX6_set_18 : decode cX6_set 18 = .ok (.getfield 11, 3) := by decide +kernel
theorem dX6_set_21 : decode cX6_set 21 = .ok (.iload_n 1, 1) := by decide +kernel
theorem dX6_set_22 : decode cX6_set 22 = .ok (.iaload, 1) := by decide +kernel
theorem dX6_set_23 : decode cX6_set 23 = .ok (.lload_n 3, 1) := by decide +kernel
theorem dX6_set_24 : decode cX6_set 24 = .ok (.invokestatic 43, 3) := by decide +kernel
theorem dX6_set_27 : decode cX6_set 27 = .ok (.lastore, 1) := by decide +kernel
theorem dX6_set_28 : decode cX6_set 28 = .ok (.return_, 1) := by decide +kernel
theorem dX6_lowestBits_0 : decode cX6_lowestBits 0 = .ok (.iload_n 0, 1) := by decide +kernel
theorem dX6_lowestBits_1 : decode cX6_lowestBits 1 = .ok (.tableswitch 61 0 4 #[35, 40, 45, 61, 49], 35) := by decide +kernel
theorem dX6_lowestBits_36 : decode cX6_lowestBits 36 = .ok (.lload_n 1, 1) := by decide +kernel
theorem dX6_lowestBits_37 : decode cX6_lowestBits 37 = .ok (.l2i, 1) := by decide +kernel
theorem dX6_lowestBits_38 : decode cX6_lowestBits 38 = .ok (.i2b, 1) := by decide +kernel
theorem dX6_lowestBits_39 : decode cX6_lowestBits 39 = .ok (.i2l, 1) := by decide +kernel
theorem dX6_lowestBits_40 : decode cX6_lowestBits 40 = .ok (.lreturn, 1) := by decide +kernel
theorem dX6_lowestBits_41 : decode cX6_lowestBits 41 = .ok (.lload_n 1, 1) := by decide +kernel
theorem dX6_lowestBits_42 : decode cX6_lowestBits 42 = .ok (.l2i, 1) := by decide +kernel
theorem dX6_lowestBits_43 : decode cX6_lowestBits 43 = .ok (.i2s, 1) := by decide +kernel
theorem dX6_lowestBits_44 : decode cX6_lowestBits 44 = .ok (.i2l, 1) := by decide +kernel
theorem dX6_lowestBits_45 : decode cX6_lowestBits 45 = .ok (.lreturn, 1) := by decide +kernel
theorem dX6_lowestBits_46 : decode cX6_lowestBits 46 = .ok (.lload_n 1, 1) := by decide +kernel
theorem dX6_lowestBits_47 : decode cX6_lowestBits 47 = .ok (.l2i, 1) := by decide +kernel
theorem dX6_lowestBits_48 : decode cX6_lowestBits 48 = .ok (.i2l, 1) := by decide +kernel
theorem dX6_lowestBits_49 : decode cX6_lowestBits 49 = .ok (.lreturn, 1) := by decide +kernel
theorem dX6_lowestBits_50 : decode cX6_lowestBits 50 = .ok (.lload_n 1, 1) := by decide +kernel
theorem dX6_lowestBits_51 : decode cX6_lowestBits 51 = .ok (.lconst 0, 1) := by decide +kernel
theorem dX6_lowestBits_52 : decode cX6_lowestBits 52 = .ok (.lcmp, 1) := by decide +kernel
theorem dX6_lowestBits_53 : decode cX6_lowestBits 53 = .ok (.ifCond .eq 7, 3) := by decide +kernel
theorem dX6_lowestBits_56 : decode cX6_lowestBits 56 = .ok (.lconst 1, 1) := by decide +kernel
theorem dX6_lowestBits_57 : decode cX6_lowestBits 57 = .ok (.goto 4, 3) := by decide +kernel
theorem dX6_lowestBits_60 : decode cX6_lowestBits 60 = .ok (.lconst 0, 1) := by decide +kernel
theorem dX6_lowestBits_61 : decode cX6_lowestBits 61 = .ok (.lreturn, 1) := by decide +kernel
theorem dX6_lowestBits_62 : decode cX6_lowestBits 62 = .ok (.lload_n 1, 1) := by decide +kernel
theorem dX6_lowestBits_63 : decode cX6_lowestBits 63 = .ok (.lreturn, 1) := by decide +kernel
theorem dX6_copy_0 : decode cX6_copy 0 = .ok (.aload_n 0, 1) := by decide +kernel
theorem dX6_copy_1 : decode cX6_copy 1 = .ok (.iload_n 1, 1) := by decide +kernel
theorem dX6_copy_2 : decode cX6_copy 2 = .ok (.iload_n 2, 1) := by decide +kernel
theorem dX6_copy_3 : decode cX6_copy 3 = .ok (.iload 5, 2) := by decide +kernel
theorem dX6_copy_5 : decode cX6_copy 5 = .ok (.invokevirtual 39, 3) := by decide +kernel
theorem dX6_copy_8 : decode cX6_copy 8 = .ok (.ifCond .eq 15, 3) := by decide +kernel
theorem dX6_copy_11 : decode cX6_copy 11 = .ok (.aload_n 0, 1) := by decide +kernel
theorem dX6_copy_12 : decode cX6_copy 12 = .ok (.iload_n 3, 1) := by decide +kernel
theorem dX6_copy_13 : decode cX6_copy 13 = .ok (.iload 4, 2) := by decide +kernel
theorem dX6_copy_15 : decode cX6_copy 15 = .ok (.iload 5, 2) := by decide +kernel
theorem dX6_copy_17 : decode cX6_copy 17 = .ok (.invokevirtual 39, 3) := by decide +kernel
theorem dX6_copy_20 : decode cX6_copy 20 = .ok (.ifCond .ne 4, 3) := by decide +kernel
theorem dX6_copy_23 : decode cX6_copy 23 = .ok (.return_, 1) := by decide +kernel
theorem dX6_copy_24 : decode cX6_copy 24 = .ok (.aload_n 0, 1) := by decide +kernel
theorem dX6_copy_25 : decode cX6_copy 25 = .ok (.getfield 23, 3) := by decide +kernel
theorem dX6_copy_28 : decode cX6_copy 28 = .ok (.iload_n 1, 1) := by decide +kernel
theorem dX6_copy_29 : decode cX6_copy 29 = .ok (.aaload, 1) := by decide +kernel
theorem dX6_copy_30 : decode cX6_copy 30 = .ok (.iload_n 2, 1) := by decide +kernel
theorem dX6_copy_31 : decode cX6_copy 31 = .ok (.aload_n 0, 1) := by decide +kernel
theorem dX6_copy_32 : decode cX6_copy 32 = .ok (.getfield 23, 3) := by decide +kernel
theorem dX6_copy_35 : decode cX6_copy 35 = .ok (.iload_n 3, 1) := by decide +kernel
theorem dX6_copy_36 : decode cX6_copy 36 = .ok (.aaload, 1) := by decide +kernel
theorem dX6_copy_37 : decode cX6_copy 37 = .ok (.iload 4, 2) := by decide +kernel
theorem dX6_copy_39 : decode cX6_copy 39 = .ok (.iload 5, 2) := by decide +kernel
theorem dX6_copy_41 : decode cX6_copy 41 = .ok (.invokestatic 47, 3) := by decide +kernel
theorem dX6_copy_44 : decode cX6_copy 44 = .ok (.return_, 1) := by decide +kernel
theorem dX7_init_0 : decode cX7_init 0 = .ok (.aload_n 0, 1) := by decide +kernel
theorem dX7_init_1 : decode cX7_init 1 = .ok (.invokespecial 3, 3) := by decide +kernel
theorem dX7_init_4 : decode cX7_init 4 = .ok (.aload_n 0, 1) := by decide +kernel
theorem dX7_init_5 : decode cX7_init 5 = .ok (.bipush 6, 2) := by decide +kernel
theorem dX7_init_7 : decode cX7_init 7 = .ok (.newarray .int, 2) := by decide +kernel
theorem dX7_init_9 : decode cX7_init 9 = .ok (.putfield 9, 3) := by decide +kernel
theorem dX7_init_12 : decode cX7_init 12 = .ok (.aload_n 0, 1) := by decide +kernel
theorem dX7_init_13 : decode cX7_init 13 = .ok (.bipush 6, 2) := by decide +kernel
theorem dX7_init_15 : decode cX7_init 15 = .ok (.newarray .int, 2) := by decide +kernel
theorem dX7_init_17 : decode cX7_init 17 = .ok (.putfield 15, 3) := by decide +kernel
theorem dX7_init_20 : decode cX7_init 20 = .ok (.aload_n 0, 1) := by decide +kernel
theorem dX7_init_21 : decode cX7_init 21 = .ok (.bipush 6, 2) := by decide +kernel
theorem dX7_init_23 : decode cX7_init 23 = .ok (.newarray .int, 2) := by decide +kernel
theorem dX7_init_25 : decode cX7_init 25 = .ok (.putfield 18, 3) := by decide +kernel
theorem dX7_init_28 : decode cX7_init 28 = .ok (.aload_n 0, 1) := by decide +kernel
theorem dX7_init_29 : decode cX7_init 29 = .ok (.bipush 6, 2) := by decide +kernel
theorem dX7_init_31 : decode cX7_init 31 = .ok (.newarray .int, 2) := by decide +kernel
theorem dX7_init_33 : decode cX7_init 33 = .ok (.putfield 21, 3) := by decide +kernel
theorem dX7_init_36 : decode cX7_init 36 = .ok (.aload_n 0, 1) := by decide +kernel
theorem dX7_init_37 : decode cX7_init 37 = .ok (.bipush 30, 2) := by decide +kernel
theorem dX7_init_39 : decode cX7_init 39 = .ok (.newarray .int, 2) := by decide +kernel
theorem dX7_init_41 : decode cX7_init 41 = .ok (.putfield 24, 3) := by decide +kernel
theorem dX7_init_44 : decode cX7_init 44 = .ok (.aload_n 0, 1) := by decide +kernel
theorem dX7_init_45 : decode cX7_init 45 = .ok (.bipush 30, 2) := by decide +kernel
theorem dX7_init_47 : decode cX7_init 47 = .ok (.newarray .int, 2) := by decide +kernel
theorem dX7_init_49 : decode cX7_init 49 = .ok (.putfield 27, 3) := by decide +kernel
theorem dX7_init_52 : decode cX7_init 52 = .ok (.aload_n 0, 1) := by decide +kernel
theorem dX7_init_53 : decode cX7_init 53 = .ok (.bipush 30, 2) := by decide +kernel
theorem dX7_init_55 : decode cX7_init 55 = .ok (.newarray .int, 2) := by decide +kernel
theorem dX7_init_57 : decode cX7_init 57 = .ok (.putfield 30, 3) := by decide +kernel
theorem dX7_init_60 : decode cX7_init 60 = .ok (.aload_n 0, 1) := by decide +kernel
theorem dX7_init_61 : decode cX7_init 61 = .ok (.bipush 30, 2) := by decide +kernel
theorem dX7_init_63 : decode cX7_init 63 = .ok (.newarray .int, 2) := by decide +kernel
theorem dX7_init_65 : decode cX7_init 65 = .ok (.putfield 33, 3) := by decide +kernel
theorem dX7_init_68 : decode cX7_init 68 = .ok (.aload_n 0, 1) := by decide +kernel
theorem dX7_init_69 : decode cX7_init 69 = .ok (.bipush 8, 2) := by decide +kernel
theorem dX7_init_71 : decode cX7_init 71 = .ok (.newarray .int, 2) := by decide +kernel
theorem dX7_init_73 : decode cX7_init 73 = .ok (.putfield 36, 3) := by decide +kernel
theorem dX7_init_76 : decode cX7_init 76 = .ok (.aload_n 0, 1) := by decide +kernel
theorem dX7_init_77 : decode cX7_init 77 = .ok (.bipush 8, 2) := by decide +kernel
theorem dX7_init_79 : decode cX7_init 79 = .ok (.newarray .int, 2) := by decide +kernel
theorem dX7_init_81 : decode cX7_init 81 = .ok (.putfield 39, 3) := by decide +kernel
theorem dX7_init_84 : decode cX7_init 84 = .ok (.aload_n 0, 1) := by decide +kernel
theorem dX7_init_85 : decode cX7_init 85 = .ok (.bipush 8, 2) := by decide +kernel
theorem dX7_init_87 : decode cX7_init 87 = .ok (.newarray .int, 2) := by decide +kernel
theorem dX7_init_89 : decode cX7_init 89 = .ok (.putfield 42, 3) := by decide +kernel
theorem dX7_init_92 : decode cX7_init 92 = .ok (.aload_n 0, 1) := by decide +kernel
theorem dX7_init_93 : decode cX7_init 93 = .ok (.bipush 8, 2) := by decide +kernel
theorem dX7_init_95 : decode cX7_init 95 = .ok (.newarray .int, 2) := by decide +kernel
theorem dX7_init_97 : decode cX7_init 97 = .ok (.putfield 45, 3) := by decide +kernel
theorem dX7_init_100 : decode cX7_init 100 = .ok (.return_, 1) := by decide +kernel
theorem dX7_streets_0 : decode cX7_streets 0 = .ok (.aload_n 0, 1) := by decide +kernel
theorem dX7_streets_1 : decode cX7_streets 1 = .ok (.getfield 48, 3) := by decide +kernel
theorem dX7_streets_4 : decode cX7_streets 4 = .ok (.ireturn, 1) := by decide +kernel
theorem dX7_windowsInAll_0 : decode cX7_windowsInAll 0 = .ok (.aload_n 0, 1) := by decide +kernel
theorem dX7_windowsInAll_1 : decode cX7_windowsInAll 1 = .ok (.getfield 52, 3) := by decide +kernel
theorem dX7_windowsInAll_4 : decode cX7_windowsInAll 4 = .ok (.ireturn, 1) := by decide +kernel
theorem dX7_players_0 : decode cX7_players 0 = .ok (.aload_n 0, 1) := by decide +kernel
theorem dX7_players_1 : decode cX7_players 1 = .ok (.getfield 55, 3) := by decide +kernel
theorem dX7_players_4 : decode cX7_players 4 = .ok (.ireturn, 1) := by decide +kernel
theorem dX7_isStreet_0 : decode cX7_isStreet 0 = .ok (.iload_n 1, 1) := by decide +kernel
theorem dX7_isStreet_1 : decode cX7_isStreet 1 = .ok (.ifCond .lt 21, 3) := by decide +kernel
theorem dX7_isStreet_4 : decode cX7_isStreet 4 = .ok (.iload_n 1, 1) := by decide +kernel
theorem dX7_isStreet_5 : decode cX7_isStreet 5 = .ok (.aload_n 0, 1) := by decide +kernel
theorem dX7_isStreet_6 : decode cX7_isStreet 6 = .ok (.getfield 48, 3) := by decide +kernel
theorem dX7_isStreet_9 : decode cX7_isStreet 9 = .ok (.if_icmp .ge 13, 3) := by decide +kernel
theorem dX7_isStreet_12 : decode cX7_isStreet 12 = .ok (.iload_n 1, 1) := by decide +kernel
theorem dX7_isStreet_13 : decode cX7_isStreet 13 = .ok (.bipush 6, 2) := by decide +kernel
theorem dX7_isStreet_15 : decode cX7_isStreet 15 = .ok (.if_icmp .ge 7, 3) := by decide +kernel
theorem dX7_isStreet_18 : decode cX7_isStreet 18 = .ok (.iconst 1, 1) := by decide +kernel
theorem dX7_isStreet_19 : decode cX7_isStreet 19 = .ok (.goto 4, 3) := by decide +kernel
theorem dX7_isStreet_22 : decode cX7_isStreet 22 = .ok (.iconst 0, 1) := by decide +kernel
theorem dX7_isStreet_23 : decode cX7_isStreet 23 = .ok (.ireturn, 1) := by decide +kernel
theorem dX7_isWindow_0 : decode cX7_isWindow 0 = .ok (.iload_n 1, 1) := by decide +kernel
theorem dX7_isWindow_1 : decode cX7_isWindow 1 = .ok (.ifCond .lt 21, 3) := by decide +kernel
theorem dX7_isWindow_4 : decode cX7_isWindow 4 = .ok (.iload_n 1, 1) := by decide +kernel
theorem dX7_isWindow_5 : decode cX7_isWindow 5 = .ok (.aload_n 0, 1) := by decide +kernel
theorem dX7_isWindow_6 : decode cX7_isWindow 6 = .ok (.getfield 52, 3) := by decide +kernel
theorem dX7_isWindow_9 : decode cX7_isWindow 9 = .ok (.if_icmp .ge 13, 3) := by decide +kernel
theorem dX7_isWindow_12 : decode cX7_isWindow 12 = .ok (.iload_n 1, 1) := by decide +kernel
theorem dX7_isWindow_13 : decode cX7_isWindow 13 = .ok (.bipush 30, 2) := by decide +kernel
theorem dX7_isWindow_15 : decode cX7_isWindow 15 = .ok (.if_icmp .ge 7, 3) := by decide +kernel
theorem dX7_isWindow_18 : decode cX7_isWindow 18 = .ok (.iconst 1, 1) := by decide +kernel
theorem dX7_isWindow_19 : decode cX7_isWindow 19 = .ok (.goto 4, 3) := by decide +kernel
theorem dX7_isWindow_22 : decode cX7_isWindow 22 = .ok (.iconst 0, 1) := by decide +kernel
theorem dX7_isWindow_23 : decode cX7_isWindow 23 = .ok (.ireturn, 1) := by decide +kernel
theorem dX7_isPlayer_0 : decode cX7_isPlayer 0 = .ok (.iload_n 1, 1) := by decide +kernel
theorem dX7_isPlayer_1 : decode cX7_isPlayer 1 = .ok (.ifCond .lt 21, 3) := by decide +kernel
theorem dX7_isPlayer_4 : decode cX7_isPlayer 4 = .ok (.iload_n 1, 1) := by decide +kernel
theorem dX7_isPlayer_5 : decode cX7_isPlayer 5 = .ok (.aload_n 0, 1) := by decide +kernel
theorem dX7_isPlayer_6 : decode cX7_isPlayer 6 = .ok (.getfield 55, 3) := by decide +kernel
theorem dX7_isPlayer_9 : decode cX7_isPlayer 9 = .ok (.if_icmp .ge 13, 3) := by decide +kernel
theorem dX7_isPlayer_12 : decode cX7_isPlayer 12 = .ok (.iload_n 1, 1) := by decide +kernel
theorem dX7_isPlayer_13 : decode cX7_isPlayer 13 = .ok (.bipush 8, 2) := by decide +kernel
theorem dX7_isPlayer_15 : decode cX7_isPlayer 15 = .ok (.if_icmp .ge 7, 3) := by decide +kernel
theorem dX7_isPlayer_18 : decode cX7_isPlayer 18 = .ok (.iconst 1, 1) := by decide +kernel
theorem dX7_isPlayer_19 : decode cX7_isPlayer 19 = .ok (.goto 4, 3) := by decide +kernel
theorem dX7_isPlayer_22 : decode cX7_isPlayer 22 = .ok (.iconst 0, 1) := by decide +kernel
theorem dX7_isPlayer_23 : decode cX7_isPlayer 23 = .ok (.ireturn, 1) := by decide +kernel
theorem dX7_addStreet_0 : decode cX7_addStreet 0 = .ok (.aload_n 0, 1) := by decide +kernel
theorem dX7_addStreet_1 : decode cX7_addStreet 1 = .ok (.getfield 48, 3) := by decide +kernel
theorem dX7_addStreet_4 : decode cX7_addStreet 4 = .ok (.bipush 6, 2) := by decide +kernel
theorem dX7_addStreet_6 : decode cX7_addStreet 6 = .ok (.if_icmp .lt 6, 3) := by decide +kernel
theorem dX7_addStreet_9 : decode cX7_addStreet 9 = .ok (.bipush (-3), 2) := by decide +kernel
theorem dX7_addStreet_11 : decode cX7_addStreet 11 = .ok (.ireturn, 1) := by decide +kernel
theorem dX7_addStreet_12 : decode cX7_addStreet 12 = .ok (.aload_n 0, 1) := by decide +kernel
theorem dX7_addStreet_13 : decode cX7_addStreet 13 = .ok (.getfield 9, 3) := by decide +kernel
theorem dX7_addStreet_16 : decode cX7_addStreet 16 = .ok (.aload_n 0, 1) := by decide +kernel
theorem dX7_addStreet_17 : decode cX7_addStreet 17 = .ok (.getfield 48, 3) := by decide +kernel
theorem dX7_addStreet_20 : decode cX7_addStreet 20 = .ok (.iload_n 1, 1) := by decide +kernel
theorem dX7_addStreet_21 : decode cX7_addStreet 21 = .ok (.iastore, 1) := by decide +kernel
theorem dX7_addStreet_22 : decode cX7_addStreet 22 = .ok (.aload_n 0, 1) := by decide +kernel
theorem dX7_addStreet_23 : decode cX7_addStreet 23 = .ok (.getfield 15, 3) := by decide +kernel
theorem dX7_addStreet_26 : decode cX7_addStreet 26 = .ok (.aload_n 0, 1) := by decide +kernel
theorem dX7_addStreet_27 : decode cX7_addStreet 27 = .ok (.getfield 48, 3) := by decide +kernel
theorem dX7_addStreet_30 : decode cX7_addStreet 30 = .ok (.iload_n 2, 1) := by decide +kernel
theorem dX7_addStreet_31 : decode cX7_addStreet 31 = .ok (.iastore, 1) := by decide +kernel
theorem dX7_addStreet_32 : decode cX7_addStreet 32 = .ok (.aload_n 0, 1) := by decide +kernel
theorem dX7_addStreet_33 : decode cX7_addStreet 33 = .ok (.dup, 1) := by decide +kernel
theorem dX7_addStreet_34 : decode cX7_addStreet 34 = .ok (.getfield 48, 3) := by decide +kernel
theorem dX7_addStreet_37 : decode cX7_addStreet 37 = .ok (.dup_x1, 1) := by decide +kernel
theorem dX7_addStreet_38 : decode cX7_addStreet 38 = .ok (.iconst 1, 1) := by decide +kernel
theorem dX7_addStreet_39 : decode cX7_addStreet 39 = .ok (.iadd, 1) := by decide +kernel
theorem dX7_addStreet_40 : decode cX7_addStreet 40 = .ok (.putfield 48, 3) := by decide +kernel
theorem dX7_addStreet_43 : decode cX7_addStreet 43 = .ok (.ireturn, 1) := by decide +kernel
theorem dX7_takesWindow_0 : decode cX7_takesWindow 0 = .ok (.aload_n 0, 1) := by decide +kernel
theorem dX7_takesWindow_1 : decode cX7_takesWindow 1 = .ok (.iload_n 1, 1) := by decide +kernel
theorem dX7_takesWindow_2 : decode cX7_takesWindow 2 = .ok (.invokevirtual 58, 3) := by decide +kernel
theorem dX7_takesWindow_5 : decode cX7_takesWindow 5 = .ok (.ifCond .eq 40, 3) := by decide +kernel
theorem dX7_takesWindow_8 : decode cX7_takesWindow 8 = .ok (.iload_n 2, 1) := by decide +kernel
theorem dX7_takesWindow_9 : decode cX7_takesWindow 9 = .ok (.iconst 0, 1) := by decide +kernel
theorem dX7_takesWindow_10 : decode cX7_takesWindow 10 = .ok (.bipush 99, 2) := by decide +kernel
theorem dX7_takesWindow_12 : decode cX7_takesWindow 12 = .ok (.invokestatic 62, 3) := by decide +kernel
theorem dX7_takesWindow_15 : decode cX7_takesWindow 15 = .ok (.ifCond .eq 30, 3) := by decide +kernel
theorem dX7_takesWindow_18 : decode cX7_takesWindow 18 = .ok (.iload_n 3, 1) := by decide +kernel
theorem dX7_takesWindow_19 : decode cX7_takesWindow 19 = .ok (.bipush (-99), 2) := by decide +kernel
theorem dX7_takesWindow_21 : decode cX7_takesWindow 21 = .ok (.bipush 99, 2) := by decide +kernel
theorem dX7_takesWindow_23 : decode cX7_takesWindow 23 = .ok (.invokestatic 62, 3) := by decide +kernel
theorem dX7_takesWindow_26 : decode cX7_takesWindow 26 = .ok (.ifCond .eq 19, 3) := by decide +kernel
theorem dX7_takesWindow_29 : decode cX7_takesWindow 29 = .ok (.iload 4, 2) := by decide +kernel
theorem dX7_takesWindow_31 : decode cX7_takesWindow 31 = .ok (.iconst 0, 1) := by decide +kernel
theorem dX7_takesWindow_32 : decode cX7_takesWindow 32 = .ok (.sipush 999, 3) := by decide +kernel
theorem dX7_takesWindow_35 : decode cX7_takesWindow 35 = .ok (.invokestatic 62, 3) := by decide +kernel
theorem dX7_takesWindow_38 : decode cX7_takesWindow 38 = .ok (.ifCond .eq 7, 3) := by decide +kernel
theorem dX7_takesWindow_41 : decode cX7_takesWindow 41 = .ok (.iconst 1, 1) := by decide +kernel
theorem dX7_takesWindow_42 : decode cX7_takesWindow 42 = .ok (.goto 4, 3) := by decide +kernel
theorem dX7_takesWindow_45 : decode cX7_takesWindow 45 = .ok (.iconst 0, 1) := by decide +kernel
theorem dX7_takesWindow_46 : decode cX7_takesWindow 46 = .ok (.ireturn, 1) := by decide +kernel
theorem dX7_addWindow_0 : decode cX7_addWindow 0 = .ok (.aload_n 0, 1) := by decide +kernel
theorem dX7_addWindow_1 : decode cX7_addWindow 1 = .ok (.getfield 52, 3) := by decide +kernel
theorem dX7_addWindow_4 : decode cX7_addWindow 4 = .ok (.bipush 30, 2) := by decide +kernel
theorem dX7_addWindow_6 : decode cX7_addWindow 6 = .ok (.if_icmp .lt 6, 3) := by decide +kernel
theorem dX7_addWindow_9 : decode cX7_addWindow 9 = .ok (.bipush (-3), 2) := by decide +kernel
theorem dX7_addWindow_11 : decode cX7_addWindow 11 = .ok (.ireturn, 1) := by decide +kernel
theorem dX7_addWindow_12 : decode cX7_addWindow 12 = .ok (.aload_n 0, 1) := by decide +kernel
theorem dX7_addWindow_13 : decode cX7_addWindow 13 = .ok (.getfield 24, 3) := by decide +kernel
theorem dX7_addWindow_16 : decode cX7_addWindow 16 = .ok (.aload_n 0, 1) := by decide +kernel
theorem dX7_addWindow_17 : decode cX7_addWindow 17 = .ok (.getfield 52, 3) := by decide +kernel
theorem dX7_addWindow_20 : decode cX7_addWindow 20 = .ok (.iload_n 1, 1) := by decide +kernel
theorem dX7_addWindow_21 : decode cX7_addWindow 21 = .ok (.iastore, 1) := by decide +kernel
theorem dX7_addWindow_22 : decode cX7_addWindow 22 = .ok (.aload_n 0, 1) := by decide +kernel
theorem dX7_addWindow_23 : decode cX7_addWindow 23 = .ok (.getfield 27, 3) := by decide +kernel
theorem dX7_addWindow_26 : decode cX7_addWindow 26 = .ok (.aload_n 0, 1) := by decide +kernel
theorem dX7_addWindow_27 : decode cX7_addWindow 27 = .ok (.getfield 52, 3) := by decide +kernel
theorem dX7_addWindow_30 : decode cX7_addWindow 30 = .ok (.iload_n 2, 1) := by decide +kernel
theorem dX7_addWindow_31 : decode cX7_addWindow 31 = .ok (.iastore, 1) := by decide +kernel
theorem dX7_addWindow_32 : decode cX7_addWindow 32 = .ok (.aload_n 0, 1) := by decide +kernel
theorem dX7_addWindow_33 : decode cX7_addWindow 33 = .ok (.getfield 30, 3) := by decide +kernel
theorem dX7_addWindow_36 : decode cX7_addWindow 36 = .ok (.aload_n 0, 1) := by decide +kernel
theorem dX7_addWindow_37 : decode cX7_addWindow 37 = .ok (.getfield 52, 3) := by decide +kernel
theorem dX7_addWindow_40 : decode cX7_addWindow 40 = .ok (.iload_n 3, 1) := by decide +kernel
theorem dX7_addWindow_41 : decode cX7_addWindow 41 = .ok (.iastore, 1) := by decide +kernel
theorem dX7_addWindow_42 : decode cX7_addWindow 42 = .ok (.aload_n 0, 1) := by decide +kernel
theorem dX7_addWindow_43 : decode cX7_addWindow 43 = .ok (.getfield 33, 3) := by decide +kernel
theorem dX7_addWindow_46 : decode cX7_addWindow 46 = .ok (.aload_n 0, 1) := by decide +kernel
theorem dX7_addWindow_47 : decode cX7_addWindow 47 = .ok (.getfield 52, 3) := by decide +kernel
theorem dX7_addWindow_50 : decode cX7_addWindow 50 = .ok (.iload 4, 2) := by decide +kernel
theorem dX7_addWindow_52 : decode cX7_addWindow 52 = .ok (.iastore, 1) := by decide +kernel
theorem dX7_addWindow_53 : decode cX7_addWindow 53 = .ok (.aload_n 0, 1) := by decide +kernel
theorem dX7_addWindow_54 : decode cX7_addWindow 54 = .ok (.dup, 1) := by decide +kernel
theorem dX7_addWindow_55 : decode cX7_addWindow 55 = .ok (.getfield 52, 3) := by decide +kernel
theorem dX7_addWindow_58 : decode cX7_addWindow 58 = .ok (.dup_x1, 1) := by decide +kernel
theorem dX7_addWindow_59 : decode cX7_addWindow 59 = .ok (.iconst 1, 1) := by decide +kernel
theorem dX7_addWindow_60 : decode cX7_addWindow 60 = .ok (.iadd, 1) := by decide +kernel
theorem dX7_addWindow_61 : decode cX7_addWindow 61 = .ok (.putfield 52, 3) := by decide +kernel
theorem dX7_addWindow_64 : decode cX7_addWindow 64 = .ok (.ireturn, 1) := by decide +kernel
theorem dX7_addPlayer_0 : decode cX7_addPlayer 0 = .ok (.aload_n 0, 1) := by decide +kernel
theorem dX7_addPlayer_1 : decode cX7_addPlayer 1 = .ok (.getfield 55, 3) := by decide +kernel
theorem dX7_addPlayer_4 : decode cX7_addPlayer 4 = .ok (.bipush 8, 2) := by decide +kernel
theorem dX7_addPlayer_6 : decode cX7_addPlayer 6 = .ok (.if_icmp .lt 6, 3) := by decide +kernel
theorem dX7_addPlayer_9 : decode cX7_addPlayer 9 = .ok (.bipush (-3), 2) := by decide +kernel
theorem dX7_addPlayer_11 : decode cX7_addPlayer 11 = .ok (.ireturn, 1) := by decide +kernel
theorem dX7_addPlayer_12 : decode cX7_addPlayer 12 = .ok (.aload_n 0, 1) := by decide +kernel
theorem dX7_addPlayer_13 : decode cX7_addPlayer 13 = .ok (.getfield 36, 3) := by decide +kernel
theorem dX7_addPlayer_16 : decode cX7_addPlayer 16 = .ok (.aload_n 0, 1) := by decide +kernel
theorem dX7_addPlayer_17 : decode cX7_addPlayer 17 = .ok (.getfield 55, 3) := by decide +kernel
theorem dX7_addPlayer_20 : decode cX7_addPlayer 20 = .ok (.iload_n 1, 1) := by decide +kernel
theorem dX7_addPlayer_21 : decode cX7_addPlayer 21 = .ok (.iastore, 1) := by decide +kernel
theorem dX7_addPlayer_22 : decode cX7_addPlayer 22 = .ok (.aload_n 0, 1) := by decide +kernel
theorem dX7_addPlayer_23 : decode cX7_addPlayer 23 = .ok (.getfield 39, 3) := by decide +kernel
theorem dX7_addPlayer_26 : decode cX7_addPlayer 26 = .ok (.aload_n 0, 1) := by decide +kernel
theorem dX7_addPlayer_27 : decode cX7_addPlayer 27 = .ok (.getfield 55, 3) := by decide +kernel
theorem dX7_addPlayer_30 : decode cX7_addPlayer 30 = .ok (.iload_n 2, 1) := by decide +kernel
theorem dX7_addPlayer_31 : decode cX7_addPlayer 31 = .ok (.iastore, 1) := by decide +kernel
theorem dX7_addPlayer_32 : decode cX7_addPlayer 32 = .ok (.aload_n 0, 1) := by decide +kernel
theorem dX7_addPlayer_33 : decode cX7_addPlayer 33 = .ok (.getfield 42, 3) := by decide +kernel
theorem dX7_addPlayer_36 : decode cX7_addPlayer 36 = .ok (.aload_n 0, 1) := by decide +kernel
theorem dX7_addPlayer_37 : decode cX7_addPlayer 37 = .ok (.getfield 55, 3) := by decide +kernel
theorem dX7_addPlayer_40 : decode cX7_addPlayer 40 = .ok (.iload_n 3, 1) := by decide +kernel
theorem dX7_addPlayer_41 : decode cX7_addPlayer 41 = .ok (.iastore, 1) := by decide +kernel
theorem dX7_addPlayer_42 : decode cX7_addPlayer 42 = .ok (.aload_n 0, 1) := by decide +kernel
theorem dX7_addPlayer_43 : decode cX7_addPlayer 43 = .ok (.getfield 45, 3) := by decide +kernel
theorem dX7_addPlayer_46 : decode cX7_addPlayer 46 = .ok (.aload_n 0, 1) := by decide +kernel
theorem dX7_addPlayer_47 : decode cX7_addPlayer 47 = .ok (.getfield 55, 3) := by decide +kernel
theorem dX7_addPlayer_50 : decode cX7_addPlayer 50 = .ok (.iload 4, 2) := by decide +kernel
theorem dX7_addPlayer_52 : decode cX7_addPlayer 52 = .ok (.iastore, 1) := by decide +kernel
theorem dX7_addPlayer_53 : decode cX7_addPlayer 53 = .ok (.aload_n 0, 1) := by decide +kernel
theorem dX7_addPlayer_54 : decode cX7_addPlayer 54 = .ok (.dup, 1) := by decide +kernel
theorem dX7_addPlayer_55 : decode cX7_addPlayer 55 = .ok (.getfield 55, 3) := by decide +kernel
theorem dX7_addPlayer_58 : decode cX7_addPlayer 58 = .ok (.dup_x1, 1) := by decide +kernel
theorem dX7_addPlayer_59 : decode cX7_addPlayer 59 = .ok (.iconst 1, 1) := by decide +kernel
theorem dX7_addPlayer_60 : decode cX7_addPlayer 60 = .ok (.iadd, 1) := by decide +kernel
theorem dX7_addPlayer_61 : decode cX7_addPlayer 61 = .ok (.putfield 55, 3) := by decide +kernel
theorem dX7_addPlayer_64 : decode cX7_addPlayer 64 = .ok (.ireturn, 1) := by decide +kernel
theorem dX7_takesMend_0 : decode cX7_takesMend 0 = .ok (.iload_n 2, 1) := by decide +kernel
theorem dX7_takesMend_1 : decode cX7_takesMend 1 = .ok (.tableswitch 100 0 2 #[27, 51, 76], 27) := by decide +kernel
theorem dX7_takesMend_28 : decode cX7_takesMend 28 = .ok (.aload_n 0, 1) := by decide +kernel
theorem dX7_takesMend_29 : decode cX7_takesMend 29 = .ok (.iload_n 1, 1) := by decide +kernel
theorem dX7_takesMend_30 : decode cX7_takesMend 30 = .ok (.invokevirtual 66, 3) := by decide +kernel
theorem dX7_takesMend_33 : decode cX7_takesMend 33 = .ok (.ifCond .eq 17, 3) := by decide +kernel
theorem dX7_takesMend_36 : decode cX7_takesMend 36 = .ok (.iload_n 3, 1) := by decide +kernel
theorem dX7_takesMend_37 : decode cX7_takesMend 37 = .ok (.iconst 0, 1) := by decide +kernel
theorem dX7_takesMend_38 : decode cX7_takesMend 38 = .ok (.bipush 99, 2) := by decide +kernel
theorem dX7_takesMend_40 : decode cX7_takesMend 40 = .ok (.invokestatic 62, 3) := by decide +kernel
theorem dX7_takesMend_43 : decode cX7_takesMend 43 = .ok (.ifCond .eq 7, 3) := by decide +kernel
theorem dX7_takesMend_46 : decode cX7_takesMend 46 = .ok (.iconst 1, 1) := by decide +kernel
theorem dX7_takesMend_47 : decode cX7_takesMend 47 = .ok (.goto 4, 3) := by decide +kernel
theorem dX7_takesMend_50 : decode cX7_takesMend 50 = .ok (.iconst 0, 1) := by decide +kernel
theorem dX7_takesMend_51 : decode cX7_takesMend 51 = .ok (.ireturn, 1) := by decide +kernel
theorem dX7_takesMend_52 : decode cX7_takesMend 52 = .ok (.aload_n 0, 1) := by decide +kernel
theorem dX7_takesMend_53 : decode cX7_takesMend 53 = .ok (.iload_n 1, 1) := by decide +kernel
theorem dX7_takesMend_54 : decode cX7_takesMend 54 = .ok (.invokevirtual 66, 3) := by decide +kernel
theorem dX7_takesMend_57 : decode cX7_takesMend 57 = .ok (.ifCond .eq 18, 3) := by decide +kernel
theorem dX7_takesMend_60 : decode cX7_takesMend 60 = .ok (.iload_n 3, 1) := by decide +kernel
theorem dX7_takesMend_61 : decode cX7_takesMend 61 = .ok (.bipush (-99), 2) := by decide +kernel
theorem dX7_takesMend_63 : decode cX7_takesMend 63 = .ok (.bipush 99, 2) := by decide +kernel
theorem dX7_takesMend_65 : decode cX7_takesMend 65 = .ok (.invokestatic 62, 3) := by decide +kernel
theorem dX7_takesMend_68 : decode cX7_takesMend 68 = .ok (.ifCond .eq 7, 3) := by decide +kernel
theorem dX7_takesMend_71 : decode cX7_takesMend 71 = .ok (.iconst 1, 1) := by decide +kernel
theorem dX7_takesMend_72 : decode cX7_takesMend 72 = .ok (.goto 4, 3) := by decide +kernel
theorem dX7_takesMend_75 : decode cX7_takesMend 75 = .ok (.iconst 0, 1) := by decide +kernel
theorem dX7_takesMend_76 : decode cX7_takesMend 76 = .ok (.ireturn, 1) := by decide +kernel
theorem dX7_takesMend_77 : decode cX7_takesMend 77 = .ok (.aload_n 0, 1) := by decide +kernel
theorem dX7_takesMend_78 : decode cX7_takesMend 78 = .ok (.iload_n 1, 1) := by decide +kernel
theorem dX7_takesMend_79 : decode cX7_takesMend 79 = .ok (.invokevirtual 58, 3) := by decide +kernel
theorem dX7_takesMend_82 : decode cX7_takesMend 82 = .ok (.ifCond .eq 17, 3) := by decide +kernel
theorem dX7_takesMend_85 : decode cX7_takesMend 85 = .ok (.iload_n 3, 1) := by decide +kernel
theorem dX7_takesMend_86 : decode cX7_takesMend 86 = .ok (.iconst 0, 1) := by decide +kernel
theorem dX7_takesMend_87 : decode cX7_takesMend 87 = .ok (.bipush 99, 2) := by decide +kernel
theorem dX7_takesMend_89 : decode cX7_takesMend 89 = .ok (.invokestatic 62, 3) := by decide +kernel
theorem dX7_takesMend_92 : decode cX7_takesMend 92 = .ok (.ifCond .eq 7, 3) := by decide +kernel
theorem dX7_takesMend_95 : decode cX7_takesMend 95 = .ok (.iconst 1, 1) := by decide +kernel
theorem dX7_takesMend_96 : decode cX7_takesMend 96 = .ok (.goto 4, 3) := by decide +kernel
theorem dX7_takesMend_99 : decode cX7_takesMend 99 = .ok (.iconst 0, 1) := by decide +kernel
theorem dX7_takesMend_100 : decode cX7_takesMend 100 = .ok (.ireturn, 1) := by decide +kernel
theorem dX7_takesMend_101 : decode cX7_takesMend 101 = .ok (.iconst 0, 1) := by decide +kernel
theorem dX7_takesMend_102 : decode cX7_takesMend 102 = .ok (.ireturn, 1) := by decide +kernel
theorem dX7_told_0 : decode cX7_told 0 = .ok (.iload_n 2, 1) := by decide +kernel
theorem dX7_told_1 : decode cX7_told 1 = .ok (.iconst 2, 1) := by decide +kernel
theorem dX7_told_2 : decode cX7_told 2 = .ok (.if_icmp .ne 9, 3) := by decide +kernel
theorem dX7_told_5 : decode cX7_told 5 = .ok (.aload_n 0, 1) := by decide +kernel
theorem dX7_told_6 : decode cX7_told 6 = .ok (.iload_n 1, 1) := by decide +kernel
theorem dX7_told_7 : decode cX7_told 7 = .ok (.invokevirtual 69, 3) := by decide +kernel
theorem dX7_told_10 : decode cX7_told 10 = .ok (.ireturn, 1) := by decide +kernel
theorem dX7_told_11 : decode cX7_told 11 = .ok (.aload_n 0, 1) := by decide +kernel
theorem dX7_told_12 : decode cX7_told 12 = .ok (.iload_n 1, 1) := by decide +kernel
theorem dX7_told_13 : decode cX7_told 13 = .ok (.invokevirtual 66, 3) := by decide +kernel
theorem dX7_told_16 : decode cX7_told 16 = .ok (.ifCond .ne 5, 3) := by decide +kernel
theorem dX7_told_19 : decode cX7_told 19 = .ok (.iconst 0, 1) := by decide +kernel
theorem dX7_told_20 : decode cX7_told 20 = .ok (.ireturn, 1) := by decide +kernel
theorem dX7_told_21 : decode cX7_told 21 = .ok (.iload_n 2, 1) := by decide +kernel
theorem dX7_told_22 : decode cX7_told 22 = .ok (.ifCond .ne 12, 3) := by decide +kernel
theorem dX7_told_25 : decode cX7_told 25 = .ok (.aload_n 0, 1) := by decide +kernel
theorem dX7_told_26 : decode cX7_told 26 = .ok (.getfield 27, 3) := by decide +kernel
theorem dX7_told_29 : decode cX7_told 29 = .ok (.iload_n 1, 1) := by decide +kernel
theorem dX7_told_30 : decode cX7_told 30 = .ok (.iaload, 1) := by decide +kernel
theorem dX7_told_31 : decode cX7_told 31 = .ok (.goto 9, 3) := by decide +kernel
theorem dX7_told_34 : decode cX7_told 34 = .ok (.aload_n 0, 1) := by decide +kernel
theorem dX7_told_35 : decode cX7_told 35 = .ok (.getfield 30, 3) := by decide +kernel
theorem dX7_told_38 : decode cX7_told 38 = .ok (.iload_n 1, 1) := by decide +kernel
theorem dX7_told_39 : decode cX7_told 39 = .ok (.iaload, 1) := by decide +kernel
theorem dX7_told_40 : decode cX7_told 40 = .ok (.ireturn, 1) := by decide +kernel
theorem dX7_tell_0 : decode cX7_tell 0 = .ok (.iload_n 2, 1) := by decide +kernel
theorem dX7_tell_1 : decode cX7_tell 1 = .ok (.iconst 2, 1) := by decide +kernel
theorem dX7_tell_2 : decode cX7_tell 2 = .ok (.if_icmp .ne 21, 3) := by decide +kernel
theorem dX7_tell_5 : decode cX7_tell 5 = .ok (.aload_n 0, 1) := by decide +kernel
theorem dX7_tell_6 : decode cX7_tell 6 = .ok (.iload_n 1, 1) := by decide +kernel
theorem dX7_tell_7 : decode cX7_tell 7 = .ok (.invokevirtual 58, 3) := by decide +kernel
theorem dX7_tell_10 : decode cX7_tell 10 = .ok (.ifCond .eq 42, 3) := by decide +kernel
theorem dX7_tell_13 : decode cX7_tell 13 = .ok (.aload_n 0, 1) := by decide +kernel
theorem dX7_tell_14 : decode cX7_tell 14 = .ok (.getfield 9, 3) := by decide +kernel
theorem dX7_tell_17 : decode cX7_tell 17 = .ok (.iload_n 1, 1) := by decide +kernel
theorem dX7_tell_18 : decode cX7_tell 18 = .ok (.iload_n 3, 1) := by decide +kernel
theorem dX7_tell_19 : decode cX7_tell 19 = .ok (.iastore, 1) := by decide +kernel
theorem dX7_tell_20 : decode cX7_tell 20 = .ok (.goto 32, 3) := by decide +kernel
theorem dX7_tell_23 : decode cX7_tell 23 = .ok (.aload_n 0, 1) := by decide +kernel
theorem dX7_tell_24 : decode cX7_tell 24 = .ok (.iload_n 1, 1) := by decide +kernel
theorem dX7_tell_25 : decode cX7_tell 25 = .ok (.invokevirtual 66, 3) := by decide +kernel
theorem dX7_tell_28 : decode cX7_tell 28 = .ok (.ifCond .eq 24, 3) := by decide +kernel
theorem dX7_tell_31 : decode cX7_tell 31 = .ok (.iload_n 2, 1) := by decide +kernel
theorem dX7_tell_32 : decode cX7_tell 32 = .ok (.ifCond .ne 13, 3) := by decide +kernel
theorem dX7_tell_35 : decode cX7_tell 35 = .ok (.aload_n 0, 1) := by decide +kernel
theorem dX7_tell_36 : decode cX7_tell 36 = .ok (.getfield 27, 3) := by decide +kernel
theorem dX7_tell_39 : decode cX7_tell 39 = .ok (.iload_n 1, 1) := by decide +kernel
theorem dX7_tell_40 : decode cX7_tell 40 = .ok (.iload_n 3, 1) := by decide +kernel
theorem dX7_tell_41 : decode cX7_tell 41 = .ok (.iastore, 1) := by decide +kernel
theorem dX7_tell_42 : decode cX7_tell 42 = .ok (.goto 10, 3) := by decide +kernel
theorem dX7_tell_45 : decode cX7_tell 45 = .ok (.aload_n 0, 1) := by decide +kernel
theorem dX7_tell_46 : decode cX7_tell 46 = .ok (.getfield 30, 3) := by decide +kernel
theorem dX7_tell_49 : decode cX7_tell 49 = .ok (.iload_n 1, 1) := by decide +kernel
theorem dX7_tell_50 : decode cX7_tell 50 = .ok (.iload_n 3, 1) := by decide +kernel
theorem dX7_tell_51 : decode cX7_tell 51 = .ok (.iastore, 1) := by decide +kernel
theorem dX7_tell_52 : decode cX7_tell 52 = .ok (.return_, 1) := by decide +kernel
theorem dX7_setWay_0 : decode cX7_setWay 0 = .ok (.aload_n 0, 1) := by decide +kernel
theorem dX7_setWay_1 : decode cX7_setWay 1 = .ok (.iload_n 1, 1) := by decide +kernel
theorem dX7_setWay_2 : decode cX7_setWay 2 = .ok (.invokevirtual 58, 3) := by decide +kernel
theorem dX7_setWay_5 : decode cX7_setWay 5 = .ok (.ifCond .ne 4, 3) := by decide +kernel
theorem dX7_setWay_8 : decode cX7_setWay 8 = .ok (.return_, 1) := by decide +kernel
theorem dX7_setWay_9 : decode cX7_setWay 9 = .ok (.aload_n 0, 1) := by decide +kernel
theorem dX7_setWay_10 : decode cX7_setWay 10 = .ok (.getfield 18, 3) := by decide +kernel
theorem dX7_setWay_13 : decode cX7_setWay 13 = .ok (.iload_n 1, 1) := by decide +kernel
theorem dX7_setWay_14 : decode cX7_setWay 14 = .ok (.iload_n 2, 1) := by decide +kernel
theorem dX7_setWay_15 : decode cX7_setWay 15 = .ok (.iastore, 1) := by decide +kernel
theorem dX7_setWay_16 : decode cX7_setWay 16 = .ok (.aload_n 0, 1) := by decide +kernel
theorem dX7_setWay_17 : decode cX7_setWay 17 = .ok (.getfield 21, 3) := by decide +kernel
theorem dX7_setWay_20 : decode cX7_setWay 20 = .ok (.iload_n 1, 1) := by decide +kernel
theorem dX7_setWay_21 : decode cX7_setWay 21 = .ok (.iload_n 3, 1) := by decide +kernel
theorem dX7_setWay_22 : decode cX7_setWay 22 = .ok (.iastore, 1) := by decide +kernel
theorem dX7_setWay_23 : decode cX7_setWay 23 = .ok (.return_, 1) := by decide +kernel
theorem dX7_setPlace_0 : decode cX7_setPlace 0 = .ok (.aload_n 0, 1) := by decide +kernel
theorem dX7_setPlace_1 : decode cX7_setPlace 1 = .ok (.iload_n 1, 1) := by decide +kernel
theorem dX7_setPlace_2 : decode cX7_setPlace 2 = .ok (.invokevirtual 73, 3) := by decide +kernel
theorem dX7_setPlace_5 : decode cX7_setPlace 5 = .ok (.ifCond .eq 10, 3) := by decide +kernel
theorem dX7_setPlace_8 : decode cX7_setPlace 8 = .ok (.aload_n 0, 1) := by decide +kernel
theorem dX7_setPlace_9 : decode cX7_setPlace 9 = .ok (.getfield 45, 3) := by decide +kernel
theorem dX7_setPlace_12 : decode cX7_setPlace 12 = .ok (.iload_n 1, 1) := by decide +kernel
theorem dX7_setPlace_13 : decode cX7_setPlace 13 = .ok (.iload_n 2, 1) := by decide +kernel
theorem dX7_setPlace_14 : decode cX7_setPlace 14 = .ok (.iastore, 1) := by decide +kernel
theorem dX7_setPlace_15 : decode cX7_setPlace 15 = .ok (.return_, 1) := by decide +kernel
theorem dX7_wayAndSum_0 : decode cX7_wayAndSum 0 = .ok (.aload_n 0, 1) := by decide +kernel
theorem dX7_wayAndSum_1 : decode cX7_wayAndSum 1 = .ok (.iload_n 1, 1) := by decide +kernel
theorem dX7_wayAndSum_2 : decode cX7_wayAndSum 2 = .ok (.invokevirtual 58, 3) := by decide +kernel
theorem dX7_wayAndSum_5 : decode cX7_wayAndSum 5 = .ok (.ifCond .eq 22, 3) := by decide +kernel
theorem dX7_wayAndSum_8 : decode cX7_wayAndSum 8 = .ok (.bipush 100, 2) := by decide +kernel
theorem dX7_wayAndSum_10 : decode cX7_wayAndSum 10 = .ok (.aload_n 0, 1) := by decide +kernel
theorem dX7_wayAndSum_11 : decode cX7_wayAndSum 11 = .ok (.getfield 18, 3) := by decide +kernel
theorem dX7_wayAndSum_14 : decode cX7_wayAndSum 14 = .ok (.iload_n 1, 1) := by decide +kernel
theorem dX7_wayAndSum_15 : decode cX7_wayAndSum 15 = .ok (.iaload, 1) := by decide +kernel
theorem dX7_wayAndSum_16 : decode cX7_wayAndSum 16 = .ok (.imul, 1) := by decide +kernel
theorem dX7_wayAndSum_17 : decode cX7_wayAndSum 17 = .ok (.aload_n 0, 1) := by decide +kernel
theorem dX7_wayAndSum_18 : decode cX7_wayAndSum 18 = .ok (.getfield 21, 3) := by decide +kernel
theorem dX7_wayAndSum_21 : decode cX7_wayAndSum 21 = .ok (.iload_n 1, 1) := by decide +kernel
theorem dX7_wayAndSum_22 : decode cX7_wayAndSum 22 = .ok (.iaload, 1) := by decide +kernel
theorem dX7_wayAndSum_23 : decode cX7_wayAndSum 23 = .ok (.iadd, 1) := by decide +kernel
theorem dX7_wayAndSum_24 : decode cX7_wayAndSum 24 = .ok (.goto 4, 3) := by decide +kernel
theorem dX7_wayAndSum_27 : decode cX7_wayAndSum 27 = .ok (.iconst 0, 1) := by decide +kernel
theorem dX7_wayAndSum_28 : decode cX7_wayAndSum 28 = .ok (.ireturn, 1) := by decide +kernel
theorem dX7_take_0 : decode cX7_take 0 = .ok (.aload_n 0, 1) := by decide +kernel
theorem dX7_take_1 : decode cX7_take 1 = .ok (.iload_n 1, 1) := by decide +kernel
theorem dX7_take_2 : decode cX7_take 2 = .ok (.invokevirtual 58, 3) := by decide +kernel
theorem dX7_take_5 : decode cX7_take 5 = .ok (.ifCond .eq 12, 3) := by decide +kernel
theorem dX7_take_8 : decode cX7_take 8 = .ok (.aload_n 0, 1) := by decide +kernel
theorem dX7_take_9 : decode cX7_take 9 = .ok (.getfield 9, 3) := by decide +kernel
theorem dX7_take_12 : decode cX7_take 12 = .ok (.iload_n 1, 1) := by decide +kernel
theorem dX7_take_13 : decode cX7_take 13 = .ok (.iaload, 1) := by decide +kernel
theorem dX7_take_14 : decode cX7_take 14 = .ok (.goto 4, 3) := by decide +kernel
theorem dX7_take_17 : decode cX7_take 17 = .ok (.iconst 0, 1) := by decide +kernel
theorem dX7_take_18 : decode cX7_take 18 = .ok (.ireturn, 1) := by decide +kernel
theorem dX7_lawOfQuiet_0 : decode cX7_lawOfQuiet 0 = .ok (.aload_n 0, 1) := by decide +kernel
theorem dX7_lawOfQuiet_1 : decode cX7_lawOfQuiet 1 = .ok (.iload_n 1, 1) := by decide +kernel
theorem dX7_lawOfQuiet_2 : decode cX7_lawOfQuiet 2 = .ok (.invokevirtual 58, 3) := by decide +kernel
theorem dX7_lawOfQuiet_5 : decode cX7_lawOfQuiet 5 = .ok (.ifCond .eq 12, 3) := by decide +kernel
theorem dX7_lawOfQuiet_8 : decode cX7_lawOfQuiet 8 = .ok (.aload_n 0, 1) := by decide +kernel
theorem dX7_lawOfQuiet_9 : decode cX7_lawOfQuiet 9 = .ok (.getfield 15, 3) := by decide +kernel
theorem dX7_lawOfQuiet_12 : decode cX7_lawOfQuiet 12 = .ok (.iload_n 1, 1) := by decide +kernel
theorem dX7_lawOfQuiet_13 : decode cX7_lawOfQuiet 13 = .ok (.iaload, 1) := by decide +kernel
theorem dX7_lawOfQuiet_14 : decode cX7_lawOfQuiet 14 = .ok (.goto 4, 3) := by decide +kernel
theorem dX7_lawOfQuiet_17 : decode cX7_lawOfQuiet 17 = .ok (.iconst 0, 1) := by decide +kernel
theorem dX7_lawOfQuiet_18 : decode cX7_lawOfQuiet 18 = .ok (.ireturn, 1) := by decide +kernel
theorem dX7_goodOf_0 : decode cX7_goodOf 0 = .ok (.aload_n 0, 1) := by decide +kernel
theorem dX7_goodOf_1 : decode cX7_goodOf 1 = .ok (.iload_n 1, 1) := by decide +kernel
theorem dX7_goodOf_2 : decode cX7_goodOf 2 = .ok (.invokevirtual 73, 3) := by decide +kernel
theorem dX7_goodOf_5 : decode cX7_goodOf 5 = .ok (.ifCond .eq 12, 3) := by decide +kernel
theorem dX7_goodOf_8 : decode cX7_goodOf 8 = .ok (.aload_n 0, 1) := by decide +kernel
theorem dX7_goodOf_9 : decode cX7_goodOf 9 = .ok (.getfield 36, 3) := by decide +kernel
theorem dX7_goodOf_12 : decode cX7_goodOf 12 = .ok (.iload_n 1, 1) := by decide +kernel
theorem dX7_goodOf_13 : decode cX7_goodOf 13 = .ok (.iaload, 1) := by decide +kernel
theorem dX7_goodOf_14 : decode cX7_goodOf 14 = .ok (.goto 4, 3) := by decide +kernel
theorem dX7_goodOf_17 : decode cX7_goodOf 17 = .ok (.iconst 0, 1) := by decide +kernel
theorem dX7_goodOf_18 : decode cX7_goodOf 18 = .ok (.ireturn, 1) := by decide +kernel
theorem dX7_cost_0 : decode cX7_cost 0 = .ok (.aload_n 0, 1) := by decide +kernel
theorem dX7_cost_1 : decode cX7_cost 1 = .ok (.iload_n 1, 1) := by decide +kernel
theorem dX7_cost_2 : decode cX7_cost 2 = .ok (.invokevirtual 73, 3) := by decide +kernel
theorem dX7_cost_5 : decode cX7_cost 5 = .ok (.ifCond .eq 12, 3) := by decide +kernel
theorem dX7_cost_8 : decode cX7_cost 8 = .ok (.aload_n 0, 1) := by decide +kernel
theorem dX7_cost_9 : decode cX7_cost 9 = .ok (.getfield 39, 3) := by decide +kernel
theorem dX7_cost_12 : decode cX7_cost 12 = .ok (.iload_n 1, 1) := by decide +kernel
theorem dX7_cost_13 : decode cX7_cost 13 = .ok (.iaload, 1) := by decide +kernel
theorem dX7_cost_14 : decode cX7_cost 14 = .ok (.goto 4, 3) := by decide +kernel
theorem dX7_cost_17 : decode cX7_cost 17 = .ok (.iconst 0, 1) := by decide +kernel
theorem dX7_cost_18 : decode cX7_cost 18 = .ok (.ireturn, 1) := by decide +kernel
theorem dX7_hearing_0 : decode cX7_hearing 0 = .ok (.aload_n 0, 1) := by decide +kernel
theorem dX7_hearing_1 : decode cX7_hearing 1 = .ok (.iload_n 1, 1) := by decide +kernel
theorem dX7_hearing_2 : decode cX7_hearing 2 = .ok (.invokevirtual 73, 3) := by decide +kernel
theorem dX7_hearing_5 : decode cX7_hearing 5 = .ok (.ifCond .eq 12, 3) := by decide +kernel
theorem dX7_hearing_8 : decode cX7_hearing 8 = .ok (.aload_n 0, 1) := by decide +kernel
theorem dX7_hearing_9 : decode cX7_hearing 9 = .ok (.getfield 42, 3) := by decide +kernel
theorem dX7_hearing_12 : decode cX7_hearing 12 = .ok (.iload_n 1, 1) := by decide +kernel
theorem dX7_hearing_13 : decode cX7_hearing 13 = .ok (.iaload, 1) := by decide +kernel
theorem dX7_hearing_14 : decode cX7_hearing 14 = .ok (.goto 4, 3) := by decide +kernel
theorem dX7_hearing_17 : decode cX7_hearing 17 = .ok (.iconst 0, 1) := by decide +kernel
theorem dX7_hearing_18 : decode cX7_hearing 18 = .ok (.ireturn, 1) := by decide +kernel
theorem dX7_place_0 : decode cX7_place 0 = .ok (.aload_n 0, 1) := by decide +kernel
theorem dX7_place_1 : decode cX7_place 1 = .ok (.iload_n 1, 1) := by decide +kernel
theorem dX7_place_2 : decode cX7_place 2 = .ok (.invokevirtual 73, 3) := by decide +kernel
theorem dX7_place_5 : decode cX7_place 5 = .ok (.ifCond .eq 12, 3) := by decide +kernel
theorem dX7_place_8 : decode cX7_place 8 = .ok (.aload_n 0, 1) := by decide +kernel
theorem dX7_place_9 : decode cX7_place 9 = .ok (.getfield 45, 3) := by decide +kernel
theorem dX7_place_12 : decode cX7_place 12 = .ok (.iload_n 1, 1) := by decide +kernel
theorem dX7_place_13 : decode cX7_place 13 = .ok (.iaload, 1) := by decide +kernel
theorem dX7_place_14 : decode cX7_place 14 = .ok (.goto 4, 3) := by decide +kernel
theorem dX7_place_17 : decode cX7_place 17 = .ok (.iconst (-1), 1) := by decide +kernel
theorem dX7_place_18 : decode cX7_place 18 = .ok (.ireturn, 1) := by decide +kernel
theorem dX7_purse_0 : decode cX7_purse 0 = .ok (.aload_n 0, 1) := by decide +kernel
theorem dX7_purse_1 : decode cX7_purse 1 = .ok (.iload_n 1, 1) := by decide +kernel
theorem dX7_purse_2 : decode cX7_purse 2 = .ok (.invokevirtual 66, 3) := by decide +kernel
theorem dX7_purse_5 : decode cX7_purse 5 = .ok (.ifCond .eq 12, 3) := by decide +kernel
theorem dX7_purse_8 : decode cX7_purse 8 = .ok (.aload_n 0, 1) := by decide +kernel
theorem dX7_purse_9 : decode cX7_purse 9 = .ok (.getfield 33, 3) := by decide +kernel
theorem dX7_purse_12 : decode cX7_purse 12 = .ok (.iload_n 1, 1) := by decide +kernel
theorem dX7_purse_13 : decode cX7_purse 13 = .ok (.iaload, 1) := by decide +kernel
theorem dX7_purse_14 : decode cX7_purse 14 = .ok (.goto 4, 3) := by decide +kernel
theorem dX7_purse_17 : decode cX7_purse 17 = .ok (.iconst 0, 1) := by decide +kernel
theorem dX7_purse_18 : decode cX7_purse 18 = .ok (.ireturn, 1) := by decide +kernel
theorem dX7_ofPlayer_0 : decode cX7_ofPlayer 0 = .ok (.aload_n 0, 1) := by decide +kernel
theorem dX7_ofPlayer_1 : decode cX7_ofPlayer 1 = .ok (.iload_n 1, 1) := by decide +kernel
theorem dX7_ofPlayer_2 : decode cX7_ofPlayer 2 = .ok (.invokevirtual 73, 3) := by decide +kernel
theorem dX7_ofPlayer_5 : decode cX7_ofPlayer 5 = .ok (.ifCond .ne 6, 3) := by decide +kernel
theorem dX7_ofPlayer_8 : decode cX7_ofPlayer 8 = .ok (.ldc 76, 2) := by decide +kernel
theorem dX7_ofPlayer_10 : decode cX7_ofPlayer 10 = .ok (.ireturn, 1) := by decide +kernel
theorem dX7_ofPlayer_11 : decode cX7_ofPlayer 11 = .ok (.iload_n 2, 1) := by decide +kernel
theorem dX7_ofPlayer_12 : decode cX7_ofPlayer 12 = .ok (.tableswitch 49 0 2 #[28, 35, 42], 28) := by decide +kernel
theorem dX7_ofPlayer_40 : decode cX7_ofPlayer 40 = .ok (.aload_n 0, 1) := by decide +kernel
theorem dX7_ofPlayer_41 : decode cX7_ofPlayer 41 = .ok (.getfield 36, 3) := by decide +kernel
theorem dX7_ofPlayer_44 : decode cX7_ofPlayer 44 = .ok (.iload_n 1, 1) := by decide +kernel
theorem dX7_ofPlayer_45 : decode cX7_ofPlayer 45 = .ok (.iaload, 1) := by decide +kernel
theorem dX7_ofPlayer_46 : decode cX7_ofPlayer 46 = .ok (.ireturn, 1) := by decide +kernel
theorem dX7_ofPlayer_47 : decode cX7_ofPlayer 47 = .ok (.aload_n 0, 1) := by decide +kernel
theorem dX7_ofPlayer_48 : decode cX7_ofPlayer 48 = .ok (.getfield 39, 3) := by decide +kernel
theorem dX7_ofPlayer_51 : decode cX7_ofPlayer 51 = .ok (.iload_n 1, 1) := by decide +kernel
theorem dX7_ofPlayer_52 : decode cX7_ofPlayer 52 = .ok (.iaload, 1) := by decide +kernel
theorem dX7_ofPlayer_53 : decode cX7_ofPlayer 53 = .ok (.ireturn, 1) := by decide +kernel
theorem dX7_ofPlayer_54 : decode cX7_ofPlayer 54 = .ok (.aload_n 0, 1) := by decide +kernel
theorem dX7_ofPlayer_55 : decode cX7_ofPlayer 55 = .ok (.getfield 42, 3) := by decide +kernel
theorem dX7_ofPlayer_58 : decode cX7_ofPlayer 58 = .ok (.iload_n 1, 1) := by decide +kernel
theorem dX7_ofPlayer_59 : decode cX7_ofPlayer 59 = .ok (.iaload, 1) := by decide +kernel
theorem dX7_ofPlayer_60 : decode cX7_ofPlayer 60 = .ok (.ireturn, 1) := by decide +kernel
theorem dX7_ofPlayer_61 : decode cX7_ofPlayer 61 = .ok (.aload_n 0, 1) := by decide +kernel
theorem dX7_ofPlayer_62 : decode cX7_ofPlayer 62 = .ok (.getfield 45, 3) := by decide +kernel
theorem dX7_ofPlayer_65 : decode cX7_ofPlayer 65 = .ok (.iload_n 1, 1) := by decide +kernel
theorem dX7_ofPlayer_66 : decode cX7_ofPlayer 66 = .ok (.iaload, 1) := by decide +kernel
theorem dX7_ofPlayer_67 : decode cX7_ofPlayer 67 = .ok (.ireturn, 1) := by decide +kernel
theorem dX7_ofWindow_0 : decode cX7_ofWindow 0 = .ok (.aload_n 0, 1) := by decide +kernel
theorem dX7_ofWindow_1 : decode cX7_ofWindow 1 = .ok (.iload_n 1, 1) := by decide +kernel
theorem dX7_ofWindow_2 : decode cX7_ofWindow 2 = .ok (.invokevirtual 66, 3) := by decide +kernel
theorem dX7_ofWindow_5 : decode cX7_ofWindow 5 = .ok (.ifCond .ne 6, 3) := by decide +kernel
theorem dX7_ofWindow_8 : decode cX7_ofWindow 8 = .ok (.ldc 76, 2) := by decide +kernel
theorem dX7_ofWindow_10 : decode cX7_ofWindow 10 = .ok (.ireturn, 1) := by decide +kernel
theorem dX7_ofWindow_11 : decode cX7_ofWindow 11 = .ok (.iload_n 2, 1) := by decide +kernel
theorem dX7_ofWindow_12 : decode cX7_ofWindow 12 = .ok (.tableswitch 49 0 2 #[28, 35, 42], 28) := by decide +kernel
theorem dX7_ofWindow_40 : decode cX7_ofWindow 40 = .ok (.aload_n 0, 1) := by decide +kernel
theorem dX7_ofWindow_41 : decode cX7_ofWindow 41 = .ok (.getfield 24, 3) := by decide +kernel
theorem dX7_ofWindow_44 : decode cX7_ofWindow 44 = .ok (.iload_n 1, 1) := by decide +kernel
theorem dX7_ofWindow_45 : decode cX7_ofWindow 45 = .ok (.iaload, 1) := by decide +kernel
theorem dX7_ofWindow_46 : decode cX7_ofWindow 46 = .ok (.ireturn, 1) := by decide +kernel
theorem dX7_ofWindow_47 : decode cX7_ofWindow 47 = .ok (.aload_n 0, 1) := by decide +kernel
theorem dX7_ofWindow_48 : decode cX7_ofWindow 48 = .ok (.getfield 27, 3) := by decide +kernel
theorem dX7_ofWindow_51 : decode cX7_ofWindow 51 = .ok (.iload_n 1, 1) := by decide +kernel
theorem dX7_ofWindow_52 : decode cX7_ofWindow 52 = .ok (.iaload, 1) := by decide +kernel
theorem dX7_ofWindow_53 : decode cX7_ofWindow 53 = .ok (.ireturn, 1) := by decide +kernel
theorem dX7_ofWindow_54 : decode cX7_ofWindow 54 = .ok (.aload_n 0, 1) := by decide +kernel
theorem dX7_ofWindow_55 : decode cX7_ofWindow 55 = .ok (.getfield 30, 3) := by decide +kernel
theorem dX7_ofWindow_58 : decode cX7_ofWindow 58 = .ok (.iload_n 1, 1) := by decide +kernel
theorem dX7_ofWindow_59 : decode cX7_ofWindow 59 = .ok (.iaload, 1) := by decide +kernel
theorem dX7_ofWindow_60 : decode cX7_ofWindow 60 = .ok (.ireturn, 1) := by decide +kernel
theorem dX7_ofWindow_61 : decode cX7_ofWindow 61 = .ok (.aload_n 0, 1) := by decide +kernel
theorem dX7_ofWindow_62 : decode cX7_ofWindow 62 = .ok (.getfield 33, 3) := by decide +kernel
theorem dX7_ofWindow_65 : decode cX7_ofWindow 65 = .ok (.iload_n 1, 1) := by decide +kernel
theorem dX7_ofWindow_66 : decode cX7_ofWindow 66 = .ok (.iaload, 1) := by decide +kernel
theorem dX7_ofWindow_67 : decode cX7_ofWindow 67 = .ok (.ireturn, 1) := by decide +kernel
theorem dX7_ofStreet_0 : decode cX7_ofStreet 0 = .ok (.aload_n 0, 1) := by decide +kernel
theorem dX7_ofStreet_1 : decode cX7_ofStreet 1 = .ok (.iload_n 1, 1) := by decide +kernel
theorem dX7_ofStreet_2 : decode cX7_ofStreet 2 = .ok (.invokevirtual 58, 3) := by decide +kernel
theorem dX7_ofStreet_5 : decode cX7_ofStreet 5 = .ok (.ifCond .ne 6, 3) := by decide +kernel
theorem dX7_ofStreet_8 : decode cX7_ofStreet 8 = .ok (.ldc 76, 2) := by decide +kernel
theorem dX7_ofStreet_10 : decode cX7_ofStreet 10 = .ok (.ireturn, 1) := by decide +kernel
theorem dX7_ofStreet_11 : decode cX7_ofStreet 11 = .ok (.iload_n 2, 1) := by decide +kernel
theorem dX7_ofStreet_12 : decode cX7_ofStreet 12 = .ok (.tableswitch 48 0 2 #[28, 35, 42], 28) := by decide +kernel
theorem dX7_ofStreet_40 : decode cX7_ofStreet 40 = .ok (.aload_n 0, 1) := by decide +kernel
theorem dX7_ofStreet_41 : decode cX7_ofStreet 41 = .ok (.getfield 9, 3) := by decide +kernel
theorem dX7_ofStreet_44 : decode cX7_ofStreet 44 = .ok (.iload_n 1, 1) := by decide +kernel
theorem dX7_ofStreet_45 : decode cX7_ofStreet 45 = .ok (.iaload, 1) := by decide +kernel
theorem dX7_ofStreet_46 : decode cX7_ofStreet 46 = .ok (.ireturn, 1) := by decide +kernel
theorem dX7_ofStreet_47 : decode cX7_ofStreet 47 = .ok (.aload_n 0, 1) := by decide +kernel
theorem dX7_ofStreet_48 : decode cX7_ofStreet 48 = .ok (.getfield 15, 3) := by decide +kernel
theorem dX7_ofStreet_51 : decode cX7_ofStreet 51 = .ok (.iload_n 1, 1) := by decide +kernel
theorem dX7_ofStreet_52 : decode cX7_ofStreet 52 = .ok (.iaload, 1) := by decide +kernel
theorem dX7_ofStreet_53 : decode cX7_ofStreet 53 = .ok (.ireturn, 1) := by decide +kernel
theorem dX7_ofStreet_54 : decode cX7_ofStreet 54 = .ok (.aload_n 0, 1) := by decide +kernel
theorem dX7_ofStreet_55 : decode cX7_ofStreet 55 = .ok (.iload_n 1, 1) := by decide +kernel
theorem dX7_ofStreet_56 : decode cX7_ofStreet 56 = .ok (.invokevirtual 77, 3) := by decide +kernel
theorem dX7_ofStreet_59 : decode cX7_ofStreet 59 = .ok (.ireturn, 1) := by decide +kernel
theorem dX7_ofStreet_60 : decode cX7_ofStreet 60 = .ok (.aload_n 0, 1) := by decide +kernel
theorem dX7_ofStreet_61 : decode cX7_ofStreet 61 = .ok (.iload_n 1, 1) := by decide +kernel
theorem dX7_ofStreet_62 : decode cX7_ofStreet 62 = .ok (.invokevirtual 80, 3) := by decide +kernel
theorem dX7_ofStreet_65 : decode cX7_ofStreet 65 = .ok (.ireturn, 1) := by decide +kernel
theorem dX7_windowsOf_0 : decode cX7_windowsOf 0 = .ok (.iconst 0, 1) := by decide +kernel
theorem dX7_windowsOf_1 : decode cX7_windowsOf 1 = .ok (.istore_n 2, 1) := by decide +kernel
theorem dX7_windowsOf_2 : decode cX7_windowsOf 2 = .ok (.iconst 0, 1) := by decide +kernel
theorem dX7_windowsOf_3 : decode cX7_windowsOf 3 = .ok (.istore_n 3, 1) := by decide +kernel
theorem dX7_windowsOf_4 : decode cX7_windowsOf 4 = .ok (.iload_n 3, 1) := by decide +kernel
theorem dX7_windowsOf_5 : decode cX7_windowsOf 5 = .ok (.aload_n 0, 1) := by decide +kernel
theorem dX7_windowsOf_6 : decode cX7_windowsOf 6 = .ok (.getfield 52, 3) := by decide +kernel
theorem dX7_windowsOf_9 : decode cX7_windowsOf 9 = .ok (.if_icmp .ge 21, 3) := by decide +kernel
theorem dX7_windowsOf_12 : decode cX7_windowsOf 12 = .ok (.aload_n 0, 1) := by decide +kernel
theorem dX7_windowsOf_13 : decode cX7_windowsOf 13 = .ok (.iload_n 3, 1) := by decide +kernel
theorem dX7_windowsOf_14 : decode cX7_windowsOf 14 = .ok (.iload_n 1, 1) := by decide +kernel
theorem dX7_windowsOf_15 : decode cX7_windowsOf 15 = .ok (.invokevirtual 83, 3) := by decide +kernel
theorem dX7_windowsOf_18 : decode cX7_windowsOf 18 = .ok (.ifCond .eq 6, 3) := by decide +kernel
theorem dX7_windowsOf_21 : decode cX7_windowsOf 21 = .ok (.iinc 2 1, 3) := by decide +kernel
theorem dX7_windowsOf_24 : decode cX7_windowsOf 24 = .ok (.iinc 3 1, 3) := by decide +kernel
theorem dX7_windowsOf_27 : decode cX7_windowsOf 27 = .ok (.goto (-23), 3) := by decide +kernel
theorem dX7_windowsOf_30 : decode cX7_windowsOf 30 = .ok (.iload_n 2, 1) := by decide +kernel
theorem dX7_windowsOf_31 : decode cX7_windowsOf 31 = .ok (.ireturn, 1) := by decide +kernel
theorem dX7_isOf_0 : decode cX7_isOf 0 = .ok (.aload_n 0, 1) := by decide +kernel
theorem dX7_isOf_1 : decode cX7_isOf 1 = .ok (.iload_n 1, 1) := by decide +kernel
theorem dX7_isOf_2 : decode cX7_isOf 2 = .ok (.invokevirtual 66, 3) := by decide +kernel
theorem dX7_isOf_5 : decode cX7_isOf 5 = .ok (.ifCond .eq 17, 3) := by decide +kernel
theorem dX7_isOf_8 : decode cX7_isOf 8 = .ok (.aload_n 0, 1) := by decide +kernel
theorem dX7_isOf_9 : decode cX7_isOf 9 = .ok (.getfield 24, 3) := by decide +kernel
theorem dX7_isOf_12 : decode cX7_isOf 12 = .ok (.iload_n 1, 1) := by decide +kernel
theorem dX7_isOf_13 : decode cX7_isOf 13 = .ok (.iaload, 1) := by decide +kernel
theorem dX7_isOf_14 : decode cX7_isOf 14 = .ok (.iload_n 2, 1) := by decide +kernel
theorem dX7_isOf_15 : decode cX7_isOf 15 = .ok (.if_icmp .ne 7, 3) := by decide +kernel
theorem dX7_isOf_18 : decode cX7_isOf 18 = .ok (.iconst 1, 1) := by decide +kernel
theorem dX7_isOf_19 : decode cX7_isOf 19 = .ok (.goto 4, 3) := by decide +kernel
theorem dX7_isOf_22 : decode cX7_isOf 22 = .ok (.iconst 0, 1) := by decide +kernel
theorem dX7_isOf_23 : decode cX7_isOf 23 = .ok (.ireturn, 1) := by decide +kernel
theorem dX7_harmTo_0 : decode cX7_harmTo 0 = .ok (.aload_n 0, 1) := by decide +kernel
theorem dX7_harmTo_1 : decode cX7_harmTo 1 = .ok (.iload_n 1, 1) := by decide +kernel
theorem dX7_harmTo_2 : decode cX7_harmTo 2 = .ok (.invokevirtual 66, 3) := by decide +kernel
theorem dX7_harmTo_5 : decode cX7_harmTo 5 = .ok (.ifCond .ne 5, 3) := by decide +kernel
theorem dX7_harmTo_8 : decode cX7_harmTo 8 = .ok (.iconst 0, 1) := by decide +kernel
theorem dX7_harmTo_9 : decode cX7_harmTo 9 = .ok (.ireturn, 1) := by decide +kernel
theorem dX7_harmTo_10 : decode cX7_harmTo 10 = .ok (.aload_n 0, 1) := by decide +kernel
theorem dX7_harmTo_11 : decode cX7_harmTo 11 = .ok (.getfield 27, 3) := by decide +kernel
theorem dX7_harmTo_14 : decode cX7_harmTo 14 = .ok (.iload_n 1, 1) := by decide +kernel
theorem dX7_harmTo_15 : decode cX7_harmTo 15 = .ok (.iaload, 1) := by decide +kernel
theorem dX7_harmTo_16 : decode cX7_harmTo 16 = .ok (.aload_n 0, 1) := by decide +kernel
theorem dX7_harmTo_17 : decode cX7_harmTo 17 = .ok (.getfield 30, 3) := by decide +kernel
theorem dX7_harmTo_20 : decode cX7_harmTo 20 = .ok (.iload_n 1, 1) := by decide +kernel
theorem dX7_harmTo_21 : decode cX7_harmTo 21 = .ok (.iaload, 1) := by decide +kernel
theorem dX7_harmTo_22 : decode cX7_harmTo 22 = .ok (.iload_n 2, 1) := by decide +kernel
theorem dX7_harmTo_23 : decode cX7_harmTo 23 = .ok (.imul, 1) := by decide +kernel
theorem dX7_harmTo_24 : decode cX7_harmTo 24 = .ok (.bipush 10, 2) := by decide +kernel
theorem dX7_harmTo_26 : decode cX7_harmTo 26 = .ok (.idiv, 1) := by decide +kernel
theorem dX7_harmTo_27 : decode cX7_harmTo 27 = .ok (.isub, 1) := by decide +kernel
theorem dX7_harmTo_28 : decode cX7_harmTo 28 = .ok (.ireturn, 1) := by decide +kernel
theorem dX7_isHarmed_0 : decode cX7_isHarmed 0 = .ok (.aload_n 0, 1) := by decide +kernel
theorem dX7_isHarmed_1 : decode cX7_isHarmed 1 = .ok (.iload_n 1, 1) := by decide +kernel
theorem dX7_isHarmed_2 : decode cX7_isHarmed 2 = .ok (.iload_n 2, 1) := by decide +kernel
theorem dX7_isHarmed_3 : decode cX7_isHarmed 3 = .ok (.invokevirtual 83, 3) := by decide +kernel
theorem dX7_isHarmed_6 : decode cX7_isHarmed 6 = .ok (.ifCond .eq 16, 3) := by decide +kernel
theorem dX7_isHarmed_9 : decode cX7_isHarmed 9 = .ok (.aload_n 0, 1) := by decide +kernel
theorem dX7_isHarmed_10 : decode cX7_isHarmed 10 = .ok (.iload_n 1, 1) := by decide +kernel
theorem dX7_isHarmed_11 : decode cX7_isHarmed 11 = .ok (.iload_n 3, 1) := by decide +kernel
theorem dX7_isHarmed_12 : decode cX7_isHarmed 12 = .ok (.invokevirtual 87, 3) := by decide +kernel
theorem dX7_isHarmed_15 : decode cX7_isHarmed 15 = .ok (.ifCond .le 7, 3) := by decide +kernel

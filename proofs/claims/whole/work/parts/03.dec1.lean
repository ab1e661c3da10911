theorem dX7_isHarmed_18 : decode cX7_isHarmed 18 = .ok (.iconst 1, 1) := by decide +kernel
theorem dX7_isHarmed_19 : decode cX7_isHarmed 19 = .ok (.goto 4, 3) := by decide +kernel
theorem dX7_isHarmed_22 : decode cX7_isHarmed 22 = .ok (.iconst 0, 1) := by decide +kernel
theorem dX7_isHarmed_23 : decode cX7_isHarmed 23 = .ok (.ireturn, 1) := by decide +kernel
theorem dX7_harmOfStreet_0 : decode cX7_harmOfStreet 0 = .ok (.iconst 0, 1) := by decide +kernel
theorem dX7_harmOfStreet_1 : decode cX7_harmOfStreet 1 = .ok (.istore_n 3, 1) := by decide +kernel
theorem dX7_harmOfStreet_2 : decode cX7_harmOfStreet 2 = .ok (.iconst 0, 1) := by decide +kernel
theorem dX7_harmOfStreet_3 : decode cX7_harmOfStreet 3 = .ok (.istore 4, 2) := by decide +kernel
theorem dX7_harmOfStreet_5 : decode cX7_harmOfStreet 5 = .ok (.iload 4, 2) := by decide +kernel
theorem dX7_harmOfStreet_7 : decode cX7_harmOfStreet 7 = .ok (.aload_n 0, 1) := by decide +kernel
theorem dX7_harmOfStreet_8 : decode cX7_harmOfStreet 8 = .ok (.getfield 52, 3) := by decide +kernel
theorem dX7_harmOfStreet_11 : decode cX7_harmOfStreet 11 = .ok (.if_icmp .ge 29, 3) := by decide +kernel
theorem dX7_harmOfStreet_14 : decode cX7_harmOfStreet 14 = .ok (.aload_n 0, 1) := by decide +kernel
theorem dX7_harmOfStreet_15 : decode cX7_harmOfStreet 15 = .ok (.iload 4, 2) := by decide +kernel
theorem dX7_harmOfStreet_17 : decode cX7_harmOfStreet 17 = .ok (.iload_n 1, 1) := by decide +kernel
theorem dX7_harmOfStreet_18 : decode cX7_harmOfStreet 18 = .ok (.invokevirtual 83, 3) := by decide +kernel
theorem dX7_harmOfStreet_21 : decode cX7_harmOfStreet 21 = .ok (.ifCond .eq 13, 3) := by decide +kernel
theorem dX7_harmOfStreet_24 : decode cX7_harmOfStreet 24 = .ok (.iload_n 3, 1) := by decide +kernel
theorem dX7_harmOfStreet_25 : decode cX7_harmOfStreet 25 = .ok (.aload_n 0, 1) := by decide +kernel
theorem dX7_harmOfStreet_26 : decode cX7_harmOfStreet 26 = .ok (.iload 4, 2) := by decide +kernel
theorem dX7_harmOfStreet_28 : decode cX7_harmOfStreet 28 = .ok (.iload_n 2, 1) := by decide +kernel
theorem dX7_harmOfStreet_29 : decode cX7_harmOfStreet 29 = .ok (.invokevirtual 87, 3) := by decide +kernel
theorem dX7_harmOfStreet_32 : decode cX7_harmOfStreet 32 = .ok (.iadd, 1) := by decide +kernel
theorem dX7_harmOfStreet_33 : decode cX7_harmOfStreet 33 = .ok (.istore_n 3, 1) := by decide +kernel
theorem dX7_harmOfStreet_34 : decode cX7_harmOfStreet 34 = .ok (.iinc 4 1, 3) := by decide +kernel
theorem dX7_harmOfStreet_37 : decode cX7_harmOfStreet 37 = .ok (.goto (-32), 3) := by decide +kernel
theorem dX7_harmOfStreet_40 : decode cX7_harmOfStreet 40 = .ok (.iload_n 3, 1) := by decide +kernel
theorem dX7_harmOfStreet_41 : decode cX7_harmOfStreet 41 = .ok (.ireturn, 1) := by decide +kernel
theorem dX7_most_0 : decode cX7_most 0 = .ok (.iconst 0, 1) := by decide +kernel
theorem dX7_most_1 : decode cX7_most 1 = .ok (.istore_n 3, 1) := by decide +kernel
theorem dX7_most_2 : decode cX7_most 2 = .ok (.iconst 0, 1) := by decide +kernel
theorem dX7_most_3 : decode cX7_most 3 = .ok (.istore 4, 2) := by decide +kernel
theorem dX7_most_5 : decode cX7_most 5 = .ok (.iload 4, 2) := by decide +kernel
theorem dX7_most_7 : decode cX7_most 7 = .ok (.aload_n 0, 1) := by decide +kernel
theorem dX7_most_8 : decode cX7_most 8 = .ok (.getfield 52, 3) := by decide +kernel
theorem dX7_most_11 : decode cX7_most 11 = .ok (.if_icmp .ge 30, 3) := by decide +kernel
theorem dX7_most_14 : decode cX7_most 14 = .ok (.aload_n 0, 1) := by decide +kernel
theorem dX7_most_15 : decode cX7_most 15 = .ok (.iload 4, 2) := by decide +kernel
theorem dX7_most_17 : decode cX7_most 17 = .ok (.iload_n 1, 1) := by decide +kernel
theorem dX7_most_18 : decode cX7_most 18 = .ok (.iload_n 2, 1) := by decide +kernel
theorem dX7_most_19 : decode cX7_most 19 = .ok (.invokevirtual 91, 3) := by decide +kernel
theorem dX7_most_22 : decode cX7_most 22 = .ok (.ifCond .eq 13, 3) := by decide +kernel
theorem dX7_most_25 : decode cX7_most 25 = .ok (.iload_n 3, 1) := by decide +kernel
theorem dX7_most_26 : decode cX7_most 26 = .ok (.aload_n 0, 1) := by decide +kernel
theorem dX7_most_27 : decode cX7_most 27 = .ok (.iload 4, 2) := by decide +kernel
theorem dX7_most_29 : decode cX7_most 29 = .ok (.iload_n 2, 1) := by decide +kernel
theorem dX7_most_30 : decode cX7_most 30 = .ok (.invokevirtual 87, 3) := by decide +kernel
theorem dX7_most_33 : decode cX7_most 33 = .ok (.iadd, 1) := by decide +kernel
theorem dX7_most_34 : decode cX7_most 34 = .ok (.istore_n 3, 1) := by decide +kernel
theorem dX7_most_35 : decode cX7_most 35 = .ok (.iinc 4 1, 3) := by decide +kernel
theorem dX7_most_38 : decode cX7_most 38 = .ok (.goto (-33), 3) := by decide +kernel
theorem dX7_most_41 : decode cX7_most 41 = .ok (.iload_n 3, 1) := by decide +kernel
theorem dX7_most_42 : decode cX7_most 42 = .ok (.ireturn, 1) := by decide +kernel
theorem dX7_howManyHarmed_0 : decode cX7_howManyHarmed 0 = .ok (.iconst 0, 1) := by decide +kernel
theorem dX7_howManyHarmed_1 : decode cX7_howManyHarmed 1 = .ok (.istore_n 3, 1) := by decide +kernel
theorem dX7_howManyHarmed_2 : decode cX7_howManyHarmed 2 = .ok (.iconst 0, 1) := by decide +kernel
theorem dX7_howManyHarmed_3 : decode cX7_howManyHarmed 3 = .ok (.istore 4, 2) := by decide +kernel
theorem dX7_howManyHarmed_5 : decode cX7_howManyHarmed 5 = .ok (.iload 4, 2) := by decide +kernel
theorem dX7_howManyHarmed_7 : decode cX7_howManyHarmed 7 = .ok (.aload_n 0, 1) := by decide +kernel
theorem dX7_howManyHarmed_8 : decode cX7_howManyHarmed 8 = .ok (.getfield 52, 3) := by decide +kernel
theorem dX7_howManyHarmed_11 : decode cX7_howManyHarmed 11 = .ok (.if_icmp .ge 23, 3) := by decide +kernel
theorem dX7_howManyHarmed_14 : decode cX7_howManyHarmed 14 = .ok (.aload_n 0, 1) := by decide +kernel
theorem dX7_howManyHarmed_15 : decode cX7_howManyHarmed 15 = .ok (.iload 4, 2) := by decide +kernel
theorem dX7_howManyHarmed_17 : decode cX7_howManyHarmed 17 = .ok (.iload_n 1, 1) := by decide +kernel
theorem dX7_howManyHarmed_18 : decode cX7_howManyHarmed 18 = .ok (.iload_n 2, 1) := by decide +kernel
theorem dX7_howManyHarmed_19 : decode cX7_howManyHarmed 19 = .ok (.invokevirtual 91, 3) := by decide +kernel
theorem dX7_howManyHarmed_22 : decode cX7_howManyHarmed 22 = .ok (.ifCond .eq 6, 3) := by decide +kernel
theorem dX7_howManyHarmed_25 : decode cX7_howManyHarmed 25 = .ok (.iinc 3 1, 3) := by decide +kernel
theorem dX7_howManyHarmed_28 : decode cX7_howManyHarmed 28 = .ok (.iinc 4 1, 3) := by decide +kernel
theorem dX7_howManyHarmed_31 : decode cX7_howManyHarmed 31 = .ok (.goto (-26), 3) := by decide +kernel
theorem dX7_howManyHarmed_34 : decode cX7_howManyHarmed 34 = .ok (.iload_n 3, 1) := by decide +kernel
theorem dX7_howManyHarmed_35 : decode cX7_howManyHarmed 35 = .ok (.ireturn, 1) := by decide +kernel
theorem dX7_least_0 : decode cX7_least 0 = .ok (.aload_n 0, 1) := by decide +kernel
theorem dX7_least_1 : decode cX7_least 1 = .ok (.iload_n 2, 1) := by decide +kernel
theorem dX7_least_2 : decode cX7_least 2 = .ok (.invokevirtual 69, 3) := by decide +kernel
theorem dX7_least_5 : decode cX7_least 5 = .ok (.aload_n 0, 1) := by decide +kernel
theorem dX7_least_6 : decode cX7_least 6 = .ok (.iload_n 1, 1) := by decide +kernel
theorem dX7_least_7 : decode cX7_least 7 = .ok (.invokevirtual 94, 3) := by decide +kernel
theorem dX7_least_10 : decode cX7_least 10 = .ok (.isub, 1) := by decide +kernel
theorem dX7_least_11 : decode cX7_least 11 = .ok (.iconst 0, 1) := by decide +kernel
theorem dX7_least_12 : decode cX7_least 12 = .ok (.invokestatic 97, 3) := by decide +kernel
theorem dX7_least_15 : decode cX7_least 15 = .ok (.iconst 1, 1) := by decide +kernel
theorem dX7_least_16 : decode cX7_least 16 = .ok (.iadd, 1) := by decide +kernel
theorem dX7_least_17 : decode cX7_least 17 = .ok (.ireturn, 1) := by decide +kernel
theorem dX7_firstBeyondItsPurses_0 : decode cX7_firstBeyondItsPurses 0 = .ok (.iconst 0, 1) := by decide +kernel
theorem dX7_firstBeyondItsPurses_1 : decode cX7_firstBeyondItsPurses 1 = .ok (.istore_n 1, 1) := by decide +kernel
theorem dX7_firstBeyondItsPurses_2 : decode cX7_firstBeyondItsPurses 2 = .ok (.iload_n 1, 1) := by decide +kernel
theorem dX7_firstBeyondItsPurses_3 : decode cX7_firstBeyondItsPurses 3 = .ok (.aload_n 0, 1) := by decide +kernel
theorem dX7_firstBeyondItsPurses_4 : decode cX7_firstBeyondItsPurses 4 = .ok (.getfield 48, 3) := by decide +kernel
theorem dX7_firstBeyondItsPurses_7 : decode cX7_firstBeyondItsPurses 7 = .ok (.if_icmp .ge 65, 3) := by decide +kernel
theorem dX7_firstBeyondItsPurses_10 : decode cX7_firstBeyondItsPurses 10 = .ok (.iconst 0, 1) := by decide +kernel
theorem dX7_firstBeyondItsPurses_11 : decode cX7_firstBeyondItsPurses 11 = .ok (.istore_n 2, 1) := by decide +kernel
theorem dX7_firstBeyondItsPurses_12 : decode cX7_firstBeyondItsPurses 12 = .ok (.iconst 0, 1) := by decide +kernel
theorem dX7_firstBeyondItsPurses_13 : decode cX7_firstBeyondItsPurses 13 = .ok (.istore_n 3, 1) := by decide +kernel
theorem dX7_firstBeyondItsPurses_14 : decode cX7_firstBeyondItsPurses 14 = .ok (.iload_n 3, 1) := by decide +kernel
theorem dX7_firstBeyondItsPurses_15 : decode cX7_firstBeyondItsPurses 15 = .ok (.aload_n 0, 1) := by decide +kernel
theorem dX7_firstBeyondItsPurses_16 : decode cX7_firstBeyondItsPurses 16 = .ok (.getfield 52, 3) := by decide +kernel
theorem dX7_firstBeyondItsPurses_19 : decode cX7_firstBeyondItsPurses 19 = .ok (.if_icmp .ge 27, 3) := by decide +kernel
theorem dX7_firstBeyondItsPurses_22 : decode cX7_firstBeyondItsPurses 22 = .ok (.aload_n 0, 1) := by decide +kernel
theorem dX7_firstBeyondItsPurses_23 : decode cX7_firstBeyondItsPurses 23 = .ok (.iload_n 3, 1) := by decide +kernel
theorem dX7_firstBeyondItsPurses_24 : decode cX7_firstBeyondItsPurses 24 = .ok (.iload_n 1, 1) := by decide +kernel
theorem dX7_firstBeyondItsPurses_25 : decode cX7_firstBeyondItsPurses 25 = .ok (.invokevirtual 83, 3) := by decide +kernel
theorem dX7_firstBeyondItsPurses_28 : decode cX7_firstBeyondItsPurses 28 = .ok (.ifCond .eq 12, 3) := by decide +kernel
theorem dX7_firstBeyondItsPurses_31 : decode cX7_firstBeyondItsPurses 31 = .ok (.iload_n 2, 1) := by decide +kernel
theorem dX7_firstBeyondItsPurses_32 : decode cX7_firstBeyondItsPurses 32 = .ok (.aload_n 0, 1) := by decide +kernel
theorem dX7_firstBeyondItsPurses_33 : decode cX7_firstBeyondItsPurses 33 = .ok (.getfield 33, 3) := by decide +kernel
theorem dX7_firstBeyondItsPurses_36 : decode cX7_firstBeyondItsPurses 36 = .ok (.iload_n 3, 1) := by decide +kernel
theorem dX7_firstBeyondItsPurses_37 : decode cX7_firstBeyondItsPurses 37 = .ok (.iaload, 1) := by decide +kernel
theorem dX7_firstBeyondItsPurses_38 : decode cX7_firstBeyondItsPurses 38 = .ok (.iadd, 1) := by decide +kernel
theorem dX7_firstBeyondItsPurses_39 : decode cX7_firstBeyondItsPurses 39 = .ok (.istore_n 2, 1) := by decide +kernel
theorem dX7_firstBeyondItsPurses_40 : decode cX7_firstBeyondItsPurses 40 = .ok (.iinc 3 1, 3) := by decide +kernel
theorem dX7_firstBeyondItsPurses_43 : decode cX7_firstBeyondItsPurses 43 = .ok (.goto (-29), 3) := by decide +kernel
theorem dX7_firstBeyondItsPurses_46 : decode cX7_firstBeyondItsPurses 46 = .ok (.aload_n 0, 1) := by decide +kernel
theorem dX7_firstBeyondItsPurses_47 : decode cX7_firstBeyondItsPurses 47 = .ok (.iload_n 1, 1) := by decide +kernel
theorem dX7_firstBeyondItsPurses_48 : decode cX7_firstBeyondItsPurses 48 = .ok (.invokevirtual 58, 3) := by decide +kernel
theorem dX7_firstBeyondItsPurses_51 : decode cX7_firstBeyondItsPurses 51 = .ok (.ifCond .eq 15, 3) := by decide +kernel
theorem dX7_firstBeyondItsPurses_54 : decode cX7_firstBeyondItsPurses 54 = .ok (.aload_n 0, 1) := by decide +kernel
theorem dX7_firstBeyondItsPurses_55 : decode cX7_firstBeyondItsPurses 55 = .ok (.getfield 21, 3) := by decide +kernel
theorem dX7_firstBeyondItsPurses_58 : decode cX7_firstBeyondItsPurses 58 = .ok (.iload_n 1, 1) := by decide +kernel
theorem dX7_firstBeyondItsPurses_59 : decode cX7_firstBeyondItsPurses 59 = .ok (.iaload, 1) := by decide +kernel
theorem dX7_firstBeyondItsPurses_60 : decode cX7_firstBeyondItsPurses 60 = .ok (.iload_n 2, 1) := by decide +kernel
theorem dX7_firstBeyondItsPurses_61 : decode cX7_firstBeyondItsPurses 61 = .ok (.if_icmp .le 5, 3) := by decide +kernel
theorem dX7_firstBeyondItsPurses_64 : decode cX7_firstBeyondItsPurses 64 = .ok (.iload_n 1, 1) := by decide +kernel
theorem dX7_firstBeyondItsPurses_65 : decode cX7_firstBeyondItsPurses 65 = .ok (.ireturn, 1) := by decide +kernel
theorem dX7_firstBeyondItsPurses_66 : decode cX7_firstBeyondItsPurses 66 = .ok (.iinc 1 1, 3) := by decide +kernel
theorem dX7_firstBeyondItsPurses_69 : decode cX7_firstBeyondItsPurses 69 = .ok (.goto (-67), 3) := by decide +kernel
theorem dX7_firstBeyondItsPurses_72 : decode cX7_firstBeyondItsPurses 72 = .ok (.bipush (-2), 2) := by decide +kernel
theorem dX7_firstBeyondItsPurses_74 : decode cX7_firstBeyondItsPurses 74 = .ok (.ireturn, 1) := by decide +kernel
theorem dX8_init_0 : decode cX8_init 0 = .ok (.aload_n 0, 1) := by decide +kernel
theorem dX8_init_1 : decode cX8_init 1 = .ok (.invokespecial 3, 3) := by decide +kernel
theorem dX8_init_4 : decode cX8_init 4 = .ok (.aload_n 0, 1) := by decide +kernel
theorem dX8_init_5 : decode cX8_init 5 = .ok (.bipush 6, 2) := by decide +kernel
theorem dX8_init_7 : decode cX8_init 7 = .ok (.newarray .int, 2) := by decide +kernel
theorem dX8_init_9 : decode cX8_init 9 = .ok (.putfield 9, 3) := by decide +kernel
theorem dX8_init_12 : decode cX8_init 12 = .ok (.aload_n 0, 1) := by decide +kernel
theorem dX8_init_13 : decode cX8_init 13 = .ok (.bipush 6, 2) := by decide +kernel
theorem dX8_init_15 : decode cX8_init 15 = .ok (.newarray .int, 2) := by decide +kernel
theorem dX8_init_17 : decode cX8_init 17 = .ok (.putfield 15, 3) := by decide +kernel
theorem dX8_init_20 : decode cX8_init 20 = .ok (.aload_n 0, 1) := by decide +kernel
theorem dX8_init_21 : decode cX8_init 21 = .ok (.bipush 6, 2) := by decide +kernel
theorem dX8_init_23 : decode cX8_init 23 = .ok (.newarray .int, 2) := by decide +kernel
theorem dX8_init_25 : decode cX8_init 25 = .ok (.putfield 18, 3) := by decide +kernel
theorem dX8_init_28 : decode cX8_init 28 = .ok (.aload_n 0, 1) := by decide +kernel
theorem dX8_init_29 : decode cX8_init 29 = .ok (.bipush 6, 2) := by decide +kernel
theorem dX8_init_31 : decode cX8_init 31 = .ok (.newarray .int, 2) := by decide +kernel
theorem dX8_init_33 : decode cX8_init 33 = .ok (.putfield 21, 3) := by decide +kernel
theorem dX8_init_36 : decode cX8_init 36 = .ok (.aload_n 0, 1) := by decide +kernel
theorem dX8_init_37 : decode cX8_init 37 = .ok (.bipush 6, 2) := by decide +kernel
theorem dX8_init_39 : decode cX8_init 39 = .ok (.newarray .int, 2) := by decide +kernel
theorem dX8_init_41 : decode cX8_init 41 = .ok (.putfield 24, 3) := by decide +kernel
theorem dX8_init_44 : decode cX8_init 44 = .ok (.aload_n 0, 1) := by decide +kernel
theorem dX8_init_45 : decode cX8_init 45 = .ok (.bipush 8, 2) := by decide +kernel
theorem dX8_init_47 : decode cX8_init 47 = .ok (.newarray .int, 2) := by decide +kernel
theorem dX8_init_49 : decode cX8_init 49 = .ok (.putfield 27, 3) := by decide +kernel
theorem dX8_init_52 : decode cX8_init 52 = .ok (.aload_n 0, 1) := by decide +kernel
theorem dX8_init_53 : decode cX8_init 53 = .ok (.bipush 8, 2) := by decide +kernel
theorem dX8_init_55 : decode cX8_init 55 = .ok (.newarray .int, 2) := by decide +kernel
theorem dX8_init_57 : decode cX8_init 57 = .ok (.putfield 30, 3) := by decide +kernel
theorem dX8_init_60 : decode cX8_init 60 = .ok (.aload_n 0, 1) := by decide +kernel
theorem dX8_init_61 : decode cX8_init 61 = .ok (.bipush 8, 2) := by decide +kernel
theorem dX8_init_63 : decode cX8_init 63 = .ok (.newarray .int, 2) := by decide +kernel
theorem dX8_init_65 : decode cX8_init 65 = .ok (.putfield 33, 3) := by decide +kernel
theorem dX8_init_68 : decode cX8_init 68 = .ok (.aload_n 0, 1) := by decide +kernel
theorem dX8_init_69 : decode cX8_init 69 = .ok (.bipush 8, 2) := by decide +kernel
theorem dX8_init_71 : decode cX8_init 71 = .ok (.newarray .int, 2) := by decide +kernel
theorem dX8_init_73 : decode cX8_init 73 = .ok (.putfield 36, 3) := by decide +kernel
theorem dX8_init_76 : decode cX8_init 76 = .ok (.aload_n 0, 1) := by decide +kernel
theorem dX8_init_77 : decode cX8_init 77 = .ok (.bipush 60, 2) := by decide +kernel
theorem dX8_init_79 : decode cX8_init 79 = .ok (.newarray .int, 2) := by decide +kernel
theorem dX8_init_81 : decode cX8_init 81 = .ok (.putfield 39, 3) := by decide +kernel
theorem dX8_init_84 : decode cX8_init 84 = .ok (.aload_n 0, 1) := by decide +kernel
theorem dX8_init_85 : decode cX8_init 85 = .ok (.aload_n 1, 1) := by decide +kernel
theorem dX8_init_86 : decode cX8_init 86 = .ok (.putfield 42, 3) := by decide +kernel
theorem dX8_init_89 : decode cX8_init 89 = .ok (.return_, 1) := by decide +kernel
theorem dX8_takeWays_0 : decode cX8_takeWays 0 = .ok (.iconst 0, 1) := by decide +kernel
theorem dX8_takeWays_1 : decode cX8_takeWays 1 = .ok (.istore_n 1, 1) := by decide +kernel
theorem dX8_takeWays_2 : decode cX8_takeWays 2 = .ok (.iload_n 1, 1) := by decide +kernel
theorem dX8_takeWays_3 : decode cX8_takeWays 3 = .ok (.bipush 6, 2) := by decide +kernel
theorem dX8_takeWays_5 : decode cX8_takeWays 5 = .ok (.if_icmp .ge 38, 3) := by decide +kernel
theorem dX8_takeWays_8 : decode cX8_takeWays 8 = .ok (.aload_n 0, 1) := by decide +kernel
theorem dX8_takeWays_9 : decode cX8_takeWays 9 = .ok (.getfield 42, 3) := by decide +kernel
theorem dX8_takeWays_12 : decode cX8_takeWays 12 = .ok (.iload_n 1, 1) := by decide +kernel
theorem dX8_takeWays_13 : decode cX8_takeWays 13 = .ok (.invokevirtual 46, 3) := by decide +kernel
theorem dX8_takeWays_16 : decode cX8_takeWays 16 = .ok (.istore_n 2, 1) := by decide +kernel
theorem dX8_takeWays_17 : decode cX8_takeWays 17 = .ok (.aload_n 0, 1) := by decide +kernel
theorem dX8_takeWays_18 : decode cX8_takeWays 18 = .ok (.getfield 9, 3) := by decide +kernel
theorem dX8_takeWays_21 : decode cX8_takeWays 21 = .ok (.iload_n 1, 1) := by decide +kernel
theorem dX8_takeWays_22 : decode cX8_takeWays 22 = .ok (.iload_n 2, 1) := by decide +kernel
theorem dX8_takeWays_23 : decode cX8_takeWays 23 = .ok (.bipush 100, 2) := by decide +kernel
theorem dX8_takeWays_25 : decode cX8_takeWays 25 = .ok (.idiv, 1) := by decide +kernel
theorem dX8_takeWays_26 : decode cX8_takeWays 26 = .ok (.iastore, 1) := by decide +kernel
theorem dX8_takeWays_27 : decode cX8_takeWays 27 = .ok (.aload_n 0, 1) := by decide +kernel
theorem dX8_takeWays_28 : decode cX8_takeWays 28 = .ok (.getfield 15, 3) := by decide +kernel
theorem dX8_takeWays_31 : decode cX8_takeWays 31 = .ok (.iload_n 1, 1) := by decide +kernel
theorem dX8_takeWays_32 : decode cX8_takeWays 32 = .ok (.iload_n 2, 1) := by decide +kernel
theorem dX8_takeWays_33 : decode cX8_takeWays 33 = .ok (.bipush 100, 2) := by decide +kernel
theorem dX8_takeWays_35 : decode cX8_takeWays 35 = .ok (.irem, 1) := by decide +kernel
theorem dX8_takeWays_36 : decode cX8_takeWays 36 = .ok (.iastore, 1) := by decide +kernel
theorem dX8_takeWays_37 : decode cX8_takeWays 37 = .ok (.iinc 1 1, 3) := by decide +kernel
theorem dX8_takeWays_40 : decode cX8_takeWays 40 = .ok (.goto (-38), 3) := by decide +kernel
theorem dX8_takeWays_43 : decode cX8_takeWays 43 = .ok (.return_, 1) := by decide +kernel
theorem dX8_supposeWay_0 : decode cX8_supposeWay 0 = .ok (.iload_n 1, 1) := by decide +kernel
theorem dX8_supposeWay_1 : decode cX8_supposeWay 1 = .ok (.ifCond .lt 9, 3) := by decide +kernel
theorem dX8_supposeWay_4 : decode cX8_supposeWay 4 = .ok (.iload_n 1, 1) := by decide +kernel
theorem dX8_supposeWay_5 : decode cX8_supposeWay 5 = .ok (.bipush 6, 2) := by decide +kernel
theorem dX8_supposeWay_7 : decode cX8_supposeWay 7 = .ok (.if_icmp .lt 4, 3) := by decide +kernel
theorem dX8_supposeWay_10 : decode cX8_supposeWay 10 = .ok (.return_, 1) := by decide +kernel
theorem dX8_supposeWay_11 : decode cX8_supposeWay 11 = .ok (.aload_n 0, 1) := by decide +kernel
theorem dX8_supposeWay_12 : decode cX8_supposeWay 12 = .ok (.getfield 9, 3) := by decide +kernel
theorem dX8_supposeWay_15 : decode cX8_supposeWay 15 = .ok (.iload_n 1, 1) := by decide +kernel
theorem dX8_supposeWay_16 : decode cX8_supposeWay 16 = .ok (.iload_n 2, 1) := by decide +kernel
theorem dX8_supposeWay_17 : decode cX8_supposeWay 17 = .ok (.iastore, 1) := by decide +kernel
theorem dX8_supposeWay_18 : decode cX8_supposeWay 18 = .ok (.aload_n 0, 1) := by decide +kernel
theorem dX8_supposeWay_19 : decode cX8_supposeWay 19 = .ok (.getfield 15, 3) := by decide +kernel
theorem dX8_supposeWay_22 : decode cX8_supposeWay 22 = .ok (.iload_n 1, 1) := by decide +kernel
theorem dX8_supposeWay_23 : decode cX8_supposeWay 23 = .ok (.iload_n 3, 1) := by decide +kernel
theorem dX8_supposeWay_24 : decode cX8_supposeWay 24 = .ok (.iastore, 1) := by decide +kernel
theorem dX8_supposeWay_25 : decode cX8_supposeWay 25 = .ok (.return_, 1) := by decide +kernel
theorem dX8_follow_0 : decode cX8_follow 0 = .ok (.aload_n 0, 1) := by decide +kernel
theorem dX8_follow_1 : decode cX8_follow 1 = .ok (.aload_n 0, 1) := by decide +kernel
theorem dX8_follow_2 : decode cX8_follow 2 = .ok (.getfield 42, 3) := by decide +kernel
theorem dX8_follow_5 : decode cX8_follow 5 = .ok (.invokevirtual 52, 3) := by decide +kernel
theorem dX8_follow_8 : decode cX8_follow 8 = .ok (.bipush 6, 2) := by decide +kernel
theorem dX8_follow_10 : decode cX8_follow 10 = .ok (.invokestatic 56, 3) := by decide +kernel
theorem dX8_follow_13 : decode cX8_follow 13 = .ok (.putfield 62, 3) := by decide +kernel
theorem dX8_follow_16 : decode cX8_follow 16 = .ok (.aload_n 0, 1) := by decide +kernel
theorem dX8_follow_17 : decode cX8_follow 17 = .ok (.aload_n 0, 1) := by decide +kernel
theorem dX8_follow_18 : decode cX8_follow 18 = .ok (.getfield 42, 3) := by decide +kernel
theorem dX8_follow_21 : decode cX8_follow 21 = .ok (.invokevirtual 65, 3) := by decide +kernel
theorem dX8_follow_24 : decode cX8_follow 24 = .ok (.bipush 8, 2) := by decide +kernel
theorem dX8_follow_26 : decode cX8_follow 26 = .ok (.invokestatic 56, 3) := by decide +kernel
theorem dX8_follow_29 : decode cX8_follow 29 = .ok (.putfield 68, 3) := by decide +kernel
theorem dX8_follow_32 : decode cX8_follow 32 = .ok (.aload_n 0, 1) := by decide +kernel
theorem dX8_follow_33 : decode cX8_follow 33 = .ok (.iload_n 2, 1) := by decide +kernel
theorem dX8_follow_34 : decode cX8_follow 34 = .ok (.putfield 70, 3) := by decide +kernel
theorem dX8_follow_37 : decode cX8_follow 37 = .ok (.aload_n 0, 1) := by decide +kernel
theorem dX8_follow_38 : decode cX8_follow 38 = .ok (.iconst 0, 1) := by decide +kernel
theorem dX8_follow_39 : decode cX8_follow 39 = .ok (.putfield 73, 3) := by decide +kernel
theorem dX8_follow_42 : decode cX8_follow 42 = .ok (.aload_n 0, 1) := by decide +kernel
theorem dX8_follow_43 : decode cX8_follow 43 = .ok (.iconst 0, 1) := by decide +kernel
theorem dX8_follow_44 : decode cX8_follow 44 = .ok (.putfield 76, 3) := by decide +kernel
theorem dX8_follow_47 : decode cX8_follow 47 = .ok (.aload_n 0, 1) := by decide +kernel
theorem dX8_follow_48 : decode cX8_follow 48 = .ok (.invokevirtual 79, 3) := by decide +kernel
theorem dX8_follow_51 : decode cX8_follow 51 = .ok (.iconst 0, 1) := by decide +kernel
theorem dX8_follow_52 : decode cX8_follow 52 = .ok (.istore_n 3, 1) := by decide +kernel
theorem dX8_follow_53 : decode cX8_follow 53 = .ok (.iload_n 3, 1) := by decide +kernel
theorem dX8_follow_54 : decode cX8_follow 54 = .ok (.iload_n 2, 1) := by decide +kernel
theorem dX8_follow_55 : decode cX8_follow 55 = .ok (.if_icmp .ge 64, 3) := by decide +kernel
theorem dX8_follow_58 : decode cX8_follow 58 = .ok (.iload_n 3, 1) := by decide +kernel
theorem dX8_follow_59 : decode cX8_follow 59 = .ok (.bipush 60, 2) := by decide +kernel
theorem dX8_follow_61 : decode cX8_follow 61 = .ok (.if_icmp .ge 58, 3) := by decide +kernel
theorem dX8_follow_64 : decode cX8_follow 64 = .ok (.aload_n 0, 1) := by decide +kernel
theorem dX8_follow_65 : decode cX8_follow 65 = .ok (.getfield 76, 3) := by decide +kernel
theorem dX8_follow_68 : decode cX8_follow 68 = .ok (.ifCond .ne 51, 3) := by decide +kernel
theorem dX8_follow_71 : decode cX8_follow 71 = .ok (.aload_n 0, 1) := by decide +kernel
theorem dX8_follow_72 : decode cX8_follow 72 = .ok (.aload_n 1, 1) := by decide +kernel
theorem dX8_follow_73 : decode cX8_follow 73 = .ok (.invokevirtual 82, 3) := by decide +kernel
theorem dX8_follow_76 : decode cX8_follow 76 = .ok (.aload_n 0, 1) := by decide +kernel
theorem dX8_follow_77 : decode cX8_follow 77 = .ok (.invokevirtual 86, 3) := by decide +kernel
theorem dX8_follow_80 : decode cX8_follow 80 = .ok (.aload_n 0, 1) := by decide +kernel
theorem dX8_follow_81 : decode cX8_follow 81 = .ok (.getfield 39, 3) := by decide +kernel
theorem dX8_follow_84 : decode cX8_follow 84 = .ok (.iload_n 3, 1) := by decide +kernel
theorem dX8_follow_85 : decode cX8_follow 85 = .ok (.aload_n 0, 1) := by decide +kernel
theorem dX8_follow_86 : decode cX8_follow 86 = .ok (.invokevirtual 89, 3) := by decide +kernel
theorem dX8_follow_89 : decode cX8_follow 89 = .ok (.iastore, 1) := by decide +kernel
theorem dX8_follow_90 : decode cX8_follow 90 = .ok (.aload_n 0, 1) := by decide +kernel
theorem dX8_follow_91 : decode cX8_follow 91 = .ok (.aload_n 0, 1) := by decide +kernel
theorem dX8_follow_92 : decode cX8_follow 92 = .ok (.iload_n 3, 1) := by decide +kernel
theorem dX8_follow_93 : decode cX8_follow 93 = .ok (.invokevirtual 92, 3) := by decide +kernel
theorem dX8_follow_96 : decode cX8_follow 96 = .ok (.putfield 76, 3) := by decide +kernel
theorem dX8_follow_99 : decode cX8_follow 99 = .ok (.aload_n 0, 1) := by decide +kernel
theorem dX8_follow_100 : decode cX8_follow 100 = .ok (.getfield 76, 3) := by decide +kernel
theorem dX8_follow_103 : decode cX8_follow 103 = .ok (.ifCond .ne 10, 3) := by decide +kernel
theorem dX8_follow_106 : decode cX8_follow 106 = .ok (.aload_n 0, 1) := by decide +kernel
theorem dX8_follow_107 : decode cX8_follow 107 = .ok (.iload_n 3, 1) := by decide +kernel
theorem dX8_follow_108 : decode cX8_follow 108 = .ok (.iconst 1, 1) := by decide +kernel
theorem dX8_follow_109 : decode cX8_follow 109 = .ok (.iadd, 1) := by decide +kernel
theorem dX8_follow_110 : decode cX8_follow 110 = .ok (.putfield 73, 3) := by decide +kernel
theorem dX8_follow_113 : decode cX8_follow 113 = .ok (.iinc 3 1, 3) := by decide +kernel
theorem dX8_follow_116 : decode cX8_follow 116 = .ok (.goto (-63), 3) := by decide +kernel
theorem dX8_follow_119 : decode cX8_follow 119 = .ok (.aload_n 0, 1) := by decide +kernel
theorem dX8_follow_120 : decode cX8_follow 120 = .ok (.aload_n 0, 1) := by decide +kernel
theorem dX8_follow_121 : decode cX8_follow 121 = .ok (.getfield 39, 3) := by decide +kernel
theorem dX8_follow_124 : decode cX8_follow 124 = .ok (.aload_n 0, 1) := by decide +kernel
theorem dX8_follow_125 : decode cX8_follow 125 = .ok (.invokevirtual 95, 3) := by decide +kernel
theorem dX8_follow_128 : decode cX8_follow 128 = .ok (.iaload, 1) := by decide +kernel
theorem dX8_follow_129 : decode cX8_follow 129 = .ok (.invokevirtual 98, 3) := by decide +kernel
theorem dX8_follow_132 : decode cX8_follow 132 = .ok (.return_, 1) := by decide +kernel
theorem dX8_begin_0 : decode cX8_begin 0 = .ok (.iconst 0, 1) := by decide +kernel
theorem dX8_begin_1 : decode cX8_begin 1 = .ok (.istore_n 1, 1) := by decide +kernel
theorem dX8_begin_2 : decode cX8_begin 2 = .ok (.iload_n 1, 1) := by decide +kernel
theorem dX8_begin_3 : decode cX8_begin 3 = .ok (.aload_n 0, 1) := by decide +kernel
theorem dX8_begin_4 : decode cX8_begin 4 = .ok (.getfield 68, 3) := by decide +kernel
theorem dX8_begin_7 : decode cX8_begin 7 = .ok (.if_icmp .ge 23, 3) := by decide +kernel
theorem dX8_begin_10 : decode cX8_begin 10 = .ok (.aload_n 0, 1) := by decide +kernel
theorem dX8_begin_11 : decode cX8_begin 11 = .ok (.getfield 27, 3) := by decide +kernel
theorem dX8_begin_14 : decode cX8_begin 14 = .ok (.iload_n 1, 1) := by decide +kernel
theorem dX8_begin_15 : decode cX8_begin 15 = .ok (.aload_n 0, 1) := by decide +kernel
theorem dX8_begin_16 : decode cX8_begin 16 = .ok (.getfield 42, 3) := by decide +kernel
theorem dX8_begin_19 : decode cX8_begin 19 = .ok (.iload_n 1, 1) := by decide +kernel
theorem dX8_begin_20 : decode cX8_begin 20 = .ok (.invokevirtual 102, 3) := by decide +kernel
theorem dX8_begin_23 : decode cX8_begin 23 = .ok (.iastore, 1) := by decide +kernel
theorem dX8_begin_24 : decode cX8_begin 24 = .ok (.iinc 1 1, 3) := by decide +kernel
theorem dX8_begin_27 : decode cX8_begin 27 = .ok (.goto (-25), 3) := by decide +kernel
theorem dX8_begin_30 : decode cX8_begin 30 = .ok (.aload_n 0, 1) := by decide +kernel
theorem dX8_begin_31 : decode cX8_begin 31 = .ok (.invokevirtual 105, 3) := by decide +kernel
theorem dX8_begin_34 : decode cX8_begin 34 = .ok (.iconst 0, 1) := by decide +kernel
theorem dX8_begin_35 : decode cX8_begin 35 = .ok (.istore_n 1, 1) := by decide +kernel
theorem dX8_begin_36 : decode cX8_begin 36 = .ok (.iload_n 1, 1) := by decide +kernel
theorem dX8_begin_37 : decode cX8_begin 37 = .ok (.bipush 6, 2) := by decide +kernel
theorem dX8_begin_39 : decode cX8_begin 39 = .ok (.if_icmp .ge 16, 3) := by decide +kernel
theorem dX8_begin_42 : decode cX8_begin 42 = .ok (.aload_n 0, 1) := by decide +kernel
theorem dX8_begin_43 : decode cX8_begin 43 = .ok (.getfield 21, 3) := by decide +kernel
theorem dX8_begin_46 : decode cX8_begin 46 = .ok (.iload_n 1, 1) := by decide +kernel
theorem dX8_begin_47 : decode cX8_begin 47 = .ok (.iconst 0, 1) := by decide +kernel
theorem dX8_begin_48 : decode cX8_begin 48 = .ok (.iastore, 1) := by decide +kernel
theorem dX8_begin_49 : decode cX8_begin 49 = .ok (.iinc 1 1, 3) := by decide +kernel
theorem dX8_begin_52 : decode cX8_begin 52 = .ok (.goto (-16), 3) := by decide +kernel
theorem dX8_begin_55 : decode cX8_begin 55 = .ok (.return_, 1) := by decide +kernel
theorem dX8_countThere_0 : decode cX8_countThere 0 = .ok (.iconst 0, 1) := by decide +kernel
theorem dX8_countThere_1 : decode cX8_countThere 1 = .ok (.istore_n 1, 1) := by decide +kernel
theorem dX8_countThere_2 : decode cX8_countThere 2 = .ok (.iload_n 1, 1) := by decide +kernel
theorem dX8_countThere_3 : decode cX8_countThere 3 = .ok (.bipush 6, 2) := by decide +kernel
theorem dX8_countThere_5 : decode cX8_countThere 5 = .ok (.if_icmp .ge 16, 3) := by decide +kernel
theorem dX8_countThere_8 : decode cX8_countThere 8 = .ok (.aload_n 0, 1) := by decide +kernel
theorem dX8_countThere_9 : decode cX8_countThere 9 = .ok (.getfield 18, 3) := by decide +kernel
theorem dX8_countThere_12 : decode cX8_countThere 12 = .ok (.iload_n 1, 1) := by decide +kernel
theorem dX8_countThere_13 : decode cX8_countThere 13 = .ok (.iconst 0, 1) := by decide +kernel
theorem dX8_countThere_14 : decode cX8_countThere 14 = .ok (.iastore, 1) := by decide +kernel
theorem dX8_countThere_15 : decode cX8_countThere 15 = .ok (.iinc 1 1, 3) := by decide +kernel
theorem dX8_countThere_18 : decode cX8_countThere 18 = .ok (.goto (-16), 3) := by decide +kernel
theorem dX8_countThere_21 : decode cX8_countThere 21 = .ok (.iconst 0, 1) := by decide +kernel
theorem dX8_countThere_22 : decode cX8_countThere 22 = .ok (.istore_n 1, 1) := by decide +kernel
theorem dX8_countThere_23 : decode cX8_countThere 23 = .ok (.iload_n 1, 1) := by decide +kernel
theorem dX8_countThere_24 : decode cX8_countThere 24 = .ok (.aload_n 0, 1) := by decide +kernel
theorem dX8_countThere_25 : decode cX8_countThere 25 = .ok (.getfield 68, 3) := by decide +kernel
theorem dX8_countThere_28 : decode cX8_countThere 28 = .ok (.if_icmp .ge 32, 3) := by decide +kernel
theorem dX8_countThere_31 : decode cX8_countThere 31 = .ok (.aload_n 0, 1) := by decide +kernel
theorem dX8_countThere_32 : decode cX8_countThere 32 = .ok (.iload_n 1, 1) := by decide +kernel
theorem dX8_countThere_33 : decode cX8_countThere 33 = .ok (.invokevirtual 108, 3) := by decide +kernel
theorem dX8_countThere_36 : decode cX8_countThere 36 = .ok (.ifCond .eq 18, 3) := by decide +kernel
theorem dX8_countThere_39 : decode cX8_countThere 39 = .ok (.aload_n 0, 1) := by decide +kernel
theorem dX8_countThere_40 : decode cX8_countThere 40 = .ok (.getfield 18, 3) := by decide +kernel
theorem dX8_countThere_43 : decode cX8_countThere 43 = .ok (.aload_n 0, 1) := by decide +kernel
theorem dX8_countThere_44 : decode cX8_countThere 44 = .ok (.getfield 27, 3) := by decide +kernel
theorem dX8_countThere_47 : decode cX8_countThere 47 = .ok (.iload_n 1, 1) := by decide +kernel
theorem dX8_countThere_48 : decode cX8_countThere 48 = .ok (.iaload, 1) := by decide +kernel
theorem dX8_countThere_49 : decode cX8_countThere 49 = .ok (.dup2, 1) := by decide +kernel
theorem dX8_countThere_50 : decode cX8_countThere 50 = .ok (.iaload, 1) := by decide +kernel
theorem dX8_countThere_51 : decode cX8_countThere 51 = .ok (.iconst 1, 1) := by decide +kernel
theorem dX8_countThere_52 : decode cX8_countThere 52 = .ok (.iadd, 1) := by decide +kernel
theorem dX8_countThere_53 : decode cX8_countThere 53 = .ok (.iastore, 1) := by decide +kernel
theorem dX8_countThere_54 : decode cX8_countThere 54 = .ok (.iinc 1 1, 3) := by decide +kernel
theorem dX8_countThere_57 : decode cX8_countThere 57 = .ok (.goto (-34), 3) := by decide +kernel
theorem dX8_countThere_60 : decode cX8_countThere 60 = .ok (.return_, 1) := by decide +kernel
theorem dX8_isSomewhere_0 : decode cX8_isSomewhere 0 = .ok (.aload_n 0, 1) := by decide +kernel
theorem dX8_isSomewhere_1 : decode cX8_isSomewhere 1 = .ok (.getfield 27, 3) := by decide +kernel
theorem dX8_isSomewhere_4 : decode cX8_isSomewhere 4 = .ok (.iload_n 1, 1) := by decide +kernel
theorem dX8_isSomewhere_5 : decode cX8_isSomewhere 5 = .ok (.iaload, 1) := by decide +kernel
theorem dX8_isSomewhere_6 : decode cX8_isSomewhere 6 = .ok (.ifCond .lt 18, 3) := by decide +kernel
theorem dX8_isSomewhere_9 : decode cX8_isSomewhere 9 = .ok (.aload_n 0, 1) := by decide +kernel
theorem dX8_isSomewhere_10 : decode cX8_isSomewhere 10 = .ok (.getfield 27, 3) := by decide +kernel
theorem dX8_isSomewhere_13 : decode cX8_isSomewhere 13 = .ok (.iload_n 1, 1) := by decide +kernel
theorem dX8_isSomewhere_14 : decode cX8_isSomewhere 14 = .ok (.iaload, 1) := by decide +kernel
theorem dX8_isSomewhere_15 : decode cX8_isSomewhere 15 = .ok (.bipush 6, 2) := by decide +kernel
theorem dX8_isSomewhere_17 : decode cX8_isSomewhere 17 = .ok (.if_icmp .ge 7, 3) := by decide +kernel
theorem dX8_isSomewhere_20 : decode cX8_isSomewhere 20 = .ok (.iconst 1, 1) := by decide +kernel
theorem dX8_isSomewhere_21 : decode cX8_isSomewhere 21 = .ok (.goto 4, 3) := by decide +kernel
theorem dX8_isSomewhere_24 : decode cX8_isSomewhere 24 = .ok (.iconst 0, 1) := by decide +kernel
theorem dX8_isSomewhere_25 : decode cX8_isSomewhere 25 = .ok (.ireturn, 1) := by decide +kernel
theorem dX8_allGo_0 : decode cX8_allGo 0 = .ok (.iconst 0, 1) := by decide +kernel
theorem dX8_allGo_1 : decode cX8_allGo 1 = .ok (.istore_n 2, 1) := by decide +kernel
theorem dX8_allGo_2 : decode cX8_allGo 2 = .ok (.iload_n 2, 1) := by decide +kernel
theorem dX8_allGo_3 : decode cX8_allGo 3 = .ok (.aload_n 0, 1) := by decide +kernel
theorem dX8_allGo_4 : decode cX8_allGo 4 = .ok (.getfield 68, 3) := by decide +kernel
theorem dX8_allGo_7 : decode cX8_allGo 7 = .ok (.if_icmp .ge 21, 3) := by decide +kernel
theorem dX8_allGo_10 : decode cX8_allGo 10 = .ok (.aload_n 0, 1) := by decide +kernel
theorem dX8_allGo_11 : decode cX8_allGo 11 = .ok (.getfield 30, 3) := by decide +kernel
theorem dX8_allGo_14 : decode cX8_allGo 14 = .ok (.iload_n 2, 1) := by decide +kernel
theorem dX8_allGo_15 : decode cX8_allGo 15 = .ok (.aload_n 0, 1) := by decide +kernel
theorem dX8_allGo_16 : decode cX8_allGo 16 = .ok (.aload_n 1, 1) := by decide +kernel
theorem dX8_allGo_17 : decode cX8_allGo 17 = .ok (.iload_n 2, 1) := by decide +kernel
theorem dX8_allGo_18 : decode cX8_allGo 18 = .ok (.invokevirtual 112, 3) := by decide +kernel
theorem dX8_allGo_21 : decode cX8_allGo 21 = .ok (.iastore, 1) := by decide +kernel
theorem dX8_allGo_22 : decode cX8_allGo 22 = .ok (.iinc 2 1, 3) := by decide +kernel
theorem dX8_allGo_25 : decode cX8_allGo 25 = .ok (.goto (-23), 3) := by decide +kernel
theorem dX8_allGo_28 : decode cX8_allGo 28 = .ok (.iconst 0, 1) := by decide +kernel
theorem dX8_allGo_29 : decode cX8_allGo 29 = .ok (.istore_n 2, 1) := by decide +kernel
theorem dX8_allGo_30 : decode cX8_allGo 30 = .ok (.iload_n 2, 1) := by decide +kernel
theorem dX8_allGo_31 : decode cX8_allGo 31 = .ok (.aload_n 0, 1) := by decide +kernel
theorem dX8_allGo_32 : decode cX8_allGo 32 = .ok (.getfield 68, 3) := by decide +kernel
theorem dX8_allGo_35 : decode cX8_allGo 35 = .ok (.if_icmp .ge 21, 3) := by decide +kernel
theorem dX8_allGo_38 : decode cX8_allGo 38 = .ok (.aload_n 0, 1) := by decide +kernel
theorem dX8_allGo_39 : decode cX8_allGo 39 = .ok (.getfield 27, 3) := by decide +kernel
theorem dX8_allGo_42 : decode cX8_allGo 42 = .ok (.iload_n 2, 1) := by decide +kernel
theorem dX8_allGo_43 : decode cX8_allGo 43 = .ok (.aload_n 0, 1) := by decide +kernel
theorem dX8_allGo_44 : decode cX8_allGo 44 = .ok (.getfield 30, 3) := by decide +kernel
theorem dX8_allGo_47 : decode cX8_allGo 47 = .ok (.iload_n 2, 1) := by decide +kernel
theorem dX8_allGo_48 : decode cX8_allGo 48 = .ok (.iaload, 1) := by decide +kernel
theorem dX8_allGo_49 : decode cX8_allGo 49 = .ok (.iastore, 1) := by decide +kernel
theorem dX8_allGo_50 : decode cX8_allGo 50 = .ok (.iinc 2 1, 3) := by decide +kernel
theorem dX8_allGo_53 : decode cX8_allGo 53 = .ok (.goto (-23), 3) := by decide +kernel
theorem dX8_allGo_56 : decode cX8_allGo 56 = .ok (.aload_n 0, 1) := by decide +kernel
theorem dX8_allGo_57 : decode cX8_allGo 57 = .ok (.invokevirtual 105, 3) := by decide +kernel
theorem dX8_allGo_60 : decode cX8_allGo 60 = .ok (.return_, 1) := by decide +kernel
theorem dX8_choice_0 : decode cX8_choice 0 = .ok (.iconst 0, 1) := by decide +kernel
theorem dX8_choice_1 : decode cX8_choice 1 = .ok (.istore_n 3, 1) := by decide +kernel
theorem dX8_choice_2 : decode cX8_choice 2 = .ok (.iconst (-1), 1) := by decide +kernel
theorem dX8_choice_3 : decode cX8_choice 3 = .ok (.istore 4, 2) := by decide +kernel
theorem dX8_choice_5 : decode cX8_choice 5 = .ok (.aload_n 0, 1) := by decide +kernel
theorem dX8_choice_6 : decode cX8_choice 6 = .ok (.getfield 36, 3) := by decide +kernel
theorem dX8_choice_9 : decode cX8_choice 9 = .ok (.iconst 1, 1) := by decide +kernel
theorem dX8_choice_10 : decode cX8_choice 10 = .ok (.aload_n 0, 1) := by decide +kernel
theorem dX8_choice_11 : decode cX8_choice 11 = .ok (.getfield 42, 3) := by decide +kernel
theorem dX8_choice_14 : decode cX8_choice 14 = .ok (.iload_n 2, 1) := by decide +kernel
theorem dX8_choice_15 : decode cX8_choice 15 = .ok (.invokevirtual 116, 3) := by decide +kernel
theorem dX8_choice_18 : decode cX8_choice 18 = .ok (.iastore, 1) := by decide +kernel
theorem dX8_choice_19 : decode cX8_choice 19 = .ok (.aload_n 0, 1) := by decide +kernel
theorem dX8_choice_20 : decode cX8_choice 20 = .ok (.getfield 36, 3) := by decide +kernel
theorem dX8_choice_23 : decode cX8_choice 23 = .ok (.iconst 3, 1) := by decide +kernel
theorem dX8_choice_24 : decode cX8_choice 24 = .ok (.aload_n 0, 1) := by decide +kernel
theorem dX8_choice_25 : decode cX8_choice 25 = .ok (.getfield 42, 3) := by decide +kernel
theorem dX8_choice_28 : decode cX8_choice 28 = .ok (.iload_n 2, 1) := by decide +kernel
theorem dX8_choice_29 : decode cX8_choice 29 = .ok (.invokevirtual 118, 3) := by decide +kernel
theorem dX8_choice_32 : decode cX8_choice 32 = .ok (.iastore, 1) := by decide +kernel
theorem dX8_choice_33 : decode cX8_choice 33 = .ok (.aload_n 0, 1) := by decide +kernel
theorem dX8_choice_34 : decode cX8_choice 34 = .ok (.getfield 36, 3) := by decide +kernel
theorem dX8_choice_37 : decode cX8_choice 37 = .ok (.iconst 5, 1) := by decide +kernel
theorem dX8_choice_38 : decode cX8_choice 38 = .ok (.aload_n 0, 1) := by decide +kernel
theorem dX8_choice_39 : decode cX8_choice 39 = .ok (.getfield 42, 3) := by decide +kernel
theorem dX8_choice_42 : decode cX8_choice 42 = .ok (.iload_n 2, 1) := by decide +kernel
theorem dX8_choice_43 : decode cX8_choice 43 = .ok (.invokevirtual 121, 3) := by decide +kernel
theorem dX8_choice_46 : decode cX8_choice 46 = .ok (.iastore, 1) := by decide +kernel
theorem dX8_choice_47 : decode cX8_choice 47 = .ok (.iconst 0, 1) := by decide +kernel
theorem dX8_choice_48 : decode cX8_choice 48 = .ok (.istore 5, 2) := by decide +kernel
theorem dX8_choice_50 : decode cX8_choice 50 = .ok (.iload 5, 2) := by decide +kernel
theorem dX8_choice_52 : decode cX8_choice 52 = .ok (.aload_n 0, 1) := by decide +kernel
theorem dX8_choice_53 : decode cX8_choice 53 = .ok (.getfield 62, 3) := by decide +kernel
theorem dX8_choice_56 : decode cX8_choice 56 = .ok (.if_icmp .ge 105, 3) := by decide +kernel
theorem dX8_choice_59 : decode cX8_choice 59 = .ok (.aload_n 0, 1) := by decide +kernel
theorem dX8_choice_60 : decode cX8_choice 60 = .ok (.getfield 36, 3) := by decide +kernel
theorem dX8_choice_63 : decode cX8_choice 63 = .ok (.iconst 0, 1) := by decide +kernel
theorem dX8_choice_64 : decode cX8_choice 64 = .ok (.aload_n 0, 1) := by decide +kernel
theorem dX8_choice_65 : decode cX8_choice 65 = .ok (.getfield 42, 3) := by decide +kernel
theorem dX8_choice_68 : decode cX8_choice 68 = .ok (.iload 5, 2) := by decide +kernel
theorem dX8_choice_70 : decode cX8_choice 70 = .ok (.invokevirtual 124, 3) := by decide +kernel
theorem dX8_choice_73 : decode cX8_choice 73 = .ok (.iastore, 1) := by decide +kernel
theorem dX8_choice_74 : decode cX8_choice 74 = .ok (.aload_n 0, 1) := by decide +kernel
theorem dX8_choice_75 : decode cX8_choice 75 = .ok (.getfield 36, 3) := by decide +kernel
theorem dX8_choice_78 : decode cX8_choice 78 = .ok (.iconst 2, 1) := by decide +kernel
theorem dX8_choice_79 : decode cX8_choice 79 = .ok (.aload_n 0, 1) := by decide +kernel
theorem dX8_choice_80 : decode cX8_choice 80 = .ok (.getfield 21, 3) := by decide +kernel
theorem dX8_choice_83 : decode cX8_choice 83 = .ok (.iload 5, 2) := by decide +kernel
theorem dX8_choice_85 : decode cX8_choice 85 = .ok (.iaload, 1) := by decide +kernel
theorem dX8_choice_86 : decode cX8_choice 86 = .ok (.iastore, 1) := by decide +kernel
theorem dX8_choice_87 : decode cX8_choice 87 = .ok (.aload_n 0, 1) := by decide +kernel
theorem dX8_choice_88 : decode cX8_choice 88 = .ok (.getfield 36, 3) := by decide +kernel
theorem dX8_choice_91 : decode cX8_choice 91 = .ok (.iconst 4, 1) := by decide +kernel
theorem dX8_choice_92 : decode cX8_choice 92 = .ok (.aload_n 0, 1) := by decide +kernel
theorem dX8_choice_93 : decode cX8_choice 93 = .ok (.getfield 18, 3) := by decide +kernel
theorem dX8_choice_96 : decode cX8_choice 96 = .ok (.iload 5, 2) := by decide +kernel
theorem dX8_choice_98 : decode cX8_choice 98 = .ok (.iaload, 1) := by decide +kernel
theorem dX8_choice_99 : decode cX8_choice 99 = .ok (.iastore, 1) := by decide +kernel
theorem dX8_choice_100 : decode cX8_choice 100 = .ok (.aload_n 0, 1) := by decide +kernel
theorem dX8_choice_101 : decode cX8_choice 101 = .ok (.getfield 36, 3) := by decide +kernel
theorem dX8_choice_104 : decode cX8_choice 104 = .ok (.bipush 6, 2) := by decide +kernel
theorem dX8_choice_106 : decode cX8_choice 106 = .ok (.iload 5, 2) := by decide +kernel
theorem dX8_choice_108 : decode cX8_choice 108 = .ok (.iastore, 1) := by decide +kernel
theorem dX8_choice_109 : decode cX8_choice 109 = .ok (.aload_n 0, 1) := by decide +kernel
theorem dX8_choice_110 : decode cX8_choice 110 = .ok (.getfield 36, 3) := by decide +kernel
theorem dX8_choice_113 : decode cX8_choice 113 = .ok (.bipush 7, 2) := by decide +kernel
theorem dX8_choice_115 : decode cX8_choice 115 = .ok (.aload_n 0, 1) := by decide +kernel
theorem dX8_choice_116 : decode cX8_choice 116 = .ok (.getfield 27, 3) := by decide +kernel
theorem dX8_choice_119 : decode cX8_choice 119 = .ok (.iload_n 2, 1) := by decide +kernel
theorem dX8_choice_120 : decode cX8_choice 120 = .ok (.iaload, 1) := by decide +kernel
theorem dX8_choice_121 : decode cX8_choice 121 = .ok (.iload 5, 2) := by decide +kernel
theorem dX8_choice_123 : decode cX8_choice 123 = .ok (.if_icmp .ne 7, 3) := by decide +kernel
theorem dX8_choice_126 : decode cX8_choice 126 = .ok (.iconst 1, 1) := by decide +kernel
theorem dX8_choice_127 : decode cX8_choice 127 = .ok (.goto 4, 3) := by decide +kernel
theorem dX8_choice_130 : decode cX8_choice 130 = .ok (.iconst 0, 1) := by decide +kernel
theorem dX8_choice_131 : decode cX8_choice 131 = .ok (.iastore, 1) := by decide +kernel
theorem dX8_choice_132 : decode cX8_choice 132 = .ok (.aload_n 1, 1) := by decide +kernel
theorem dX8_choice_133 : decode cX8_choice 133 = .ok (.aload_n 0, 1) := by decide +kernel
theorem dX8_choice_134 : decode cX8_choice 134 = .ok (.getfield 36, 3) := by decide +kernel
theorem dX8_choice_137 : decode cX8_choice 137 = .ok (.invokevirtual 127, 3) := by decide +kernel
theorem dX8_choice_140 : decode cX8_choice 140 = .ok (.istore 6, 2) := by decide +kernel
theorem dX8_choice_142 : decode cX8_choice 142 = .ok (.iload 6, 2) := by decide +kernel
theorem dX8_choice_144 : decode cX8_choice 144 = .ok (.iload_n 3, 1) := by decide +kernel
theorem dX8_choice_145 : decode cX8_choice 145 = .ok (.if_icmp .le 10, 3) := by decide +kernel
theorem dX8_choice_148 : decode cX8_choice 148 = .ok (.iload 6, 2) := by decide +kernel
theorem dX8_choice_150 : decode cX8_choice 150 = .ok (.istore_n 3, 1) := by decide +kernel
theorem dX8_choice_151 : decode cX8_choice 151 = .ok (.iload 5, 2) := by decide +kernel
theorem dX8_choice_153 : decode cX8_choice 153 = .ok (.istore 4, 2) := by decide +kernel
theorem dX8_choice_155 : decode cX8_choice 155 = .ok (.iinc 5 1, 3) := by decide +kernel
theorem dX8_choice_158 : decode cX8_choice 158 = .ok (.goto (-108), 3) := by decide +kernel
theorem dX8_choice_161 : decode cX8_choice 161 = .ok (.iload 4, 2) := by decide +kernel
theorem dX8_choice_163 : decode cX8_choice 163 = .ok (.ireturn, 1) := by decide +kernel
theorem dX8_payOut_0 : decode cX8_payOut 0 = .ok (.iconst 0, 1) := by decide +kernel
theorem dX8_payOut_1 : decode cX8_payOut 1 = .ok (.istore_n 1, 1) := by decide +kernel
theorem dX8_payOut_2 : decode cX8_payOut 2 = .ok (.iload_n 1, 1) := by decide +kernel
theorem dX8_payOut_3 : decode cX8_payOut 3 = .ok (.aload_n 0, 1) := by decide +kernel
theorem dX8_payOut_4 : decode cX8_payOut 4 = .ok (.getfield 62, 3) := by decide +kernel
theorem dX8_payOut_7 : decode cX8_payOut 7 = .ok (.if_icmp .ge 87, 3) := by decide +kernel
theorem dX8_payOut_10 : decode cX8_payOut 10 = .ok (.aload_n 0, 1) := by decide +kernel
theorem dX8_payOut_11 : decode cX8_payOut 11 = .ok (.getfield 9, 3) := by decide +kernel
theorem dX8_payOut_14 : decode cX8_payOut 14 = .ok (.iload_n 1, 1) := by decide +kernel
theorem dX8_payOut_15 : decode cX8_payOut 15 = .ok (.iaload, 1) := by decide +kernel
theorem dX8_payOut_16 : decode cX8_payOut 16 = .ok (.iconst 2, 1) := by decide +kernel
theorem dX8_payOut_17 : decode cX8_payOut 17 = .ok (.if_icmp .eq 13, 3) := by decide +kernel
theorem dX8_payOut_20 : decode cX8_payOut 20 = .ok (.aload_n 0, 1) := by decide +kernel
theorem dX8_payOut_21 : decode cX8_payOut 21 = .ok (.getfield 9, 3) := by decide +kernel
theorem dX8_payOut_24 : decode cX8_payOut 24 = .ok (.iload_n 1, 1) := by decide +kernel
theorem dX8_payOut_25 : decode cX8_payOut 25 = .ok (.iaload, 1) := by decide +kernel
theorem dX8_payOut_26 : decode cX8_payOut 26 = .ok (.iconst 4, 1) := by decide +kernel
theorem dX8_payOut_27 : decode cX8_payOut 27 = .ok (.if_icmp .ne 7, 3) := by decide +kernel
theorem dX8_payOut_30 : decode cX8_payOut 30 = .ok (.iconst 1, 1) := by decide +kernel
theorem dX8_payOut_31 : decode cX8_payOut 31 = .ok (.goto 4, 3) := by decide +kernel
theorem dX8_payOut_34 : decode cX8_payOut 34 = .ok (.iconst 0, 1) := by decide +kernel
theorem dX8_payOut_35 : decode cX8_payOut 35 = .ok (.istore_n 2, 1) := by decide +kernel
theorem dX8_payOut_36 : decode cX8_payOut 36 = .ok (.iload_n 2, 1) := by decide +kernel
theorem dX8_payOut_37 : decode cX8_payOut 37 = .ok (.ifCond .eq 16, 3) := by decide +kernel
theorem dX8_payOut_40 : decode cX8_payOut 40 = .ok (.aload_n 0, 1) := by decide +kernel
theorem dX8_payOut_41 : decode cX8_payOut 41 = .ok (.getfield 18, 3) := by decide +kernel
theorem dX8_payOut_44 : decode cX8_payOut 44 = .ok (.iload_n 1, 1) := by decide +kernel
theorem dX8_payOut_45 : decode cX8_payOut 45 = .ok (.iaload, 1) := by decide +kernel
theorem dX8_payOut_46 : decode cX8_payOut 46 = .ok (.iconst 1, 1) := by decide +kernel
theorem dX8_payOut_47 : decode cX8_payOut 47 = .ok (.invokestatic 56, 3) := by decide +kernel
theorem dX8_payOut_50 : decode cX8_payOut 50 = .ok (.goto 23, 3) := by decide +kernel
theorem dX8_payOut_53 : decode cX8_payOut 53 = .ok (.aload_n 0, 1) := by decide +kernel
theorem dX8_payOut_54 : decode cX8_payOut 54 = .ok (.getfield 9, 3) := by decide +kernel
theorem dX8_payOut_57 : decode cX8_payOut 57 = .ok (.iload_n 1, 1) := by decide +kernel
theorem dX8_payOut_58 : decode cX8_payOut 58 = .ok (.iaload, 1) := by decide +kernel
theorem dX8_payOut_59 : decode cX8_payOut 59 = .ok (.iconst 1, 1) := by decide +kernel
theorem dX8_payOut_60 : decode cX8_payOut 60 = .ok (.if_icmp .ne 12, 3) := by decide +kernel
theorem dX8_payOut_63 : decode cX8_payOut 63 = .ok (.aload_n 0, 1) := by decide +kernel
theorem dX8_payOut_64 : decode cX8_payOut 64 = .ok (.getfield 18, 3) := by decide +kernel
theorem dX8_payOut_67 : decode cX8_payOut 67 = .ok (.iload_n 1, 1) := by decide +kernel
theorem dX8_payOut_68 : decode cX8_payOut 68 = .ok (.iaload, 1) := by decide +kernel
theorem dX8_payOut_69 : decode cX8_payOut 69 = .ok (.goto 4, 3) := by decide +kernel
theorem dX8_payOut_72 : decode cX8_payOut 72 = .ok (.iconst 0, 1) := by decide +kernel
theorem dX8_payOut_73 : decode cX8_payOut 73 = .ok (.istore_n 3, 1) := by decide +kernel
theorem dX8_payOut_74 : decode cX8_payOut 74 = .ok (.aload_n 0, 1) := by decide +kernel
theorem dX8_payOut_75 : decode cX8_payOut 75 = .ok (.getfield 21, 3) := by decide +kernel
theorem dX8_payOut_78 : decode cX8_payOut 78 = .ok (.iload_n 1, 1) := by decide +kernel
theorem dX8_payOut_79 : decode cX8_payOut 79 = .ok (.iload_n 3, 1) := by decide +kernel
theorem dX8_payOut_80 : decode cX8_payOut 80 = .ok (.aload_n 0, 1) := by decide +kernel
theorem dX8_payOut_81 : decode cX8_payOut 81 = .ok (.getfield 15, 3) := by decide +kernel
theorem dX8_payOut_84 : decode cX8_payOut 84 = .ok (.iload_n 1, 1) := by decide +kernel
theorem dX8_payOut_85 : decode cX8_payOut 85 = .ok (.iaload, 1) := by decide +kernel
theorem dX8_payOut_86 : decode cX8_payOut 86 = .ok (.imul, 1) := by decide +kernel
theorem dX8_payOut_87 : decode cX8_payOut 87 = .ok (.iastore, 1) := by decide +kernel
theorem dX8_payOut_88 : decode cX8_payOut 88 = .ok (.iinc 1 1, 3) := by decide +kernel
theorem dX8_payOut_91 : decode cX8_payOut 91 = .ok (.goto (-89), 3) := by decide +kernel
theorem dX8_payOut_94 : decode cX8_payOut 94 = .ok (.return_, 1) := by decide +kernel
theorem dX8_packed_0 : decode cX8_packed 0 = .ok (.iconst 0, 1) := by decide +kernel
theorem dX8_packed_1 : decode cX8_packed 1 = .ok (.istore_n 1, 1) := by decide +kernel
theorem dX8_packed_2 : decode cX8_packed 2 = .ok (.iconst 0, 1) := by decide +kernel
theorem dX8_packed_3 : decode cX8_packed 3 = .ok (.istore_n 2, 1) := by decide +kernel
theorem dX8_packed_4 : decode cX8_packed 4 = .ok (.iload_n 2, 1) := by decide +kernel
theorem dX8_packed_5 : decode cX8_packed 5 = .ok (.aload_n 0, 1) := by decide +kernel
theorem dX8_packed_6 : decode cX8_packed 6 = .ok (.getfield 68, 3) := by decide +kernel
theorem dX8_packed_9 : decode cX8_packed 9 = .ok (.if_icmp .ge 24, 3) := by decide +kernel
theorem dX8_packed_12 : decode cX8_packed 12 = .ok (.iload_n 1, 1) := by decide +kernel
theorem dX8_packed_13 : decode cX8_packed 13 = .ok (.aload_n 0, 1) := by decide +kernel
theorem dX8_packed_14 : decode cX8_packed 14 = .ok (.getfield 27, 3) := by decide +kernel
theorem dX8_packed_17 : decode cX8_packed 17 = .ok (.iload_n 2, 1) := by decide +kernel
theorem dX8_packed_18 : decode cX8_packed 18 = .ok (.iaload, 1) := by decide +kernel
theorem dX8_packed_19 : decode cX8_packed 19 = .ok (.iconst 1, 1) := by decide +kernel
theorem dX8_packed_20 : decode cX8_packed 20 = .ok (.iadd, 1) := by decide +kernel
theorem dX8_packed_21 : decode cX8_packed 21 = .ok (.iconst 3, 1) := by decide +kernel
theorem dX8_packed_22 : decode cX8_packed 22 = .ok (.iload_n 2, 1) := by decide +kernel
theorem dX8_packed_23 : decode cX8_packed 23 = .ok (.imul, 1) := by decide +kernel
theorem dX8_packed_24 : decode cX8_packed 24 = .ok (.ishl, 1) := by decide +kernel
theorem dX8_packed_25 : decode cX8_packed 25 = .ok (.ior, 1) := by decide +kernel
theorem dX8_packed_26 : decode cX8_packed 26 = .ok (.istore_n 1, 1) := by decide +kernel
theorem dX8_packed_27 : decode cX8_packed 27 = .ok (.iinc 2 1, 3) := by decide +kernel
theorem dX8_packed_30 : decode cX8_packed 30 = .ok (.goto (-26), 3) := by decide +kernel
theorem dX8_packed_33 : decode cX8_packed 33 = .ok (.iload_n 1, 1) := by decide +kernel
theorem dX8_packed_34 : decode cX8_packed 34 = .ok (.ireturn, 1) := by decide +kernel
theorem dX8_unpack_0 : decode cX8_unpack 0 = .ok (.iconst 0, 1) := by decide +kernel
theorem dX8_unpack_1 : decode cX8_unpack 1 = .ok (.istore_n 2, 1) := by decide +kernel
theorem dX8_unpack_2 : decode cX8_unpack 2 = .ok (.iload_n 2, 1) := by decide +kernel
theorem dX8_unpack_3 : decode cX8_unpack 3 = .ok (.aload_n 0, 1) := by decide +kernel
theorem dX8_unpack_4 : decode cX8_unpack 4 = .ok (.getfield 68, 3) := by decide +kernel
theorem dX8_unpack_7 : decode cX8_unpack 7 = .ok (.if_icmp .ge 25, 3) := by decide +kernel
theorem dX8_unpack_10 : decode cX8_unpack 10 = .ok (.aload_n 0, 1) := by decide +kernel
theorem dX8_unpack_11 : decode cX8_unpack 11 = .ok (.getfield 27, 3) := by decide +kernel
theorem dX8_unpack_14 : decode cX8_unpack 14 = .ok (.iload_n 2, 1) := by decide +kernel
theorem dX8_unpack_15 : decode cX8_unpack 15 = .ok (.iload_n 1, 1) := by decide +kernel
theorem dX8_unpack_16 : decode cX8_unpack 16 = .ok (.iconst 3, 1) := by decide +kernel
theorem dX8_unpack_17 : decode cX8_unpack 17 = .ok (.iload_n 2, 1) := by decide +kernel
theorem dX8_unpack_18 : decode cX8_unpack 18 = .ok (.imul, 1) := by decide +kernel
theorem dX8_unpack_19 : decode cX8_unpack 19 = .ok (.iushr, 1) := by decide +kernel
theorem dX8_unpack_20 : decode cX8_unpack 20 = .ok (.bipush 7, 2) := by decide +kernel
theorem dX8_unpack_22 : decode cX8_unpack 22 = .ok (.iand, 1) := by decide +kernel
theorem dX8_unpack_23 : decode cX8_unpack 23 = .ok (.iconst 1, 1) := by decide +kernel
theorem dX8_unpack_24 : decode cX8_unpack 24 = .ok (.isub, 1) := by decide +kernel
theorem dX8_unpack_25 : decode cX8_unpack 25 = .ok (.iastore, 1) := by decide +kernel
theorem dX8_unpack_26 : decode cX8_unpack 26 = .ok (.iinc 2 1, 3) := by decide +kernel
theorem dX8_unpack_29 : decode cX8_unpack 29 = .ok (.goto (-27), 3) := by decide +kernel
theorem dX8_unpack_32 : decode cX8_unpack 32 = .ok (.aload_n 0, 1) := by decide +kernel
theorem dX8_unpack_33 : decode cX8_unpack 33 = .ok (.invokevirtual 105, 3) := by decide +kernel
theorem dX8_unpack_36 : decode cX8_unpack 36 = .ok (.return_, 1) := by decide +kernel
theorem dX8_sinceLikeWeek_0 : decode cX8_sinceLikeWeek 0 = .ok (.iconst 0, 1) := by decide +kernel
theorem dX8_sinceLikeWeek_1 : decode cX8_sinceLikeWeek 1 = .ok (.istore_n 2, 1) := by decide +kernel
theorem dX8_sinceLikeWeek_2 : decode cX8_sinceLikeWeek 2 = .ok (.iload_n 2, 1) := by decide +kernel
theorem dX8_sinceLikeWeek_3 : decode cX8_sinceLikeWeek 3 = .ok (.iload_n 1, 1) := by decide +kernel
theorem dX8_sinceLikeWeek_4 : decode cX8_sinceLikeWeek 4 = .ok (.if_icmp .ge 28, 3) := by decide +kernel
theorem dX8_sinceLikeWeek_7 : decode cX8_sinceLikeWeek 7 = .ok (.aload_n 0, 1) := by decide +kernel
theorem dX8_sinceLikeWeek_8 : decode cX8_sinceLikeWeek 8 = .ok (.getfield 39, 3) := by decide +kernel
theorem dX8_sinceLikeWeek_11 : decode cX8_sinceLikeWeek 11 = .ok (.iload_n 2, 1) := by decide +kernel
theorem dX8_sinceLikeWeek_12 : decode cX8_sinceLikeWeek 12 = .ok (.iaload, 1) := by decide +kernel
theorem dX8_sinceLikeWeek_13 : decode cX8_sinceLikeWeek 13 = .ok (.aload_n 0, 1) := by decide +kernel
theorem dX8_sinceLikeWeek_14 : decode cX8_sinceLikeWeek 14 = .ok (.getfield 39, 3) := by decide +kernel
theorem dX8_sinceLikeWeek_17 : decode cX8_sinceLikeWeek 17 = .ok (.iload_n 1, 1) := by decide +kernel
theorem dX8_sinceLikeWeek_18 : decode cX8_sinceLikeWeek 18 = .ok (.iaload, 1) := by decide +kernel
theorem dX8_sinceLikeWeek_19 : decode cX8_sinceLikeWeek 19 = .ok (.if_icmp .ne 7, 3) := by decide +kernel
theorem dX8_sinceLikeWeek_22 : decode cX8_sinceLikeWeek 22 = .ok (.iload_n 1, 1) := by decide +kernel
theorem dX8_sinceLikeWeek_23 : decode cX8_sinceLikeWeek 23 = .ok (.iload_n 2, 1) := by decide +kernel
theorem dX8_sinceLikeWeek_24 : decode cX8_sinceLikeWeek 24 = .ok (.isub, 1) := by decide +kernel
theorem dX8_sinceLikeWeek_25 : decode cX8_sinceLikeWeek 25 = .ok (.ireturn, 1) := by decide +kernel
theorem dX8_sinceLikeWeek_26 : decode cX8_sinceLikeWeek 26 = .ok (.iinc 2 1, 3) := by decide +kernel
theorem dX8_sinceLikeWeek_29 : decode cX8_sinceLikeWeek 29 = .ok (.goto (-27), 3) := by decide +kernel
theorem dX8_sinceLikeWeek_32 : decode cX8_sinceLikeWeek 32 = .ok (.iconst 0, 1) := by decide +kernel
theorem dX8_sinceLikeWeek_33 : decode cX8_sinceLikeWeek 33 = .ok (.ireturn, 1) := by decide +kernel
theorem dX8_lastUnlike_0 : decode cX8_lastUnlike 0 = .ok (.aload_n 0, 1) := by decide +kernel
theorem dX8_lastUnlike_1 : decode cX8_lastUnlike 1 = .ok (.getfield 70, 3) := by decide +kernel
theorem dX8_lastUnlike_4 : decode cX8_lastUnlike 4 = .ok (.iconst 1, 1) := by decide +kernel
theorem dX8_lastUnlike_5 : decode cX8_lastUnlike 5 = .ok (.isub, 1) := by decide +kernel
theorem dX8_lastUnlike_6 : decode cX8_lastUnlike 6 = .ok (.istore_n 1, 1) := by decide +kernel
theorem dX8_lastUnlike_7 : decode cX8_lastUnlike 7 = .ok (.aload_n 0, 1) := by decide +kernel
theorem dX8_lastUnlike_8 : decode cX8_lastUnlike 8 = .ok (.getfield 76, 3) := by decide +kernel
theorem dX8_lastUnlike_11 : decode cX8_lastUnlike 11 = .ok (.ifCond .le 32, 3) := by decide +kernel
theorem dX8_lastUnlike_14 : decode cX8_lastUnlike 14 = .ok (.iload_n 1, 1) := by decide +kernel
theorem dX8_lastUnlike_15 : decode cX8_lastUnlike 15 = .ok (.aload_n 0, 1) := by decide +kernel
theorem dX8_lastUnlike_16 : decode cX8_lastUnlike 16 = .ok (.getfield 73, 3) := by decide +kernel
theorem dX8_lastUnlike_19 : decode cX8_lastUnlike 19 = .ok (.if_icmp .lt 24, 3) := by decide +kernel
theorem dX8_lastUnlike_22 : decode cX8_lastUnlike 22 = .ok (.aload_n 0, 1) := by decide +kernel
theorem dX8_lastUnlike_23 : decode cX8_lastUnlike 23 = .ok (.getfield 73, 3) := by decide +kernel
theorem dX8_lastUnlike_26 : decode cX8_lastUnlike 26 = .ok (.aload_n 0, 1) := by decide +kernel
theorem dX8_lastUnlike_27 : decode cX8_lastUnlike 27 = .ok (.getfield 76, 3) := by decide +kernel
theorem dX8_lastUnlike_30 : decode cX8_lastUnlike 30 = .ok (.isub, 1) := by decide +kernel
theorem dX8_lastUnlike_31 : decode cX8_lastUnlike 31 = .ok (.istore_n 2, 1) := by decide +kernel
theorem dX8_lastUnlike_32 : decode cX8_lastUnlike 32 = .ok (.iload_n 2, 1) := by decide +kernel
theorem dX8_lastUnlike_33 : decode cX8_lastUnlike 33 = .ok (.iload_n 1, 1) := by decide +kernel
theorem dX8_lastUnlike_34 : decode cX8_lastUnlike 34 = .ok (.iload_n 2, 1) := by decide +kernel
theorem dX8_lastUnlike_35 : decode cX8_lastUnlike 35 = .ok (.isub, 1) := by decide +kernel
theorem dX8_lastUnlike_36 : decode cX8_lastUnlike 36 = .ok (.aload_n 0, 1) := by decide +kernel
theorem dX8_lastUnlike_37 : decode cX8_lastUnlike 37 = .ok (.getfield 76, 3) := by decide +kernel
theorem dX8_lastUnlike_40 : decode cX8_lastUnlike 40 = .ok (.irem, 1) := by decide +kernel
theorem dX8_lastUnlike_41 : decode cX8_lastUnlike 41 = .ok (.iadd, 1) := by decide +kernel
theorem dX8_lastUnlike_42 : decode cX8_lastUnlike 42 = .ok (.istore_n 1, 1) := by decide +kernel
theorem dX8_lastUnlike_43 : decode cX8_lastUnlike 43 = .ok (.iload_n 1, 1) := by decide +kernel
theorem dX8_lastUnlike_44 : decode cX8_lastUnlike 44 = .ok (.iconst 0, 1) := by decide +kernel
theorem dX8_lastUnlike_45 : decode cX8_lastUnlike 45 = .ok (.bipush 59, 2) := by decide +kernel
theorem dX8_lastUnlike_47 : decode cX8_lastUnlike 47 = .ok (.invokestatic 133, 3) := by decide +kernel
theorem dX8_lastUnlike_50 : decode cX8_lastUnlike 50 = .ok (.ifCond .eq 7, 3) := by decide +kernel
theorem dX8_lastUnlike_53 : decode cX8_lastUnlike 53 = .ok (.iload_n 1, 1) := by decide +kernel
theorem dX8_lastUnlike_54 : decode cX8_lastUnlike 54 = .ok (.goto 4, 3) := by decide +kernel
theorem dX8_lastUnlike_57 : decode cX8_lastUnlike 57 = .ok (.iconst 0, 1) := by decide +kernel
theorem dX8_lastUnlike_58 : decode cX8_lastUnlike 58 = .ok (.ireturn, 1) := by decide +kernel
theorem dX8_howOften_0 : decode cX8_howOften 0 = .ok (.aload_n 0, 1) := by decide +kernel
theorem dX8_howOften_1 : decode cX8_howOften 1 = .ok (.getfield 76, 3) := by decide +kernel
theorem dX8_howOften_4 : decode cX8_howOften 4 = .ok (.ifCond .le 16, 3) := by decide +kernel
theorem dX8_howOften_7 : decode cX8_howOften 7 = .ok (.iload_n 1, 1) := by decide +kernel
theorem dX8_howOften_8 : decode cX8_howOften 8 = .ok (.aload_n 0, 1) := by decide +kernel
theorem dX8_howOften_9 : decode cX8_howOften 9 = .ok (.getfield 73, 3) := by decide +kernel
theorem dX8_howOften_12 : decode cX8_howOften 12 = .ok (.aload_n 0, 1) := by decide +kernel
theorem dX8_howOften_13 : decode cX8_howOften 13 = .ok (.getfield 76, 3) := by decide +kernel
theorem dX8_howOften_16 : decode cX8_howOften 16 = .ok (.isub, 1) := by decide +kernel
theorem dX8_howOften_17 : decode cX8_howOften 17 = .ok (.if_icmp .ge 5, 3) := by decide +kernel
theorem dX8_howOften_20 : decode cX8_howOften 20 = .ok (.iconst 1, 1) := by decide +kernel
theorem dX8_howOften_21 : decode cX8_howOften 21 = .ok (.ireturn, 1) := by decide +kernel
theorem dX8_howOften_22 : decode cX8_howOften 22 = .ok (.iconst 1, 1) := by decide +kernel
theorem dX8_howOften_23 : decode cX8_howOften 23 = .ok (.aload_n 0, 1) := by decide +kernel
theorem dX8_howOften_24 : decode cX8_howOften 24 = .ok (.getfield 70, 3) := by decide +kernel
theorem dX8_howOften_27 : decode cX8_howOften 27 = .ok (.iconst 1, 1) := by decide +kernel
theorem dX8_howOften_28 : decode cX8_howOften 28 = .ok (.isub, 1) := by decide +kernel
theorem dX8_howOften_29 : decode cX8_howOften 29 = .ok (.iload_n 1, 1) := by decide +kernel
theorem dX8_howOften_30 : decode cX8_howOften 30 = .ok (.isub, 1) := by decide +kernel
theorem dX8_howOften_31 : decode cX8_howOften 31 = .ok (.aload_n 0, 1) := by decide +kernel
theorem dX8_howOften_32 : decode cX8_howOften 32 = .ok (.getfield 76, 3) := by decide +kernel
theorem dX8_howOften_35 : decode cX8_howOften 35 = .ok (.idiv, 1) := by decide +kernel
theorem dX8_howOften_36 : decode cX8_howOften 36 = .ok (.iadd, 1) := by decide +kernel
theorem dX8_howOften_37 : decode cX8_howOften 37 = .ok (.ireturn, 1) := by decide +kernel
theorem dX8_settleAll_0 : decode cX8_settleAll 0 = .ok (.iconst 0, 1) := by decide +kernel
theorem dX8_settleAll_1 : decode cX8_settleAll 1 = .ok (.istore_n 1, 1) := by decide +kernel
theorem dX8_settleAll_2 : decode cX8_settleAll 2 = .ok (.iload_n 1, 1) := by decide +kernel
theorem dX8_settleAll_3 : decode cX8_settleAll 3 = .ok (.bipush 6, 2) := by decide +kernel
theorem dX8_settleAll_5 : decode cX8_settleAll 5 = .ok (.if_icmp .ge 16, 3) := by decide +kernel
theorem dX8_settleAll_8 : decode cX8_settleAll 8 = .ok (.aload_n 0, 1) := by decide +kernel
theorem dX8_settleAll_9 : decode cX8_settleAll 9 = .ok (.getfield 24, 3) := by decide +kernel
theorem dX8_settleAll_12 : decode cX8_settleAll 12 = .ok (.iload_n 1, 1) := by decide +kernel
theorem dX8_settleAll_13 : decode cX8_settleAll 13 = .ok (.iconst 0, 1) := by decide +kernel
theorem dX8_settleAll_14 : decode cX8_settleAll 14 = .ok (.iastore, 1) := by decide +kernel
theorem dX8_settleAll_15 : decode cX8_settleAll 15 = .ok (.iinc 1 1, 3) := by decide +kernel
theorem dX8_settleAll_18 : decode cX8_settleAll 18 = .ok (.goto (-16), 3) := by decide +kernel
theorem dX8_settleAll_21 : decode cX8_settleAll 21 = .ok (.iconst 0, 1) := by decide +kernel
theorem dX8_settleAll_22 : decode cX8_settleAll 22 = .ok (.istore_n 1, 1) := by decide +kernel
theorem dX8_settleAll_23 : decode cX8_settleAll 23 = .ok (.iload_n 1, 1) := by decide +kernel
theorem dX8_settleAll_24 : decode cX8_settleAll 24 = .ok (.bipush 8, 2) := by decide +kernel
theorem dX8_settleAll_26 : decode cX8_settleAll 26 = .ok (.if_icmp .ge 16, 3) := by decide +kernel
theorem dX8_settleAll_29 : decode cX8_settleAll 29 = .ok (.aload_n 0, 1) := by decide +kernel
theorem dX8_settleAll_30 : decode cX8_settleAll 30 = .ok (.getfield 33, 3) := by decide +kernel
theorem dX8_settleAll_33 : decode cX8_settleAll 33 = .ok (.iload_n 1, 1) := by decide +kernel
theorem dX8_settleAll_34 : decode cX8_settleAll 34 = .ok (.iconst 0, 1) := by decide +kernel
theorem dX8_settleAll_35 : decode cX8_settleAll 35 = .ok (.iastore, 1) := by decide +kernel
theorem dX8_settleAll_36 : decode cX8_settleAll 36 = .ok (.iinc 1 1, 3) := by decide +kernel
theorem dX8_settleAll_39 : decode cX8_settleAll 39 = .ok (.goto (-16), 3) := by decide +kernel
theorem dX8_settleAll_42 : decode cX8_settleAll 42 = .ok (.iconst 0, 1) := by decide +kernel
theorem dX8_settleAll_43 : decode cX8_settleAll 43 = .ok (.istore_n 1, 1) := by decide +kernel
theorem dX8_settleAll_44 : decode cX8_settleAll 44 = .ok (.iload_n 1, 1) := by decide +kernel
theorem dX8_settleAll_45 : decode cX8_settleAll 45 = .ok (.aload_n 0, 1) := by decide +kernel
theorem dX8_settleAll_46 : decode cX8_settleAll 46 = .ok (.getfield 73, 3) := by decide +kernel
theorem dX8_settleAll_49 : decode cX8_settleAll 49 = .ok (.if_icmp .ge 59, 3) := by decide +kernel
theorem dX8_settleAll_52 : decode cX8_settleAll 52 = .ok (.aload_n 0, 1) := by decide +kernel
theorem dX8_settleAll_53 : decode cX8_settleAll 53 = .ok (.aload_n 0, 1) := by decide +kernel
theorem dX8_settleAll_54 : decode cX8_settleAll 54 = .ok (.getfield 39, 3) := by decide +kernel
theorem dX8_settleAll_57 : decode cX8_settleAll 57 = .ok (.iload_n 1, 1) := by decide +kernel
theorem dX8_settleAll_58 : decode cX8_settleAll 58 = .ok (.iaload, 1) := by decide +kernel
theorem dX8_settleAll_59 : decode cX8_settleAll 59 = .ok (.invokevirtual 98, 3) := by decide +kernel
theorem dX8_settleAll_62 : decode cX8_settleAll 62 = .ok (.iconst 0, 1) := by decide +kernel
theorem dX8_settleAll_63 : decode cX8_settleAll 63 = .ok (.istore_n 2, 1) := by decide +kernel
theorem dX8_settleAll_64 : decode cX8_settleAll 64 = .ok (.iload_n 2, 1) := by decide +kernel
theorem dX8_settleAll_65 : decode cX8_settleAll 65 = .ok (.aload_n 0, 1) := by decide +kernel
theorem dX8_settleAll_66 : decode cX8_settleAll 66 = .ok (.getfield 68, 3) := by decide +kernel
theorem dX8_settleAll_69 : decode cX8_settleAll 69 = .ok (.if_icmp .ge 33, 3) := by decide +kernel
theorem dX8_settleAll_72 : decode cX8_settleAll 72 = .ok (.aload_n 0, 1) := by decide +kernel
theorem dX8_settleAll_73 : decode cX8_settleAll 73 = .ok (.iload_n 2, 1) := by decide +kernel
theorem dX8_settleAll_74 : decode cX8_settleAll 74 = .ok (.invokevirtual 108, 3) := by decide +kernel
theorem dX8_settleAll_77 : decode cX8_settleAll 77 = .ok (.ifCond .eq 19, 3) := by decide +kernel
theorem dX8_settleAll_80 : decode cX8_settleAll 80 = .ok (.aload_n 0, 1) := by decide +kernel
theorem dX8_settleAll_81 : decode cX8_settleAll 81 = .ok (.iload_n 2, 1) := by decide +kernel
theorem dX8_settleAll_82 : decode cX8_settleAll 82 = .ok (.aload_n 0, 1) := by decide +kernel
theorem dX8_settleAll_83 : decode cX8_settleAll 83 = .ok (.getfield 27, 3) := by decide +kernel
theorem dX8_settleAll_86 : decode cX8_settleAll 86 = .ok (.iload_n 2, 1) := by decide +kernel
theorem dX8_settleAll_87 : decode cX8_settleAll 87 = .ok (.iaload, 1) := by decide +kernel
theorem dX8_settleAll_88 : decode cX8_settleAll 88 = .ok (.aload_n 0, 1) := by decide +kernel
theorem dX8_settleAll_89 : decode cX8_settleAll 89 = .ok (.iload_n 1, 1) := by decide +kernel
theorem dX8_settleAll_90 : decode cX8_settleAll 90 = .ok (.invokevirtual 137, 3) := by decide +kernel
theorem dX8_settleAll_93 : decode cX8_settleAll 93 = .ok (.invokevirtual 140, 3) := by decide +kernel
theorem dX8_settleAll_96 : decode cX8_settleAll 96 = .ok (.iinc 2 1, 3) := by decide +kernel
theorem dX8_settleAll_99 : decode cX8_settleAll 99 = .ok (.goto (-35), 3) := by decide +kernel
theorem dX8_settleAll_102 : decode cX8_settleAll 102 = .ok (.iinc 1 1, 3) := by decide +kernel
theorem dX8_settleAll_105 : decode cX8_settleAll 105 = .ok (.goto (-61), 3) := by decide +kernel
theorem dX8_settleAll_108 : decode cX8_settleAll 108 = .ok (.aload_n 0, 1) := by decide +kernel
theorem dX8_settleAll_109 : decode cX8_settleAll 109 = .ok (.aload_n 0, 1) := by decide +kernel
theorem dX8_settleAll_110 : decode cX8_settleAll 110 = .ok (.getfield 39, 3) := by decide +kernel
theorem dX8_settleAll_113 : decode cX8_settleAll 113 = .ok (.aload_n 0, 1) := by decide +kernel
theorem dX8_settleAll_114 : decode cX8_settleAll 114 = .ok (.invokevirtual 95, 3) := by decide +kernel
theorem dX8_settleAll_117 : decode cX8_settleAll 117 = .ok (.iaload, 1) := by decide +kernel
theorem dX8_settleAll_118 : decode cX8_settleAll 118 = .ok (.invokevirtual 98, 3) := by decide +kernel
theorem dX8_settleAll_121 : decode cX8_settleAll 121 = .ok (.return_, 1) := by decide +kernel
theorem dX8_settle_0 : decode cX8_settle 0 = .ok (.aload_n 0, 1) := by decide +kernel
theorem dX8_settle_1 : decode cX8_settle 1 = .ok (.iload_n 1, 1) := by decide +kernel
theorem dX8_settle_2 : decode cX8_settle 2 = .ok (.iload_n 2, 1) := by decide +kernel
theorem dX8_settle_3 : decode cX8_settle 3 = .ok (.invokevirtual 144, 3) := by decide +kernel
theorem dX8_settle_6 : decode cX8_settle 6 = .ok (.istore 4, 2) := by decide +kernel
theorem dX8_settle_8 : decode cX8_settle 8 = .ok (.aload_n 0, 1) := by decide +kernel
theorem dX8_settle_9 : decode cX8_settle 9 = .ok (.iload_n 1, 1) := by decide +kernel
theorem dX8_settle_10 : decode cX8_settle 10 = .ok (.iload_n 2, 1) := by decide +kernel
theorem dX8_settle_11 : decode cX8_settle 11 = .ok (.invokevirtual 148, 3) := by decide +kernel
theorem dX8_settle_14 : decode cX8_settle 14 = .ok (.istore 5, 2) := by decide +kernel
theorem dX8_settle_16 : decode cX8_settle 16 = .ok (.aload_n 0, 1) := by decide +kernel
theorem dX8_settle_17 : decode cX8_settle 17 = .ok (.getfield 42, 3) := by decide +kernel
theorem dX8_settle_20 : decode cX8_settle 20 = .ok (.iload_n 2, 1) := by decide +kernel
theorem dX8_settle_21 : decode cX8_settle 21 = .ok (.invokevirtual 151, 3) := by decide +kernel
theorem dX8_settle_24 : decode cX8_settle 24 = .ok (.istore 6, 2) := by decide +kernel
theorem dX8_settle_26 : decode cX8_settle 26 = .ok (.iload 4, 2) := by decide +kernel
theorem dX8_settle_28 : decode cX8_settle 28 = .ok (.ifCond .eq 22, 3) := by decide +kernel
theorem dX8_settle_31 : decode cX8_settle 31 = .ok (.aload_n 0, 1) := by decide +kernel
theorem dX8_settle_32 : decode cX8_settle 32 = .ok (.getfield 42, 3) := by decide +kernel
theorem dX8_settle_35 : decode cX8_settle 35 = .ok (.iload_n 2, 1) := by decide +kernel
theorem dX8_settle_36 : decode cX8_settle 36 = .ok (.aload_n 0, 1) := by decide +kernel
theorem dX8_settle_37 : decode cX8_settle 37 = .ok (.getfield 42, 3) := by decide +kernel
theorem dX8_settle_40 : decode cX8_settle 40 = .ok (.iload_n 1, 1) := by decide +kernel
theorem dX8_settle_41 : decode cX8_settle 41 = .ok (.invokevirtual 121, 3) := by decide +kernel
theorem dX8_settle_44 : decode cX8_settle 44 = .ok (.invokevirtual 154, 3) := by decide +kernel
theorem dX8_settle_47 : decode cX8_settle 47 = .ok (.goto 4, 3) := by decide +kernel
theorem dX8_settle_50 : decode cX8_settle 50 = .ok (.iconst 0, 1) := by decide +kernel
theorem dX8_settle_51 : decode cX8_settle 51 = .ok (.istore 7, 2) := by decide +kernel
theorem dX8_settle_53 : decode cX8_settle 53 = .ok (.aload_n 0, 1) := by decide +kernel
theorem dX8_settle_54 : decode cX8_settle 54 = .ok (.getfield 9, 3) := by decide +kernel
theorem dX8_settle_57 : decode cX8_settle 57 = .ok (.iload_n 2, 1) := by decide +kernel
theorem dX8_settle_58 : decode cX8_settle 58 = .ok (.iaload, 1) := by decide +kernel
theorem dX8_settle_59 : decode cX8_settle 59 = .ok (.iconst 3, 1) := by decide +kernel
theorem dX8_settle_60 : decode cX8_settle 60 = .ok (.if_icmp .ne 8, 3) := by decide +kernel
theorem dX8_settle_63 : decode cX8_settle 63 = .ok (.iload 6, 2) := by decide +kernel
theorem dX8_settle_65 : decode cX8_settle 65 = .ok (.goto 4, 3) := by decide +kernel
theorem dX8_settle_68 : decode cX8_settle 68 = .ok (.iconst 0, 1) := by decide +kernel
theorem dX8_settle_69 : decode cX8_settle 69 = .ok (.istore 8, 2) := by decide +kernel
theorem dX8_settle_71 : decode cX8_settle 71 = .ok (.iload 4, 2) := by decide +kernel
theorem dX8_settle_73 : decode cX8_settle 73 = .ok (.ifCond .eq 14, 3) := by decide +kernel
theorem dX8_settle_76 : decode cX8_settle 76 = .ok (.aload_n 0, 1) := by decide +kernel
theorem dX8_settle_77 : decode cX8_settle 77 = .ok (.getfield 42, 3) := by decide +kernel
theorem dX8_settle_80 : decode cX8_settle 80 = .ok (.iload_n 2, 1) := by decide +kernel
theorem dX8_settle_81 : decode cX8_settle 81 = .ok (.invokevirtual 124, 3) := by decide +kernel
theorem dX8_settle_84 : decode cX8_settle 84 = .ok (.goto 4, 3) := by decide +kernel
theorem dX8_settle_87 : decode cX8_settle 87 = .ok (.iconst 0, 1) := by decide +kernel
theorem dX8_settle_88 : decode cX8_settle 88 = .ok (.istore 9, 2) := by decide +kernel
theorem dX8_settle_90 : decode cX8_settle 90 = .ok (.aload_n 0, 1) := by decide +kernel
theorem dX8_settle_91 : decode cX8_settle 91 = .ok (.getfield 24, 3) := by decide +kernel
theorem dX8_settle_94 : decode cX8_settle 94 = .ok (.iload_n 2, 1) := by decide +kernel
theorem dX8_settle_95 : decode cX8_settle 95 = .ok (.dup2, 1) := by decide +kernel
theorem dX8_settle_96 : decode cX8_settle 96 = .ok (.iaload, 1) := by decide +kernel
theorem dX8_settle_97 : decode cX8_settle 97 = .ok (.iload_n 3, 1) := by decide +kernel
theorem dX8_settle_98 : decode cX8_settle 98 = .ok (.iload 7, 2) := by decide +kernel
theorem dX8_settle_100 : decode cX8_settle 100 = .ok (.iload 5, 2) := by decide +kernel
theorem dX8_settle_102 : decode cX8_settle 102 = .ok (.iadd, 1) := by decide +kernel
theorem dX8_settle_103 : decode cX8_settle 103 = .ok (.iload 8, 2) := by decide +kernel
theorem dX8_settle_105 : decode cX8_settle 105 = .ok (.iadd, 1) := by decide +kernel
theorem dX8_settle_106 : decode cX8_settle 106 = .ok (.imul, 1) := by decide +kernel
theorem dX8_settle_107 : decode cX8_settle 107 = .ok (.iadd, 1) := by decide +kernel
theorem dX8_settle_108 : decode cX8_settle 108 = .ok (.iastore, 1) := by decide +kernel
theorem dX8_settle_109 : decode cX8_settle 109 = .ok (.aload_n 0, 1) := by decide +kernel
theorem dX8_settle_110 : decode cX8_settle 110 = .ok (.getfield 33, 3) := by decide +kernel
theorem dX8_settle_113 : decode cX8_settle 113 = .ok (.iload_n 1, 1) := by decide +kernel
theorem dX8_settle_114 : decode cX8_settle 114 = .ok (.dup2, 1) := by decide +kernel
theorem dX8_settle_115 : decode cX8_settle 115 = .ok (.iaload, 1) := by decide +kernel
theorem dX8_settle_116 : decode cX8_settle 116 = .ok (.iload_n 3, 1) := by decide +kernel
theorem dX8_settle_117 : decode cX8_settle 117 = .ok (.iload 9, 2) := by decide +kernel
theorem dX8_settle_119 : decode cX8_settle 119 = .ok (.iload 5, 2) := by decide +kernel
theorem dX8_settle_121 : decode cX8_settle 121 = .ok (.iadd, 1) := by decide +kernel
theorem dX8_settle_122 : decode cX8_settle 122 = .ok (.aload_n 0, 1) := by decide +kernel
theorem dX8_settle_123 : decode cX8_settle 123 = .ok (.getfield 42, 3) := by decide +kernel
theorem dX8_settle_126 : decode cX8_settle 126 = .ok (.iload_n 1, 1) := by decide +kernel
theorem dX8_settle_127 : decode cX8_settle 127 = .ok (.invokevirtual 116, 3) := by decide +kernel
theorem dX8_settle_130 : decode cX8_settle 130 = .ok (.isub, 1) := by decide +kernel
theorem dX8_settle_131 : decode cX8_settle 131 = .ok (.imul, 1) := by decide +kernel
theorem dX8_settle_132 : decode cX8_settle 132 = .ok (.iadd, 1) := by decide +kernel
theorem dX8_settle_133 : decode cX8_settle 133 = .ok (.iastore, 1) := by decide +kernel
theorem dX8_settle_134 : decode cX8_settle 134 = .ok (.return_, 1) := by decide +kernel
theorem dX8_isPlaying_0 : decode cX8_isPlaying 0 = .ok (.aload_n 0, 1) := by decide +kernel
theorem dX8_isPlaying_1 : decode cX8_isPlaying 1 = .ok (.getfield 9, 3) := by decide +kernel
theorem dX8_isPlaying_4 : decode cX8_isPlaying 4 = .ok (.iload_n 2, 1) := by decide +kernel
theorem dX8_isPlaying_5 : decode cX8_isPlaying 5 = .ok (.iaload, 1) := by decide +kernel
theorem dX8_isPlaying_6 : decode cX8_isPlaying 6 = .ok (.tableswitch 51 0 3 #[30, 32, 51, 34], 30) := by decide +kernel
theorem dX8_isPlaying_36 : decode cX8_isPlaying 36 = .ok (.iconst 1, 1) := by decide +kernel
theorem dX8_isPlaying_37 : decode cX8_isPlaying 37 = .ok (.ireturn, 1) := by decide +kernel
theorem dX8_isPlaying_38 : decode cX8_isPlaying 38 = .ok (.iconst 0, 1) := by decide +kernel
theorem dX8_isPlaying_39 : decode cX8_isPlaying 39 = .ok (.ireturn, 1) := by decide +kernel
theorem dX8_isPlaying_40 : decode cX8_isPlaying 40 = .ok (.aload_n 0, 1) := by decide +kernel
theorem dX8_isPlaying_41 : decode cX8_isPlaying 41 = .ok (.getfield 42, 3) := by decide +kernel
theorem dX8_isPlaying_44 : decode cX8_isPlaying 44 = .ok (.iload_n 2, 1) := by decide +kernel
theorem dX8_isPlaying_45 : decode cX8_isPlaying 45 = .ok (.invokevirtual 151, 3) := by decide +kernel
theorem dX8_isPlaying_48 : decode cX8_isPlaying 48 = .ok (.ifCond .ne 7, 3) := by decide +kernel
theorem dX8_isPlaying_51 : decode cX8_isPlaying 51 = .ok (.iconst 1, 1) := by decide +kernel
theorem dX8_isPlaying_52 : decode cX8_isPlaying 52 = .ok (.goto 4, 3) := by decide +kernel
theorem dX8_isPlaying_55 : decode cX8_isPlaying 55 = .ok (.iconst 0, 1) := by decide +kernel
theorem dX8_isPlaying_56 : decode cX8_isPlaying 56 = .ok (.ireturn, 1) := by decide +kernel
theorem dX8_isPlaying_57 : decode cX8_isPlaying 57 = .ok (.aload_n 0, 1) := by decide +kernel
theorem dX8_isPlaying_58 : decode cX8_isPlaying 58 = .ok (.iload_n 2, 1) := by decide +kernel
theorem dX8_isPlaying_59 : decode cX8_isPlaying 59 = .ok (.invokevirtual 157, 3) := by decide +kernel
theorem dX8_isPlaying_62 : decode cX8_isPlaying 62 = .ok (.iload_n 1, 1) := by decide +kernel
theorem dX8_isPlaying_63 : decode cX8_isPlaying 63 = .ok (.if_icmp .ne 7, 3) := by decide +kernel
theorem dX8_isPlaying_66 : decode cX8_isPlaying 66 = .ok (.iconst 1, 1) := by decide +kernel
theorem dX8_isPlaying_67 : decode cX8_isPlaying 67 = .ok (.goto 4, 3) := by decide +kernel
theorem dX8_isPlaying_70 : decode cX8_isPlaying 70 = .ok (.iconst 0, 1) := by decide +kernel
theorem dX8_isPlaying_71 : decode cX8_isPlaying 71 = .ok (.ireturn, 1) := by decide +kernel
theorem dX8_getsPaid_0 : decode cX8_getsPaid 0 = .ok (.aload_n 0, 1) := by decide +kernel
theorem dX8_getsPaid_1 : decode cX8_getsPaid 1 = .ok (.getfield 9, 3) := by decide +kernel
theorem dX8_getsPaid_4 : decode cX8_getsPaid 4 = .ok (.iload_n 2, 1) := by decide +kernel
theorem dX8_getsPaid_5 : decode cX8_getsPaid 5 = .ok (.iaload, 1) := by decide +kernel
theorem dX8_getsPaid_6 : decode cX8_getsPaid 6 = .ok (.tableswitch 57 1 4 #[30, 37, 57, 37], 30) := by decide +kernel
theorem dX8_getsPaid_36 : decode cX8_getsPaid 36 = .ok (.aload_n 0, 1) := by decide +kernel
theorem dX8_getsPaid_37 : decode cX8_getsPaid 37 = .ok (.getfield 15, 3) := by decide +kernel
theorem dX8_getsPaid_40 : decode cX8_getsPaid 40 = .ok (.iload_n 2, 1) := by decide +kernel
theorem dX8_getsPaid_41 : decode cX8_getsPaid 41 = .ok (.iaload, 1) := by decide +kernel
theorem dX8_getsPaid_42 : decode cX8_getsPaid 42 = .ok (.ireturn, 1) := by decide +kernel
theorem dX8_getsPaid_43 : decode cX8_getsPaid 43 = .ok (.aload_n 0, 1) := by decide +kernel
theorem dX8_getsPaid_44 : decode cX8_getsPaid 44 = .ok (.iload_n 2, 1) := by decide +kernel
theorem dX8_getsPaid_45 : decode cX8_getsPaid 45 = .ok (.invokevirtual 157, 3) := by decide +kernel
theorem dX8_getsPaid_48 : decode cX8_getsPaid 48 = .ok (.iload_n 1, 1) := by decide +kernel
theorem dX8_getsPaid_49 : decode cX8_getsPaid 49 = .ok (.if_icmp .ne 12, 3) := by decide +kernel
theorem dX8_getsPaid_52 : decode cX8_getsPaid 52 = .ok (.aload_n 0, 1) := by decide +kernel
theorem dX8_getsPaid_53 : decode cX8_getsPaid 53 = .ok (.getfield 15, 3) := by decide +kernel
theorem dX8_getsPaid_56 : decode cX8_getsPaid 56 = .ok (.iload_n 2, 1) := by decide +kernel
theorem dX8_getsPaid_57 : decode cX8_getsPaid 57 = .ok (.iaload, 1) := by decide +kernel
theorem dX8_getsPaid_58 : decode cX8_getsPaid 58 = .ok (.goto 4, 3) := by decide +kernel
theorem dX8_getsPaid_61 : decode cX8_getsPaid 61 = .ok (.iconst 0, 1) := by decide +kernel
theorem dX8_getsPaid_62 : decode cX8_getsPaid 62 = .ok (.ireturn, 1) := by decide +kernel
theorem dX8_getsPaid_63 : decode cX8_getsPaid 63 = .ok (.iconst 0, 1) := by decide +kernel
theorem dX8_getsPaid_64 : decode cX8_getsPaid 64 = .ok (.ireturn, 1) := by decide +kernel
theorem dX8_aloneAt_0 : decode cX8_aloneAt 0 = .ok (.iconst (-1), 1) := by decide +kernel
theorem dX8_aloneAt_1 : decode cX8_aloneAt 1 = .ok (.istore_n 2, 1) := by decide +kernel
theorem dX8_aloneAt_2 : decode cX8_aloneAt 2 = .ok (.iconst 0, 1) := by decide +kernel
theorem dX8_aloneAt_3 : decode cX8_aloneAt 3 = .ok (.istore_n 3, 1) := by decide +kernel
theorem dX8_aloneAt_4 : decode cX8_aloneAt 4 = .ok (.iload_n 3, 1) := by decide +kernel
theorem dX8_aloneAt_5 : decode cX8_aloneAt 5 = .ok (.aload_n 0, 1) := by decide +kernel
theorem dX8_aloneAt_6 : decode cX8_aloneAt 6 = .ok (.getfield 68, 3) := by decide +kernel
theorem dX8_aloneAt_9 : decode cX8_aloneAt 9 = .ok (.if_icmp .ge 63, 3) := by decide +kernel
theorem dX8_aloneAt_12 : decode cX8_aloneAt 12 = .ok (.aload_n 0, 1) := by decide +kernel
theorem dX8_aloneAt_13 : decode cX8_aloneAt 13 = .ok (.getfield 27, 3) := by decide +kernel
theorem dX8_aloneAt_16 : decode cX8_aloneAt 16 = .ok (.iload_n 3, 1) := by decide +kernel
theorem dX8_aloneAt_17 : decode cX8_aloneAt 17 = .ok (.iaload, 1) := by decide +kernel
theorem dX8_aloneAt_18 : decode cX8_aloneAt 18 = .ok (.iload_n 1, 1) := by decide +kernel
theorem dX8_aloneAt_19 : decode cX8_aloneAt 19 = .ok (.if_icmp .eq 6, 3) := by decide +kernel
theorem dX8_aloneAt_22 : decode cX8_aloneAt 22 = .ok (.goto 44, 3) := by decide +kernel
theorem dX8_aloneAt_25 : decode cX8_aloneAt 25 = .ok (.iload_n 2, 1) := by decide +kernel
theorem dX8_aloneAt_26 : decode cX8_aloneAt 26 = .ok (.iconst (-1), 1) := by decide +kernel
theorem dX8_aloneAt_27 : decode cX8_aloneAt 27 = .ok (.if_icmp .ne 8, 3) := by decide +kernel
theorem dX8_aloneAt_30 : decode cX8_aloneAt 30 = .ok (.iload_n 3, 1) := by decide +kernel
theorem dX8_aloneAt_31 : decode cX8_aloneAt 31 = .ok (.istore_n 2, 1) := by decide +kernel
theorem dX8_aloneAt_32 : decode cX8_aloneAt 32 = .ok (.goto 34, 3) := by decide +kernel
theorem dX8_aloneAt_35 : decode cX8_aloneAt 35 = .ok (.aload_n 0, 1) := by decide +kernel
theorem dX8_aloneAt_36 : decode cX8_aloneAt 36 = .ok (.getfield 9, 3) := by decide +kernel
theorem dX8_aloneAt_39 : decode cX8_aloneAt 39 = .ok (.iload_n 1, 1) := by decide +kernel
theorem dX8_aloneAt_40 : decode cX8_aloneAt 40 = .ok (.iaload, 1) := by decide +kernel
theorem dX8_aloneAt_41 : decode cX8_aloneAt 41 = .ok (.iconst 4, 1) := by decide +kernel
theorem dX8_aloneAt_42 : decode cX8_aloneAt 42 = .ok (.if_icmp .ne 24, 3) := by decide +kernel
theorem dX8_aloneAt_45 : decode cX8_aloneAt 45 = .ok (.aload_n 0, 1) := by decide +kernel
theorem dX8_aloneAt_46 : decode cX8_aloneAt 46 = .ok (.getfield 42, 3) := by decide +kernel
theorem dX8_aloneAt_49 : decode cX8_aloneAt 49 = .ok (.iload_n 3, 1) := by decide +kernel
theorem dX8_aloneAt_50 : decode cX8_aloneAt 50 = .ok (.invokevirtual 121, 3) := by decide +kernel
theorem dX8_aloneAt_53 : decode cX8_aloneAt 53 = .ok (.aload_n 0, 1) := by decide +kernel
theorem dX8_aloneAt_54 : decode cX8_aloneAt 54 = .ok (.getfield 42, 3) := by decide +kernel
theorem dX8_aloneAt_57 : decode cX8_aloneAt 57 = .ok (.iload_n 2, 1) := by decide +kernel
theorem dX8_aloneAt_58 : decode cX8_aloneAt 58 = .ok (.invokevirtual 121, 3) := by decide +kernel
theorem dX8_aloneAt_61 : decode cX8_aloneAt 61 = .ok (.if_icmp .le 5, 3) := by decide +kernel
theorem dX8_aloneAt_64 : decode cX8_aloneAt 64 = .ok (.iload_n 3, 1) := by decide +kernel
theorem dX8_aloneAt_65 : decode cX8_aloneAt 65 = .ok (.istore_n 2, 1) := by decide +kernel
theorem dX8_aloneAt_66 : decode cX8_aloneAt 66 = .ok (.iinc 3 1, 3) := by decide +kernel
theorem dX8_aloneAt_69 : decode cX8_aloneAt 69 = .ok (.goto (-65), 3) := by decide +kernel
theorem dX8_aloneAt_72 : decode cX8_aloneAt 72 = .ok (.iload_n 2, 1) := by decide +kernel
theorem dX8_aloneAt_73 : decode cX8_aloneAt 73 = .ok (.ireturn, 1) := by decide +kernel
theorem dX8_leaveThemThere_0 : decode cX8_leaveThemThere 0 = .ok (.iconst 0, 1) := by decide +kernel
theorem dX8_leaveThemThere_1 : decode cX8_leaveThemThere 1 = .ok (.istore_n 1, 1) := by decide +kernel
theorem dX8_leaveThemThere_2 : decode cX8_leaveThemThere 2 = .ok (.iload_n 1, 1) := by decide +kernel
theorem dX8_leaveThemThere_3 : decode cX8_leaveThemThere 3 = .ok (.aload_n 0, 1) := by decide +kernel
theorem dX8_leaveThemThere_4 : decode cX8_leaveThemThere 4 = .ok (.getfield 68, 3) := by decide +kernel
theorem dX8_leaveThemThere_7 : decode cX8_leaveThemThere 7 = .ok (.if_icmp .ge 23, 3) := by decide +kernel
theorem dX8_leaveThemThere_10 : decode cX8_leaveThemThere 10 = .ok (.aload_n 0, 1) := by decide +kernel
theorem dX8_leaveThemThere_11 : decode cX8_leaveThemThere 11 = .ok (.getfield 42, 3) := by decide +kernel
theorem dX8_leaveThemThere_14 : decode cX8_leaveThemThere 14 = .ok (.iload_n 1, 1) := by decide +kernel
theorem dX8_leaveThemThere_15 : decode cX8_leaveThemThere 15 = .ok (.aload_n 0, 1) := by decide +kernel
theorem dX8_leaveThemThere_16 : decode cX8_leaveThemThere 16 = .ok (.getfield 27, 3) := by decide +kernel
theorem dX8_leaveThemThere_19 : decode cX8_leaveThemThere 19 = .ok (.iload_n 1, 1) := by decide +kernel
theorem dX8_leaveThemThere_20 : decode cX8_leaveThemThere 20 = .ok (.iaload, 1) := by decide +kernel
theorem dX8_leaveThemThere_21 : decode cX8_leaveThemThere 21 = .ok (.invokevirtual 160, 3) := by decide +kernel
theorem dX8_leaveThemThere_24 : decode cX8_leaveThemThere 24 = .ok (.iinc 1 1, 3) := by decide +kernel
theorem dX8_leaveThemThere_27 : decode cX8_leaveThemThere 27 = .ok (.goto (-25), 3) := by decide +kernel
theorem dX8_leaveThemThere_30 : decode cX8_leaveThemThere 30 = .ok (.return_, 1) := by decide +kernel
theorem dX8_somewhere_0 : decode cX8_somewhere 0 = .ok (.iconst 0, 1) := by decide +kernel
theorem dX8_somewhere_1 : decode cX8_somewhere 1 = .ok (.istore_n 1, 1) := by decide +kernel
theorem dX8_somewhere_2 : decode cX8_somewhere 2 = .ok (.iconst 0, 1) := by decide +kernel
theorem dX8_somewhere_3 : decode cX8_somewhere 3 = .ok (.istore_n 2, 1) := by decide +kernel
theorem dX8_somewhere_4 : decode cX8_somewhere 4 = .ok (.iload_n 2, 1) := by decide +kernel
theorem dX8_somewhere_5 : decode cX8_somewhere 5 = .ok (.aload_n 0, 1) := by decide +kernel
theorem dX8_somewhere_6 : decode cX8_somewhere 6 = .ok (.getfield 68, 3) := by decide +kernel
theorem dX8_somewhere_9 : decode cX8_somewhere 9 = .ok (.if_icmp .ge 20, 3) := by decide +kernel
theorem dX8_somewhere_12 : decode cX8_somewhere 12 = .ok (.aload_n 0, 1) := by decide +kernel
theorem dX8_somewhere_13 : decode cX8_somewhere 13 = .ok (.iload_n 2, 1) := by decide +kernel
theorem dX8_somewhere_14 : decode cX8_somewhere 14 = .ok (.invokevirtual 108, 3) := by decide +kernel
theorem dX8_somewhere_17 : decode cX8_somewhere 17 = .ok (.ifCond .eq 6, 3) := by decide +kernel
theorem dX8_somewhere_20 : decode cX8_somewhere 20 = .ok (.iinc 1 1, 3) := by decide +kernel
theorem dX8_somewhere_23 : decode cX8_somewhere 23 = .ok (.iinc 2 1, 3) := by decide +kernel
theorem dX8_somewhere_26 : decode cX8_somewhere 26 = .ok (.goto (-22), 3) := by decide +kernel
theorem dX8_somewhere_29 : decode cX8_somewhere 29 = .ok (.iload_n 1, 1) := by decide +kernel
theorem dX8_somewhere_30 : decode cX8_somewhere 30 = .ok (.ireturn, 1) := by decide +kernel
theorem dX8_knowsPlayer_0 : decode cX8_knowsPlayer 0 = .ok (.iload_n 1, 1) := by decide +kernel
theorem dX8_knowsPlayer_1 : decode cX8_knowsPlayer 1 = .ok (.ifCond .lt 21, 3) := by decide +kernel
theorem dX8_knowsPlayer_4 : decode cX8_knowsPlayer 4 = .ok (.iload_n 1, 1) := by decide +kernel
theorem dX8_knowsPlayer_5 : decode cX8_knowsPlayer 5 = .ok (.aload_n 0, 1) := by decide +kernel
theorem dX8_knowsPlayer_6 : decode cX8_knowsPlayer 6 = .ok (.getfield 68, 3) := by decide +kernel
theorem dX8_knowsPlayer_9 : decode cX8_knowsPlayer 9 = .ok (.if_icmp .ge 13, 3) := by decide +kernel
theorem dX8_knowsPlayer_12 : decode cX8_knowsPlayer 12 = .ok (.iload_n 1, 1) := by decide +kernel
theorem dX8_knowsPlayer_13 : decode cX8_knowsPlayer 13 = .ok (.bipush 8, 2) := by decide +kernel
theorem dX8_knowsPlayer_15 : decode cX8_knowsPlayer 15 = .ok (.if_icmp .ge 7, 3) := by decide +kernel
theorem dX8_knowsPlayer_18 : decode cX8_knowsPlayer 18 = .ok (.iconst 1, 1) := by decide +kernel
theorem dX8_knowsPlayer_19 : decode cX8_knowsPlayer 19 = .ok (.goto 4, 3) := by decide +kernel
theorem dX8_knowsPlayer_22 : decode cX8_knowsPlayer 22 = .ok (.iconst 0, 1) := by decide +kernel
theorem dX8_knowsPlayer_23 : decode cX8_knowsPlayer 23 = .ok (.ireturn, 1) := by decide +kernel
theorem dX8_knowsStreet_0 : decode cX8_knowsStreet 0 = .ok (.iload_n 1, 1) := by decide +kernel
theorem dX8_knowsStreet_1 : decode cX8_knowsStreet 1 = .ok (.ifCond .lt 21, 3) := by decide +kernel
theorem dX8_knowsStreet_4 : decode cX8_knowsStreet 4 = .ok (.iload_n 1, 1) := by decide +kernel
theorem dX8_knowsStreet_5 : decode cX8_knowsStreet 5 = .ok (.aload_n 0, 1) := by decide +kernel
theorem dX8_knowsStreet_6 : decode cX8_knowsStreet 6 = .ok (.getfield 62, 3) := by decide +kernel
theorem dX8_knowsStreet_9 : decode cX8_knowsStreet 9 = .ok (.if_icmp .ge 13, 3) := by decide +kernel
theorem dX8_knowsStreet_12 : decode cX8_knowsStreet 12 = .ok (.iload_n 1, 1) := by decide +kernel
theorem dX8_knowsStreet_13 : decode cX8_knowsStreet 13 = .ok (.bipush 6, 2) := by decide +kernel
theorem dX8_knowsStreet_15 : decode cX8_knowsStreet 15 = .ok (.if_icmp .ge 7, 3) := by decide +kernel
theorem dX8_knowsStreet_18 : decode cX8_knowsStreet 18 = .ok (.iconst 1, 1) := by decide +kernel
theorem dX8_knowsStreet_19 : decode cX8_knowsStreet 19 = .ok (.goto 4, 3) := by decide +kernel
theorem dX8_knowsStreet_22 : decode cX8_knowsStreet 22 = .ok (.iconst 0, 1) := by decide +kernel
theorem dX8_knowsStreet_23 : decode cX8_knowsStreet 23 = .ok (.ireturn, 1) := by decide +kernel
theorem dX8_whereIs_0 : decode cX8_whereIs 0 = .ok (.aload_n 0, 1) := by decide +kernel
theorem dX8_whereIs_1 : decode cX8_whereIs 1 = .ok (.iload_n 1, 1) := by decide +kernel
theorem dX8_whereIs_2 : decode cX8_whereIs 2 = .ok (.invokevirtual 164, 3) := by decide +kernel
theorem dX8_whereIs_5 : decode cX8_whereIs 5 = .ok (.ifCond .eq 12, 3) := by decide +kernel
theorem dX8_whereIs_8 : decode cX8_whereIs 8 = .ok (.aload_n 0, 1) := by decide +kernel
theorem dX8_whereIs_9 : decode cX8_whereIs 9 = .ok (.getfield 27, 3) := by decide +kernel
theorem dX8_whereIs_12 : decode cX8_whereIs 12 = .ok (.iload_n 1, 1) := by decide +kernel
theorem dX8_whereIs_13 : decode cX8_whereIs 13 = .ok (.iaload, 1) := by decide +kernel
theorem dX8_whereIs_14 : decode cX8_whereIs 14 = .ok (.goto 5, 3) := by decide +kernel
theorem dX8_whereIs_17 : decode cX8_whereIs 17 = .ok (.ldc 167, 2) := by decide +kernel
theorem dX8_whereIs_19 : decode cX8_whereIs 19 = .ok (.ireturn, 1) := by decide +kernel
theorem dX8_earnedBy_0 : decode cX8_earnedBy 0 = .ok (.aload_n 0, 1) := by decide +kernel
theorem dX8_earnedBy_1 : decode cX8_earnedBy 1 = .ok (.iload_n 1, 1) := by decide +kernel
theorem dX8_earnedBy_2 : decode cX8_earnedBy 2 = .ok (.invokevirtual 164, 3) := by decide +kernel
theorem dX8_earnedBy_5 : decode cX8_earnedBy 5 = .ok (.ifCond .eq 12, 3) := by decide +kernel
theorem dX8_earnedBy_8 : decode cX8_earnedBy 8 = .ok (.aload_n 0, 1) := by decide +kernel
theorem dX8_earnedBy_9 : decode cX8_earnedBy 9 = .ok (.getfield 33, 3) := by decide +kernel
theorem dX8_earnedBy_12 : decode cX8_earnedBy 12 = .ok (.iload_n 1, 1) := by decide +kernel
theorem dX8_earnedBy_13 : decode cX8_earnedBy 13 = .ok (.iaload, 1) := by decide +kernel
theorem dX8_earnedBy_14 : decode cX8_earnedBy 14 = .ok (.goto 5, 3) := by decide +kernel
theorem dX8_earnedBy_17 : decode cX8_earnedBy 17 = .ok (.ldc 167, 2) := by decide +kernel
theorem dX8_earnedBy_19 : decode cX8_earnedBy 19 = .ok (.ireturn, 1) := by decide +kernel
theorem dX8_costOf_0 : decode cX8_costOf 0 = .ok (.aload_n 0, 1) := by decide +kernel
theorem dX8_costOf_1 : decode cX8_costOf 1 = .ok (.iload_n 1, 1) := by decide +kernel
theorem dX8_costOf_2 : decode cX8_costOf 2 = .ok (.invokevirtual 168, 3) := by decide +kernel
theorem dX8_costOf_5 : decode cX8_costOf 5 = .ok (.ifCond .eq 12, 3) := by decide +kernel
theorem dX8_costOf_8 : decode cX8_costOf 8 = .ok (.aload_n 0, 1) := by decide +kernel
theorem dX8_costOf_9 : decode cX8_costOf 9 = .ok (.getfield 24, 3) := by decide +kernel
theorem dX8_costOf_12 : decode cX8_costOf 12 = .ok (.iload_n 1, 1) := by decide +kernel
theorem dX8_costOf_13 : decode cX8_costOf 13 = .ok (.iaload, 1) := by decide +kernel
theorem dX8_costOf_14 : decode cX8_costOf 14 = .ok (.goto 5, 3) := by decide +kernel
theorem dX8_costOf_17 : decode cX8_costOf 17 = .ok (.ldc 167, 2) := by decide +kernel
theorem dX8_costOf_19 : decode cX8_costOf 19 = .ok (.ireturn, 1) := by decide +kernel
theorem dX8_thereAt_0 : decode cX8_thereAt 0 = .ok (.aload_n 0, 1) := by decide +kernel
theorem dX8_thereAt_1 : decode cX8_thereAt 1 = .ok (.iload_n 1, 1) := by decide +kernel
theorem dX8_thereAt_2 : decode cX8_thereAt 2 = .ok (.invokevirtual 168, 3) := by decide +kernel
theorem dX8_thereAt_5 : decode cX8_thereAt 5 = .ok (.ifCond .eq 12, 3) := by decide +kernel
theorem dX8_thereAt_8 : decode cX8_thereAt 8 = .ok (.aload_n 0, 1) := by decide +kernel
theorem dX8_thereAt_9 : decode cX8_thereAt 9 = .ok (.getfield 18, 3) := by decide +kernel
theorem dX8_thereAt_12 : decode cX8_thereAt 12 = .ok (.iload_n 1, 1) := by decide +kernel
theorem dX8_thereAt_13 : decode cX8_thereAt 13 = .ok (.iaload, 1) := by decide +kernel
theorem dX8_thereAt_14 : decode cX8_thereAt 14 = .ok (.goto 5, 3) := by decide +kernel
theorem dX8_thereAt_17 : decode cX8_thereAt 17 = .ok (.ldc 167, 2) := by decide +kernel
theorem dX8_thereAt_19 : decode cX8_thereAt 19 = .ok (.ireturn, 1) := by decide +kernel
theorem dX8_ledAt_0 : decode cX8_ledAt 0 = .ok (.iconst (-1), 1) := by decide +kernel
theorem dX8_ledAt_1 : decode cX8_ledAt 1 = .ok (.istore_n 2, 1) := by decide +kernel
theorem dX8_ledAt_2 : decode cX8_ledAt 2 = .ok (.iconst 0, 1) := by decide +kernel
theorem dX8_ledAt_3 : decode cX8_ledAt 3 = .ok (.istore_n 3, 1) := by decide +kernel
theorem dX8_ledAt_4 : decode cX8_ledAt 4 = .ok (.iload_n 3, 1) := by decide +kernel
theorem dX8_ledAt_5 : decode cX8_ledAt 5 = .ok (.aload_n 0, 1) := by decide +kernel
theorem dX8_ledAt_6 : decode cX8_ledAt 6 = .ok (.getfield 68, 3) := by decide +kernel
theorem dX8_ledAt_9 : decode cX8_ledAt 9 = .ok (.if_icmp .ge 41, 3) := by decide +kernel
theorem dX8_ledAt_12 : decode cX8_ledAt 12 = .ok (.aload_n 0, 1) := by decide +kernel
theorem dX8_ledAt_13 : decode cX8_ledAt 13 = .ok (.getfield 27, 3) := by decide +kernel
theorem dX8_ledAt_16 : decode cX8_ledAt 16 = .ok (.iload_n 3, 1) := by decide +kernel
theorem dX8_ledAt_17 : decode cX8_ledAt 17 = .ok (.iaload, 1) := by decide +kernel
theorem dX8_ledAt_18 : decode cX8_ledAt 18 = .ok (.iload_n 1, 1) := by decide +kernel
theorem dX8_ledAt_19 : decode cX8_ledAt 19 = .ok (.if_icmp .ne 25, 3) := by decide +kernel
theorem dX8_ledAt_22 : decode cX8_ledAt 22 = .ok (.iload_n 2, 1) := by decide +kernel
theorem dX8_ledAt_23 : decode cX8_ledAt 23 = .ok (.iconst (-1), 1) := by decide +kernel
theorem dX8_ledAt_24 : decode cX8_ledAt 24 = .ok (.if_icmp .eq 18, 3) := by decide +kernel
theorem dX8_ledAt_27 : decode cX8_ledAt 27 = .ok (.aload_n 0, 1) := by decide +kernel
theorem dX8_ledAt_28 : decode cX8_ledAt 28 = .ok (.getfield 33, 3) := by decide +kernel
theorem dX8_ledAt_31 : decode cX8_ledAt 31 = .ok (.iload_n 3, 1) := by decide +kernel
theorem dX8_ledAt_32 : decode cX8_ledAt 32 = .ok (.iaload, 1) := by decide +kernel
theorem dX8_ledAt_33 : decode cX8_ledAt 33 = .ok (.aload_n 0, 1) := by decide +kernel
theorem dX8_ledAt_34 : decode cX8_ledAt 34 = .ok (.getfield 33, 3) := by decide +kernel
theorem dX8_ledAt_37 : decode cX8_ledAt 37 = .ok (.iload_n 2, 1) := by decide +kernel
theorem dX8_ledAt_38 : decode cX8_ledAt 38 = .ok (.iaload, 1) := by decide +kernel
theorem dX8_ledAt_39 : decode cX8_ledAt 39 = .ok (.if_icmp .le 5, 3) := by decide +kernel
theorem dX8_ledAt_42 : decode cX8_ledAt 42 = .ok (.iload_n 3, 1) := by decide +kernel
theorem dX8_ledAt_43 : decode cX8_ledAt 43 = .ok (.istore_n 2, 1) := by decide +kernel
theorem dX8_ledAt_44 : decode cX8_ledAt 44 = .ok (.iinc 3 1, 3) := by decide +kernel
theorem dX8_ledAt_47 : decode cX8_ledAt 47 = .ok (.goto (-43), 3) := by decide +kernel
theorem dX8_ledAt_50 : decode cX8_ledAt 50 = .ok (.iload_n 2, 1) := by decide +kernel
theorem dX8_ledAt_51 : decode cX8_ledAt 51 = .ok (.ireturn, 1) := by decide +kernel
theorem dX9_init_0 : decode cX9_init 0 = .ok (.aload_n 0, 1) := by decide +kernel
theorem dX9_init_1 : decode cX9_init 1 = .ok (.invokespecial 1, 3) := by decide +kernel
theorem dX9_init_4 : decode cX9_init 4 = .ok (.aload_n 0, 1) := by decide +kernel
theorem dX9_init_5 : decode cX9_init 5 = .ok (.new 7, 3) := by decide +kernel
theorem dX9_init_8 : decode cX9_init 8 = .ok (.dup, 1) := by decide +kernel
theorem dX9_init_9 : decode cX9_init 9 = .ok (.invokespecial 9, 3) := by decide +kernel
theorem dX9_init_12 : decode cX9_init 12 = .ok (.putfield 10, 3) := by decide +kernel
theorem dX9_init_15 : decode cX9_init 15 = .ok (.aload_n 0, 1) := by decide +kernel
theorem dX9_init_16 : decode cX9_init 16 = .ok (.new 16, 3) := by decide +kernel
theorem dX9_init_19 : decode cX9_init 19 = .ok (.dup, 1) := by decide +kernel
theorem dX9_init_20 : decode cX9_init 20 = .ok (.aload_n 0, 1) := by decide +kernel
theorem dX9_init_21 : decode cX9_init 21 = .ok (.getfield 10, 3) := by decide +kernel
theorem dX9_init_24 : decode cX9_init 24 = .ok (.invokespecial 18, 3) := by decide +kernel
theorem dX9_init_27 : decode cX9_init 27 = .ok (.putfield 21, 3) := by decide +kernel
theorem dX9_init_30 : decode cX9_init 30 = .ok (.aload_n 0, 1) := by decide +kernel
theorem dX9_init_31 : decode cX9_init 31 = .ok (.new 25, 3) := by decide +kernel
theorem dX9_init_34 : decode cX9_init 34 = .ok (.dup, 1) := by decide +kernel
theorem dX9_init_35 : decode cX9_init 35 = .ok (.aload_n 0, 1) := by decide +kernel
theorem dX9_init_36 : decode cX9_init 36 = .ok (.getfield 10, 3) := by decide +kernel
theorem dX9_init_39 : decode cX9_init 39 = .ok (.invokespecial 27, 3) := by decide +kernel
theorem dX9_init_42 : decode cX9_init 42 = .ok (.putfield 28, 3) := by decide +kernel
theorem dX9_init_45 : decode cX9_init 45 = .ok (.aload_n 0, 1) := by decide +kernel
theorem dX9_init_46 : decode cX9_init 46 = .ok (.new 32, 3) := by decide +kernel
theorem dX9_init_49 : decode cX9_init 49 = .ok (.dup, 1) := by decide +kernel
theorem dX9_init_50 : decode cX9_init 50 = .ok (.aload_n 0, 1) := by decide +kernel
theorem dX9_init_51 : decode cX9_init 51 = .ok (.getfield 10, 3) := by decide +kernel
theorem dX9_init_54 : decode cX9_init 54 = .ok (.invokespecial 34, 3) := by decide +kernel
theorem dX9_init_57 : decode cX9_init 57 = .ok (.putfield 35, 3) := by decide +kernel
theorem dX9_init_60 : decode cX9_init 60 = .ok (.aload_n 0, 1) := by decide +kernel
theorem dX9_init_61 : decode cX9_init 61 = .ok (.new 32, 3) := by decide +kernel
theorem dX9_init_64 : decode cX9_init 64 = .ok (.dup, 1) := by decide +kernel
theorem dX9_init_65 : decode cX9_init 65 = .ok (.aload_n 0, 1) := by decide +kernel
theorem dX9_init_66 : decode cX9_init 66 = .ok (.getfield 10, 3) := by decide +kernel
theorem dX9_init_69 : decode cX9_init 69 = .ok (.invokespecial 34, 3) := by decide +kernel
theorem dX9_init_72 : decode cX9_init 72 = .ok (.putfield 39, 3) := by decide +kernel
theorem dX9_init_75 : decode cX9_init 75 = .ok (.aload_n 0, 1) := by decide +kernel
theorem dX9_init_76 : decode cX9_init 76 = .ok (.new 42, 3) := by decide +kernel
theorem dX9_init_79 : decode cX9_init 79 = .ok (.dup, 1) := by decide +kernel
theorem dX9_init_80 : decode cX9_init 80 = .ok (.invokespecial 44, 3) := by decide +kernel
theorem dX9_init_83 : decode cX9_init 83 = .ok (.putfield 45, 3) := by decide +kernel
theorem dX9_init_86 : decode cX9_init 86 = .ok (.aload_n 0, 1) := by decide +kernel
theorem dX9_init_87 : decode cX9_init 87 = .ok (.new 49, 3) := by decide +kernel
theorem dX9_init_90 : decode cX9_init 90 = .ok (.dup, 1) := by decide +kernel
theorem dX9_init_91 : decode cX9_init 91 = .ok (.invokespecial 51, 3) := by decide +kernel
theorem dX9_init_94 : decode cX9_init 94 = .ok (.putfield 52, 3) := by decide +kernel
theorem dX9_init_97 : decode cX9_init 97 = .ok (.aload_n 0, 1) := by decide +kernel
theorem dX9_init_98 : decode cX9_init 98 = .ok (.new 56, 3) := by decide +kernel
theorem dX9_init_101 : decode cX9_init 101 = .ok (.dup, 1) := by decide +kernel
theorem dX9_init_102 : decode cX9_init 102 = .ok (.invokespecial 58, 3) := by decide +kernel
theorem dX9_init_105 : decode cX9_init 105 = .ok (.putfield 59, 3) := by decide +kernel
theorem dX9_init_108 : decode cX9_init 108 = .ok (.aload_n 0, 1) := by decide +kernel
theorem dX9_init_109 : decode cX9_init 109 = .ok (.new 63, 3) := by decide +kernel
theorem dX9_init_112 : decode cX9_init 112 = .ok (.dup, 1) := by decide +kernel
theorem dX9_init_113 : decode cX9_init 113 = .ok (.invokespecial 65, 3) := by decide +kernel
theorem dX9_init_116 : decode cX9_init 116 = .ok (.putfield 66, 3) := by decide +kernel
theorem dX9_init_119 : decode cX9_init 119 = .ok (.aload_n 0, 1) := by decide +kernel
theorem dX9_init_120 : decode cX9_init 120 = .ok (.new 70, 3) := by decide +kernel
theorem dX9_init_123 : decode cX9_init 123 = .ok (.dup, 1) := by decide +kernel
theorem dX9_init_124 : decode cX9_init 124 = .ok (.invokespecial 72, 3) := by decide +kernel
theorem dX9_init_127 : decode cX9_init 127 = .ok (.putfield 73, 3) := by decide +kernel
theorem dX9_init_130 : decode cX9_init 130 = .ok (.aload_n 0, 1) := by decide +kernel
theorem dX9_init_131 : decode cX9_init 131 = .ok (.new 70, 3) := by decide +kernel
theorem dX9_init_134 : decode cX9_init 134 = .ok (.dup, 1) := by decide +kernel
theorem dX9_init_135 : decode cX9_init 135 = .ok (.invokespecial 72, 3) := by decide +kernel
theorem dX9_init_138 : decode cX9_init 138 = .ok (.putfield 77, 3) := by decide +kernel
theorem dX9_init_141 : decode cX9_init 141 = .ok (.return_, 1) := by decide +kernel
theorem dX9_street_0 : decode cX9_street 0 = .ok (.iload_n 1, 1) := by decide +kernel
theorem dX9_street_1 : decode cX9_street 1 = .ok (.iconst 0, 1) := by decide +kernel
theorem dX9_street_2 : decode cX9_street 2 = .ok (.bipush 99, 2) := by decide +kernel
theorem dX9_street_4 : decode cX9_street 4 = .ok (.invokestatic 80, 3) := by decide +kernel
theorem dX9_street_7 : decode cX9_street 7 = .ok (.ifCond .eq 13, 3) := by decide +kernel
theorem dX9_street_10 : decode cX9_street 10 = .ok (.iload_n 2, 1) := by decide +kernel
theorem dX9_street_11 : decode cX9_street 11 = .ok (.iconst 0, 1) := by decide +kernel
theorem dX9_street_12 : decode cX9_street 12 = .ok (.bipush 99, 2) := by decide +kernel
theorem dX9_street_14 : decode cX9_street 14 = .ok (.invokestatic 80, 3) := by decide +kernel
theorem dX9_street_17 : decode cX9_street 17 = .ok (.ifCond .ne 5, 3) := by decide +kernel
theorem dX9_street_20 : decode cX9_street 20 = .ok (.iconst (-1), 1) := by decide +kernel
theorem dX9_street_21 : decode cX9_street 21 = .ok (.ireturn, 1) := by decide +kernel
theorem dX9_street_22 : decode cX9_street 22 = .ok (.aload_n 0, 1) := by decide +kernel
theorem dX9_street_23 : decode cX9_street 23 = .ok (.getfield 10, 3) := by decide +kernel
theorem dX9_street_26 : decode cX9_street 26 = .ok (.iload_n 1, 1) := by decide +kernel
theorem dX9_street_27 : decode cX9_street 27 = .ok (.iload_n 2, 1) := by decide +kernel
theorem dX9_street_28 : decode cX9_street 28 = .ok (.invokevirtual 84, 3) := by decide +kernel
theorem dX9_street_31 : decode cX9_street 31 = .ok (.ireturn, 1) := by decide +kernel
theorem dX9_window_0 : decode cX9_window 0 = .ok (.iload_n 1, 1) := by decide +kernel
theorem dX9_window_1 : decode cX9_window 1 = .ok (.ifCond .lt 7, 3) := by decide +kernel
theorem dX9_window_4 : decode cX9_window 4 = .ok (.iload_n 2, 1) := by decide +kernel
theorem dX9_window_5 : decode cX9_window 5 = .ok (.ifCond .ge 5, 3) := by decide +kernel
theorem dX9_window_8 : decode cX9_window 8 = .ok (.iconst (-1), 1) := by decide +kernel
theorem dX9_window_9 : decode cX9_window 9 = .ok (.ireturn, 1) := by decide +kernel
theorem dX9_window_10 : decode cX9_window 10 = .ok (.iload_n 1, 1) := by decide +kernel
theorem dX9_window_11 : decode cX9_window 11 = .ok (.bipush 100, 2) := by decide +kernel
theorem dX9_window_13 : decode cX9_window 13 = .ok (.idiv, 1) := by decide +kernel
theorem dX9_window_14 : decode cX9_window 14 = .ok (.istore_n 3, 1) := by decide +kernel
theorem dX9_window_15 : decode cX9_window 15 = .ok (.iload_n 1, 1) := by decide +kernel
theorem dX9_window_16 : decode cX9_window 16 = .ok (.bipush 100, 2) := by decide +kernel
theorem dX9_window_18 : decode cX9_window 18 = .ok (.irem, 1) := by decide +kernel
theorem dX9_window_19 : decode cX9_window 19 = .ok (.istore 4, 2) := by decide +kernel
theorem dX9_window_21 : decode cX9_window 21 = .ok (.iload_n 2, 1) := by decide +kernel
theorem dX9_window_22 : decode cX9_window 22 = .ok (.sipush 1000, 3) := by decide +kernel
theorem dX9_window_25 : decode cX9_window 25 = .ok (.idiv, 1) := by decide +kernel
theorem dX9_window_26 : decode cX9_window 26 = .ok (.bipush 99, 2) := by decide +kernel
theorem dX9_window_28 : decode cX9_window 28 = .ok (.isub, 1) := by decide +kernel
theorem dX9_window_29 : decode cX9_window 29 = .ok (.istore 5, 2) := by decide +kernel
theorem dX9_window_31 : decode cX9_window 31 = .ok (.iload_n 2, 1) := by decide +kernel
theorem dX9_window_32 : decode cX9_window 32 = .ok (.sipush 1000, 3) := by decide +kernel
theorem dX9_window_35 : decode cX9_window 35 = .ok (.irem, 1) := by decide +kernel
theorem dX9_window_36 : decode cX9_window 36 = .ok (.istore 6, 2) := by decide +kernel
theorem dX9_window_38 : decode cX9_window 38 = .ok (.aload_n 0, 1) := by decide +kernel
theorem dX9_window_39 : decode cX9_window 39 = .ok (.getfield 10, 3) := by decide +kernel
theorem dX9_window_42 : decode cX9_window 42 = .ok (.iload_n 3, 1) := by decide +kernel
theorem dX9_window_43 : decode cX9_window 43 = .ok (.iload 4, 2) := by decide +kernel
theorem dX9_window_45 : decode cX9_window 45 = .ok (.iload 5, 2) := by decide +kernel
theorem dX9_window_47 : decode cX9_window 47 = .ok (.iload 6, 2) := by decide +kernel
theorem dX9_window_49 : decode cX9_window 49 = .ok (.invokevirtual 88, 3) := by decide +kernel
theorem dX9_window_52 : decode cX9_window 52 = .ok (.ifCond .ne 5, 3) := by decide +kernel
theorem dX9_window_55 : decode cX9_window 55 = .ok (.iconst (-1), 1) := by decide +kernel
theorem dX9_window_56 : decode cX9_window 56 = .ok (.ireturn, 1) := by decide +kernel
theorem dX9_window_57 : decode cX9_window 57 = .ok (.aload_n 0, 1) := by decide +kernel
theorem dX9_window_58 : decode cX9_window 58 = .ok (.getfield 10, 3) := by decide +kernel
theorem dX9_window_61 : decode cX9_window 61 = .ok (.iload_n 3, 1) := by decide +kernel
theorem dX9_window_62 : decode cX9_window 62 = .ok (.iload 4, 2) := by decide +kernel
theorem dX9_window_64 : decode cX9_window 64 = .ok (.iload 5, 2) := by decide +kernel
theorem dX9_window_66 : decode cX9_window 66 = .ok (.iload 6, 2) := by decide +kernel
theorem dX9_window_68 : decode cX9_window 68 = .ok (.invokevirtual 92, 3) := by decide +kernel
theorem dX9_window_71 : decode cX9_window 71 = .ok (.ireturn, 1) := by decide +kernel
theorem dX9_windows_0 : decode cX9_windows 0 = .ok (.aload_n 0, 1) := by decide +kernel
theorem dX9_windows_1 : decode cX9_windows 1 = .ok (.getfield 66, 3) := by decide +kernel
theorem dX9_windows_4 : decode cX9_windows 4 = .ok (.iload_n 1, 1) := by decide +kernel
theorem dX9_windows_5 : decode cX9_windows 5 = .ok (.invokevirtual 96, 3) := by decide +kernel
theorem dX9_windows_8 : decode cX9_windows 8 = .ok (.ifCond .eq 13, 3) := by decide +kernel
theorem dX9_windows_11 : decode cX9_windows 11 = .ok (.iload_n 3, 1) := by decide +kernel
theorem dX9_windows_12 : decode cX9_windows 12 = .ok (.iconst 1, 1) := by decide +kernel
theorem dX9_windows_13 : decode cX9_windows 13 = .ok (.bipush 15, 2) := by decide +kernel
theorem dX9_windows_15 : decode cX9_windows 15 = .ok (.invokestatic 80, 3) := by decide +kernel
theorem dX9_windows_18 : decode cX9_windows 18 = .ok (.ifCond .ne 5, 3) := by decide +kernel
theorem dX9_windows_21 : decode cX9_windows 21 = .ok (.iconst (-1), 1) := by decide +kernel
theorem dX9_windows_22 : decode cX9_windows 22 = .ok (.ireturn, 1) := by decide +kernel
theorem dX9_windows_23 : decode cX9_windows 23 = .ok (.aload_n 0, 1) := by decide +kernel
theorem dX9_windows_24 : decode cX9_windows 24 = .ok (.getfield 66, 3) := by decide +kernel
theorem dX9_windows_27 : decode cX9_windows 27 = .ok (.iload_n 1, 1) := by decide +kernel
theorem dX9_windows_28 : decode cX9_windows 28 = .ok (.invokevirtual 100, 3) := by decide +kernel
theorem dX9_windows_31 : decode cX9_windows 31 = .ok (.ifCond .eq 5, 3) := by decide +kernel
theorem dX9_windows_34 : decode cX9_windows 34 = .ok (.iconst 0, 1) := by decide +kernel
theorem dX9_windows_35 : decode cX9_windows 35 = .ok (.ireturn, 1) := by decide +kernel
theorem dX9_windows_36 : decode cX9_windows 36 = .ok (.aload_n 0, 1) := by decide +kernel
theorem dX9_windows_37 : decode cX9_windows 37 = .ok (.getfield 66, 3) := by decide +kernel
theorem dX9_windows_40 : decode cX9_windows 40 = .ok (.iload_n 1, 1) := by decide +kernel
theorem dX9_windows_41 : decode cX9_windows 41 = .ok (.invokevirtual 103, 3) := by decide +kernel
theorem dX9_windows_44 : decode cX9_windows 44 = .ok (.ifCond .ne 6, 3) := by decide +kernel
theorem dX9_windows_47 : decode cX9_windows 47 = .ok (.bipush (-12), 2) := by decide +kernel
theorem dX9_windows_49 : decode cX9_windows 49 = .ok (.ireturn, 1) := by decide +kernel
theorem dX9_windows_50 : decode cX9_windows 50 = .ok (.iconst 0, 1) := by decide +kernel
theorem dX9_windows_51 : decode cX9_windows 51 = .ok (.istore 4, 2) := by decide +kernel
theorem dX9_windows_53 : decode cX9_windows 53 = .ok (.iload 4, 2) := by decide +kernel
theorem dX9_windows_55 : decode cX9_windows 55 = .ok (.iload_n 3, 1) := by decide +kernel
theorem dX9_windows_56 : decode cX9_windows 56 = .ok (.if_icmp .ge 23, 3) := by decide +kernel
theorem dX9_windows_59 : decode cX9_windows 59 = .ok (.aload_n 0, 1) := by decide +kernel
theorem dX9_windows_60 : decode cX9_windows 60 = .ok (.iload_n 1, 1) := by decide +kernel
theorem dX9_windows_61 : decode cX9_windows 61 = .ok (.iload_n 2, 1) := by decide +kernel
theorem dX9_windows_62 : decode cX9_windows 62 = .ok (.iconst 4, 1) := by decide +kernel
theorem dX9_windows_63 : decode cX9_windows 63 = .ok (.iload 4, 2) := by decide +kernel
theorem dX9_windows_65 : decode cX9_windows 65 = .ok (.imul, 1) := by decide +kernel
theorem dX9_windows_66 : decode cX9_windows 66 = .ok (.iadd, 1) := by decide +kernel
theorem dX9_windows_67 : decode cX9_windows 67 = .ok (.invokevirtual 106, 3) := by decide +kernel
theorem dX9_windows_70 : decode cX9_windows 70 = .ok (.ifCond .eq 9, 3) := by decide +kernel
theorem dX9_windows_73 : decode cX9_windows 73 = .ok (.iinc 4 1, 3) := by decide +kernel
theorem dX9_windows_76 : decode cX9_windows 76 = .ok (.goto (-23), 3) := by decide +kernel
theorem dX9_windows_79 : decode cX9_windows 79 = .ok (.iload 4, 2) := by decide +kernel
theorem dX9_windows_81 : decode cX9_windows 81 = .ok (.ireturn, 1) := by decide +kernel
theorem dX9_comesFromRow_0 : decode cX9_comesFromRow 0 = .ok (.aload_n 0, 1) := by decide +kernel
theorem dX9_comesFromRow_1 : decode cX9_comesFromRow 1 = .ok (.getfield 66, 3) := by decide +kernel
theorem dX9_comesFromRow_4 : decode cX9_comesFromRow 4 = .ok (.iload_n 1, 1) := by decide +kernel
theorem dX9_comesFromRow_5 : decode cX9_comesFromRow 5 = .ok (.iload_n 2, 1) := by decide +kernel
theorem dX9_comesFromRow_6 : decode cX9_comesFromRow 6 = .ok (.iconst 4, 1) := by decide +kernel
theorem dX9_comesFromRow_7 : decode cX9_comesFromRow 7 = .ok (.invokevirtual 110, 3) := by decide +kernel
theorem dX9_comesFromRow_10 : decode cX9_comesFromRow 10 = .ok (.ifCond .ne 5, 3) := by decide +kernel
theorem dX9_comesFromRow_13 : decode cX9_comesFromRow 13 = .ok (.iconst 0, 1) := by decide +kernel
theorem dX9_comesFromRow_14 : decode cX9_comesFromRow 14 = .ok (.ireturn, 1) := by decide +kernel
theorem dX9_comesFromRow_15 : decode cX9_comesFromRow 15 = .ok (.aload_n 0, 1) := by decide +kernel
theorem dX9_comesFromRow_16 : decode cX9_comesFromRow 16 = .ok (.getfield 66, 3) := by decide +kernel
theorem dX9_comesFromRow_19 : decode cX9_comesFromRow 19 = .ok (.iload_n 1, 1) := by decide +kernel
theorem dX9_comesFromRow_20 : decode cX9_comesFromRow 20 = .ok (.iload_n 2, 1) := by decide +kernel
theorem dX9_comesFromRow_21 : decode cX9_comesFromRow 21 = .ok (.invokevirtual 113, 3) := by decide +kernel
theorem dX9_comesFromRow_24 : decode cX9_comesFromRow 24 = .ok (.l2i, 1) := by decide +kernel
theorem dX9_comesFromRow_25 : decode cX9_comesFromRow 25 = .ok (.istore_n 3, 1) := by decide +kernel
theorem dX9_comesFromRow_26 : decode cX9_comesFromRow 26 = .ok (.aload_n 0, 1) := by decide +kernel
theorem dX9_comesFromRow_27 : decode cX9_comesFromRow 27 = .ok (.getfield 66, 3) := by decide +kernel
theorem dX9_comesFromRow_30 : decode cX9_comesFromRow 30 = .ok (.iload_n 1, 1) := by decide +kernel
theorem dX9_comesFromRow_31 : decode cX9_comesFromRow 31 = .ok (.iload_n 2, 1) := by decide +kernel
theorem dX9_comesFromRow_32 : decode cX9_comesFromRow 32 = .ok (.iconst 1, 1) := by decide +kernel
theorem dX9_comesFromRow_33 : decode cX9_comesFromRow 33 = .ok (.iadd, 1) := by decide +kernel
theorem dX9_comesFromRow_34 : decode cX9_comesFromRow 34 = .ok (.invokevirtual 113, 3) := by decide +kernel
theorem dX9_comesFromRow_37 : decode cX9_comesFromRow 37 = .ok (.l2i, 1) := by decide +kernel
theorem dX9_comesFromRow_38 : decode cX9_comesFromRow 38 = .ok (.istore 4, 2) := by decide +kernel
theorem dX9_comesFromRow_40 : decode cX9_comesFromRow 40 = .ok (.aload_n 0, 1) := by decide +kernel
theorem dX9_comesFromRow_41 : decode cX9_comesFromRow 41 = .ok (.getfield 66, 3) := by decide +kernel
theorem dX9_comesFromRow_44 : decode cX9_comesFromRow 44 = .ok (.iload_n 1, 1) := by decide +kernel
theorem dX9_comesFromRow_45 : decode cX9_comesFromRow 45 = .ok (.iload_n 2, 1) := by decide +kernel
theorem dX9_comesFromRow_46 : decode cX9_comesFromRow 46 = .ok (.iconst 2, 1) := by decide +kernel
theorem dX9_comesFromRow_47 : decode cX9_comesFromRow 47 = .ok (.iadd, 1) := by decide +kernel
theorem dX9_comesFromRow_48 : decode cX9_comesFromRow 48 = .ok (.invokevirtual 113, 3) := by decide +kernel
theorem dX9_comesFromRow_51 : decode cX9_comesFromRow 51 = .ok (.l2i, 1) := by decide +kernel
theorem dX9_comesFromRow_52 : decode cX9_comesFromRow 52 = .ok (.istore 5, 2) := by decide +kernel
theorem dX9_comesFromRow_54 : decode cX9_comesFromRow 54 = .ok (.aload_n 0, 1) := by decide +kernel
theorem dX9_comesFromRow_55 : decode cX9_comesFromRow 55 = .ok (.getfield 66, 3) := by decide +kernel
theorem dX9_comesFromRow_58 : decode cX9_comesFromRow 58 = .ok (.iload_n 1, 1) := by decide +kernel
theorem dX9_comesFromRow_59 : decode cX9_comesFromRow 59 = .ok (.iload_n 2, 1) := by decide +kernel
theorem dX9_comesFromRow_60 : decode cX9_comesFromRow 60 = .ok (.iconst 3, 1) := by decide +kernel
theorem dX9_comesFromRow_61 : decode cX9_comesFromRow 61 = .ok (.iadd, 1) := by decide +kernel
theorem dX9_comesFromRow_62 : decode cX9_comesFromRow 62 = .ok (.invokevirtual 113, 3) := by decide +kernel
theorem dX9_comesFromRow_65 : decode cX9_comesFromRow 65 = .ok (.l2i, 1) := by decide +kernel
theorem dX9_comesFromRow_66 : decode cX9_comesFromRow 66 = .ok (.istore 6, 2) := by decide +kernel
theorem dX9_comesFromRow_68 : decode cX9_comesFromRow 68 = .ok (.aload_n 0, 1) := by decide +kernel
theorem dX9_comesFromRow_69 : decode cX9_comesFromRow 69 = .ok (.getfield 10, 3) := by decide +kernel
theorem dX9_comesFromRow_72 : decode cX9_comesFromRow 72 = .ok (.iload_n 3, 1) := by decide +kernel
theorem dX9_comesFromRow_73 : decode cX9_comesFromRow 73 = .ok (.iload 4, 2) := by decide +kernel
theorem dX9_comesFromRow_75 : decode cX9_comesFromRow 75 = .ok (.iload 5, 2) := by decide +kernel
theorem dX9_comesFromRow_77 : decode cX9_comesFromRow 77 = .ok (.iload 6, 2) := by decide +kernel
theorem dX9_comesFromRow_79 : decode cX9_comesFromRow 79 = .ok (.invokevirtual 88, 3) := by decide +kernel
theorem dX9_comesFromRow_82 : decode cX9_comesFromRow 82 = .ok (.ifCond .eq 24, 3) := by decide +kernel
theorem dX9_comesFromRow_85 : decode cX9_comesFromRow 85 = .ok (.aload_n 0, 1) := by decide +kernel
theorem dX9_comesFromRow_86 : decode cX9_comesFromRow 86 = .ok (.getfield 10, 3) := by decide +kernel
theorem dX9_comesFromRow_89 : decode cX9_comesFromRow 89 = .ok (.iload_n 3, 1) := by decide +kernel
theorem dX9_comesFromRow_90 : decode cX9_comesFromRow 90 = .ok (.iload 4, 2) := by decide +kernel
theorem dX9_comesFromRow_92 : decode cX9_comesFromRow 92 = .ok (.iload 5, 2) := by decide +kernel
theorem dX9_comesFromRow_94 : decode cX9_comesFromRow 94 = .ok (.iload 6, 2) := by decide +kernel
theorem dX9_comesFromRow_96 : decode cX9_comesFromRow 96 = .ok (.invokevirtual 92, 3) := by decide +kernel
theorem dX9_comesFromRow_99 : decode cX9_comesFromRow 99 = .ok (.ifCond .lt 7, 3) := by decide +kernel
theorem dX9_comesFromRow_102 : decode cX9_comesFromRow 102 = .ok (.iconst 1, 1) := by decide +kernel
theorem dX9_comesFromRow_103 : decode cX9_comesFromRow 103 = .ok (.goto 4, 3) := by decide +kernel
theorem dX9_comesFromRow_106 : decode cX9_comesFromRow 106 = .ok (.iconst 0, 1) := by decide +kernel
theorem dX9_comesFromRow_107 : decode cX9_comesFromRow 107 = .ok (.ireturn, 1) := by decide +kernel
theorem dX9_player_0 : decode cX9_player 0 = .ok (.iload_n 1, 1) := by decide +kernel
theorem dX9_player_1 : decode cX9_player 1 = .ok (.iconst 0, 1) := by decide +kernel
theorem dX9_player_2 : decode cX9_player 2 = .ok (.sipush 1099, 3) := by decide +kernel
theorem dX9_player_5 : decode cX9_player 5 = .ok (.invokestatic 80, 3) := by decide +kernel
theorem dX9_player_8 : decode cX9_player 8 = .ok (.ifCond .eq 13, 3) := by decide +kernel
theorem dX9_player_11 : decode cX9_player 11 = .ok (.iload_n 2, 1) := by decide +kernel
theorem dX9_player_12 : decode cX9_player 12 = .ok (.iconst 0, 1) := by decide +kernel
theorem dX9_player_13 : decode cX9_player 13 = .ok (.bipush 100, 2) := by decide +kernel
theorem dX9_player_15 : decode cX9_player 15 = .ok (.invokestatic 80, 3) := by decide +kernel
theorem dX9_player_18 : decode cX9_player 18 = .ok (.ifCond .ne 5, 3) := by decide +kernel
theorem dX9_player_21 : decode cX9_player 21 = .ok (.iconst (-1), 1) := by decide +kernel
theorem dX9_player_22 : decode cX9_player 22 = .ok (.ireturn, 1) := by decide +kernel
theorem dX9_player_23 : decode cX9_player 23 = .ok (.iload_n 3, 1) := by decide +kernel
theorem dX9_player_24 : decode cX9_player 24 = .ok (.iconst (-1), 1) := by decide +kernel
theorem dX9_player_25 : decode cX9_player 25 = .ok (.if_icmp .eq 16, 3) := by decide +kernel
theorem dX9_player_28 : decode cX9_player 28 = .ok (.aload_n 0, 1) := by decide +kernel
theorem dX9_player_29 : decode cX9_player 29 = .ok (.getfield 10, 3) := by decide +kernel
theorem dX9_player_32 : decode cX9_player 32 = .ok (.iload_n 3, 1) := by decide +kernel
theorem dX9_player_33 : decode cX9_player 33 = .ok (.invokevirtual 117, 3) := by decide +kernel
theorem dX9_player_36 : decode cX9_player 36 = .ok (.ifCond .ne 5, 3) := by decide +kernel
theorem dX9_player_39 : decode cX9_player 39 = .ok (.iconst (-1), 1) := by decide +kernel
theorem dX9_player_40 : decode cX9_player 40 = .ok (.ireturn, 1) := by decide +kernel
theorem dX9_player_41 : decode cX9_player 41 = .ok (.aload_n 0, 1) := by decide +kernel
theorem dX9_player_42 : decode cX9_player 42 = .ok (.getfield 10, 3) := by decide +kernel
theorem dX9_player_45 : decode cX9_player 45 = .ok (.iload_n 1, 1) := by decide +kernel
theorem dX9_player_46 : decode cX9_player 46 = .ok (.bipush 100, 2) := by decide +kernel
theorem dX9_player_48 : decode cX9_player 48 = .ok (.idiv, 1) := by decide +kernel
theorem dX9_player_49 : decode cX9_player 49 = .ok (.iload_n 1, 1) := by decide +kernel
theorem dX9_player_50 : decode cX9_player 50 = .ok (.bipush 100, 2) := by decide +kernel
theorem dX9_player_52 : decode cX9_player 52 = .ok (.irem, 1) := by decide +kernel
theorem dX9_player_53 : decode cX9_player 53 = .ok (.iload_n 2, 1) := by decide +kernel
theorem dX9_player_54 : decode cX9_player 54 = .ok (.iload_n 3, 1) := by decide +kernel
theorem dX9_player_55 : decode cX9_player 55 = .ok (.invokevirtual 120, 3) := by decide +kernel
theorem dX9_player_58 : decode cX9_player 58 = .ok (.ireturn, 1) := by decide +kernel
theorem dX9_mend_0 : decode cX9_mend 0 = .ok (.aload_n 0, 1) := by decide +kernel
theorem dX9_mend_1 : decode cX9_mend 1 = .ok (.getfield 10, 3) := by decide +kernel
theorem dX9_mend_4 : decode cX9_mend 4 = .ok (.iload_n 1, 1) := by decide +kernel
theorem dX9_mend_5 : decode cX9_mend 5 = .ok (.iload_n 2, 1) := by decide +kernel
theorem dX9_mend_6 : decode cX9_mend 6 = .ok (.iload_n 3, 1) := by decide +kernel
theorem dX9_mend_7 : decode cX9_mend 7 = .ok (.invokevirtual 123, 3) := by decide +kernel
theorem dX9_mend_10 : decode cX9_mend 10 = .ok (.ifCond .ne 6, 3) := by decide +kernel
theorem dX9_mend_13 : decode cX9_mend 13 = .ok (.ldc 126, 2) := by decide +kernel
theorem dX9_mend_15 : decode cX9_mend 15 = .ok (.ireturn, 1) := by decide +kernel
theorem dX9_mend_16 : decode cX9_mend 16 = .ok (.aload_n 0, 1) := by decide +kernel
theorem dX9_mend_17 : decode cX9_mend 17 = .ok (.getfield 10, 3) := by decide +kernel
theorem dX9_mend_20 : decode cX9_mend 20 = .ok (.iload_n 1, 1) := by decide +kernel
theorem dX9_mend_21 : decode cX9_mend 21 = .ok (.iload_n 2, 1) := by decide +kernel
theorem dX9_mend_22 : decode cX9_mend 22 = .ok (.invokevirtual 127, 3) := by decide +kernel
theorem dX9_mend_25 : decode cX9_mend 25 = .ok (.istore 4, 2) := by decide +kernel
theorem dX9_mend_27 : decode cX9_mend 27 = .ok (.iload 4, 2) := by decide +kernel
theorem dX9_mend_29 : decode cX9_mend 29 = .ok (.iload_n 3, 1) := by decide +kernel
theorem dX9_mend_30 : decode cX9_mend 30 = .ok (.if_icmp .eq 25, 3) := by decide +kernel
theorem dX9_mend_33 : decode cX9_mend 33 = .ok (.aload_n 0, 1) := by decide +kernel
theorem dX9_mend_34 : decode cX9_mend 34 = .ok (.getfield 45, 3) := by decide +kernel
theorem dX9_mend_37 : decode cX9_mend 37 = .ok (.iload_n 1, 1) := by decide +kernel
theorem dX9_mend_38 : decode cX9_mend 38 = .ok (.iload_n 2, 1) := by decide +kernel
theorem dX9_mend_39 : decode cX9_mend 39 = .ok (.iload 4, 2) := by decide +kernel
theorem dX9_mend_41 : decode cX9_mend 41 = .ok (.iload_n 3, 1) := by decide +kernel
theorem dX9_mend_42 : decode cX9_mend 42 = .ok (.invokevirtual 130, 3) := by decide +kernel
theorem dX9_mend_45 : decode cX9_mend 45 = .ok (.aload_n 0, 1) := by decide +kernel
theorem dX9_mend_46 : decode cX9_mend 46 = .ok (.getfield 10, 3) := by decide +kernel
theorem dX9_mend_49 : decode cX9_mend 49 = .ok (.iload_n 1, 1) := by decide +kernel
theorem dX9_mend_50 : decode cX9_mend 50 = .ok (.iload_n 2, 1) := by decide +kernel
theorem dX9_mend_51 : decode cX9_mend 51 = .ok (.iload_n 3, 1) := by decide +kernel
theorem dX9_mend_52 : decode cX9_mend 52 = .ok (.invokevirtual 134, 3) := by decide +kernel
theorem dX9_mend_55 : decode cX9_mend 55 = .ok (.iload 4, 2) := by decide +kernel
theorem dX9_mend_57 : decode cX9_mend 57 = .ok (.ireturn, 1) := by decide +kernel
theorem dX9_pay_0 : decode cX9_pay 0 = .ok (.aload_n 0, 1) := by decide +kernel
theorem dX9_pay_1 : decode cX9_pay 1 = .ok (.getfield 10, 3) := by decide +kernel
theorem dX9_pay_4 : decode cX9_pay 4 = .ok (.iload_n 1, 1) := by decide +kernel
theorem dX9_pay_5 : decode cX9_pay 5 = .ok (.invokevirtual 117, 3) := by decide +kernel
theorem dX9_pay_8 : decode cX9_pay 8 = .ok (.ifCond .eq 14, 3) := by decide +kernel
theorem dX9_pay_11 : decode cX9_pay 11 = .ok (.iload_n 2, 1) := by decide +kernel
theorem dX9_pay_12 : decode cX9_pay 12 = .ok (.iconst 0, 1) := by decide +kernel
theorem dX9_pay_13 : decode cX9_pay 13 = .ok (.sipush 499, 3) := by decide +kernel
theorem dX9_pay_16 : decode cX9_pay 16 = .ok (.invokestatic 80, 3) := by decide +kernel
theorem dX9_pay_19 : decode cX9_pay 19 = .ok (.ifCond .ne 5, 3) := by decide +kernel
theorem dX9_pay_22 : decode cX9_pay 22 = .ok (.iconst (-1), 1) := by decide +kernel
theorem dX9_pay_23 : decode cX9_pay 23 = .ok (.ireturn, 1) := by decide +kernel
theorem dX9_pay_24 : decode cX9_pay 24 = .ok (.aload_n 0, 1) := by decide +kernel
theorem dX9_pay_25 : decode cX9_pay 25 = .ok (.getfield 10, 3) := by decide +kernel
theorem dX9_pay_28 : decode cX9_pay 28 = .ok (.iload_n 1, 1) := by decide +kernel
theorem dX9_pay_29 : decode cX9_pay 29 = .ok (.invokevirtual 138, 3) := by decide +kernel
theorem dX9_pay_32 : decode cX9_pay 32 = .ok (.istore_n 3, 1) := by decide +kernel
theorem dX9_pay_33 : decode cX9_pay 33 = .ok (.aload_n 0, 1) := by decide +kernel
theorem dX9_pay_34 : decode cX9_pay 34 = .ok (.getfield 10, 3) := by decide +kernel
theorem dX9_pay_37 : decode cX9_pay 37 = .ok (.iload_n 1, 1) := by decide +kernel
theorem dX9_pay_38 : decode cX9_pay 38 = .ok (.iload_n 2, 1) := by decide +kernel
theorem dX9_pay_39 : decode cX9_pay 39 = .ok (.bipush 100, 2) := by decide +kernel
theorem dX9_pay_41 : decode cX9_pay 41 = .ok (.idiv, 1) := by decide +kernel
theorem dX9_pay_42 : decode cX9_pay 42 = .ok (.iload_n 2, 1) := by decide +kernel
theorem dX9_pay_43 : decode cX9_pay 43 = .ok (.bipush 100, 2) := by decide +kernel
theorem dX9_pay_45 : decode cX9_pay 45 = .ok (.irem, 1) := by decide +kernel
theorem dX9_pay_46 : decode cX9_pay 46 = .ok (.invokevirtual 142, 3) := by decide +kernel
theorem dX9_pay_49 : decode cX9_pay 49 = .ok (.iload_n 3, 1) := by decide +kernel
theorem dX9_pay_50 : decode cX9_pay 50 = .ok (.ireturn, 1) := by decide +kernel
theorem dX9_of_0 : decode cX9_of 0 = .ok (.iload_n 2, 1) := by decide +kernel
theorem dX9_of_1 : decode cX9_of 1 = .ok (.iconst 0, 1) := by decide +kernel
theorem dX9_of_2 : decode cX9_of 2 = .ok (.iconst 3, 1) := by decide +kernel
theorem dX9_of_3 : decode cX9_of 3 = .ok (.invokestatic 80, 3) := by decide +kernel
theorem dX9_of_6 : decode cX9_of 6 = .ok (.ifCond .eq 24, 3) := by decide +kernel
theorem dX9_of_9 : decode cX9_of 9 = .ok (.aload_n 0, 1) := by decide +kernel
theorem dX9_of_10 : decode cX9_of 10 = .ok (.getfield 10, 3) := by decide +kernel
theorem dX9_of_13 : decode cX9_of 13 = .ok (.iload_n 1, 1) := by decide +kernel
theorem dX9_of_14 : decode cX9_of 14 = .ok (.invokevirtual 145, 3) := by decide +kernel
theorem dX9_of_17 : decode cX9_of 17 = .ok (.ifCond .eq 13, 3) := by decide +kernel
theorem dX9_of_20 : decode cX9_of 20 = .ok (.aload_n 0, 1) := by decide +kernel
theorem dX9_of_21 : decode cX9_of 21 = .ok (.getfield 10, 3) := by decide +kernel
theorem dX9_of_24 : decode cX9_of 24 = .ok (.iload_n 1, 1) := by decide +kernel
theorem dX9_of_25 : decode cX9_of 25 = .ok (.iload_n 2, 1) := by decide +kernel
theorem dX9_of_26 : decode cX9_of 26 = .ok (.invokevirtual 148, 3) := by decide +kernel
theorem dX9_of_29 : decode cX9_of 29 = .ok (.ireturn, 1) := by decide +kernel
theorem dX9_of_30 : decode cX9_of 30 = .ok (.iload_n 2, 1) := by decide +kernel
theorem dX9_of_31 : decode cX9_of 31 = .ok (.bipush 10, 2) := by decide +kernel
theorem dX9_of_33 : decode cX9_of 33 = .ok (.bipush 13, 2) := by decide +kernel
theorem dX9_of_35 : decode cX9_of 35 = .ok (.invokestatic 80, 3) := by decide +kernel
theorem dX9_of_38 : decode cX9_of 38 = .ok (.ifCond .eq 27, 3) := by decide +kernel
theorem dX9_of_41 : decode cX9_of 41 = .ok (.aload_n 0, 1) := by decide +kernel
theorem dX9_of_42 : decode cX9_of 42 = .ok (.getfield 10, 3) := by decide +kernel
theorem dX9_of_45 : decode cX9_of 45 = .ok (.iload_n 1, 1) := by decide +kernel
theorem dX9_of_46 : decode cX9_of 46 = .ok (.invokevirtual 151, 3) := by decide +kernel
theorem dX9_of_49 : decode cX9_of 49 = .ok (.ifCond .eq 16, 3) := by decide +kernel
theorem dX9_of_52 : decode cX9_of 52 = .ok (.aload_n 0, 1) := by decide +kernel
theorem dX9_of_53 : decode cX9_of 53 = .ok (.getfield 10, 3) := by decide +kernel
theorem dX9_of_56 : decode cX9_of 56 = .ok (.iload_n 1, 1) := by decide +kernel
theorem dX9_of_57 : decode cX9_of 57 = .ok (.iload_n 2, 1) := by decide +kernel
theorem dX9_of_58 : decode cX9_of 58 = .ok (.bipush 10, 2) := by decide +kernel
theorem dX9_of_60 : decode cX9_of 60 = .ok (.isub, 1) := by decide +kernel
theorem dX9_of_61 : decode cX9_of 61 = .ok (.invokevirtual 154, 3) := by decide +kernel
theorem dX9_of_64 : decode cX9_of 64 = .ok (.ireturn, 1) := by decide +kernel
theorem dX9_of_65 : decode cX9_of 65 = .ok (.iload_n 2, 1) := by decide +kernel
theorem dX9_of_66 : decode cX9_of 66 = .ok (.bipush 20, 2) := by decide +kernel
theorem dX9_of_68 : decode cX9_of 68 = .ok (.bipush 23, 2) := by decide +kernel
theorem dX9_of_70 : decode cX9_of 70 = .ok (.invokestatic 80, 3) := by decide +kernel
theorem dX9_of_73 : decode cX9_of 73 = .ok (.ifCond .eq 27, 3) := by decide +kernel
theorem dX9_of_76 : decode cX9_of 76 = .ok (.aload_n 0, 1) := by decide +kernel
theorem dX9_of_77 : decode cX9_of 77 = .ok (.getfield 10, 3) := by decide +kernel
theorem dX9_of_80 : decode cX9_of 80 = .ok (.iload_n 1, 1) := by decide +kernel
theorem dX9_of_81 : decode cX9_of 81 = .ok (.invokevirtual 117, 3) := by decide +kernel
theorem dX9_of_84 : decode cX9_of 84 = .ok (.ifCond .eq 16, 3) := by decide +kernel
theorem dX9_of_87 : decode cX9_of 87 = .ok (.aload_n 0, 1) := by decide +kernel
theorem dX9_of_88 : decode cX9_of 88 = .ok (.getfield 10, 3) := by decide +kernel
theorem dX9_of_91 : decode cX9_of 91 = .ok (.iload_n 1, 1) := by decide +kernel
theorem dX9_of_92 : decode cX9_of 92 = .ok (.iload_n 2, 1) := by decide +kernel
theorem dX9_of_93 : decode cX9_of 93 = .ok (.bipush 20, 2) := by decide +kernel
theorem dX9_of_95 : decode cX9_of 95 = .ok (.isub, 1) := by decide +kernel
theorem dX9_of_96 : decode cX9_of 96 = .ok (.invokevirtual 157, 3) := by decide +kernel
theorem dX9_of_99 : decode cX9_of 99 = .ok (.ireturn, 1) := by decide +kernel
theorem dX9_of_100 : decode cX9_of 100 = .ok (.ldc 126, 2) := by decide +kernel
theorem dX9_of_102 : decode cX9_of 102 = .ok (.ireturn, 1) := by decide +kernel
theorem dX9_harm_0 : decode cX9_harm 0 = .ok (.iload_n 1, 1) := by decide +kernel
theorem dX9_harm_1 : decode cX9_harm 1 = .ok (.ifCond .lt 31, 3) := by decide +kernel
theorem dX9_harm_4 : decode cX9_harm 4 = .ok (.aload_n 0, 1) := by decide +kernel
theorem dX9_harm_5 : decode cX9_harm 5 = .ok (.getfield 10, 3) := by decide +kernel
theorem dX9_harm_8 : decode cX9_harm 8 = .ok (.iload_n 1, 1) := by decide +kernel
theorem dX9_harm_9 : decode cX9_harm 9 = .ok (.bipush 100, 2) := by decide +kernel
theorem dX9_harm_11 : decode cX9_harm 11 = .ok (.idiv, 1) := by decide +kernel
theorem dX9_harm_12 : decode cX9_harm 12 = .ok (.invokevirtual 145, 3) := by decide +kernel
theorem dX9_harm_15 : decode cX9_harm 15 = .ok (.ifCond .eq 17, 3) := by decide +kernel
theorem dX9_harm_18 : decode cX9_harm 18 = .ok (.aload_n 0, 1) := by decide +kernel
theorem dX9_harm_19 : decode cX9_harm 19 = .ok (.getfield 10, 3) := by decide +kernel
theorem dX9_harm_22 : decode cX9_harm 22 = .ok (.iload_n 1, 1) := by decide +kernel
theorem dX9_harm_23 : decode cX9_harm 23 = .ok (.bipush 100, 2) := by decide +kernel
theorem dX9_harm_25 : decode cX9_harm 25 = .ok (.irem, 1) := by decide +kernel
theorem dX9_harm_26 : decode cX9_harm 26 = .ok (.invokevirtual 151, 3) := by decide +kernel
theorem dX9_harm_29 : decode cX9_harm 29 = .ok (.ifCond .ne 6, 3) := by decide +kernel
theorem dX9_harm_32 : decode cX9_harm 32 = .ok (.ldc 126, 2) := by decide +kernel
theorem dX9_harm_34 : decode cX9_harm 34 = .ok (.ireturn, 1) := by decide +kernel
theorem dX9_harm_35 : decode cX9_harm 35 = .ok (.aload_n 0, 1) := by decide +kernel
theorem dX9_harm_36 : decode cX9_harm 36 = .ok (.getfield 10, 3) := by decide +kernel
theorem dX9_harm_39 : decode cX9_harm 39 = .ok (.iload_n 1, 1) := by decide +kernel
theorem dX9_harm_40 : decode cX9_harm 40 = .ok (.bipush 100, 2) := by decide +kernel
theorem dX9_harm_42 : decode cX9_harm 42 = .ok (.irem, 1) := by decide +kernel
theorem dX9_harm_43 : decode cX9_harm 43 = .ok (.aload_n 0, 1) := by decide +kernel
theorem dX9_harm_44 : decode cX9_harm 44 = .ok (.getfield 10, 3) := by decide +kernel
theorem dX9_harm_47 : decode cX9_harm 47 = .ok (.iload_n 1, 1) := by decide +kernel
theorem dX9_harm_48 : decode cX9_harm 48 = .ok (.bipush 100, 2) := by decide +kernel
theorem dX9_harm_50 : decode cX9_harm 50 = .ok (.idiv, 1) := by decide +kernel
theorem dX9_harm_51 : decode cX9_harm 51 = .ok (.invokevirtual 160, 3) := by decide +kernel
theorem dX9_harm_54 : decode cX9_harm 54 = .ok (.invokevirtual 163, 3) := by decide +kernel
theorem dX9_harm_57 : decode cX9_harm 57 = .ok (.ireturn, 1) := by decide +kernel
theorem dX9_once_0 : decode cX9_once 0 = .ok (.aload_n 0, 1) := by decide +kernel
theorem dX9_once_1 : decode cX9_once 1 = .ok (.iload_n 1, 1) := by decide +kernel
theorem dX9_once_2 : decode cX9_once 2 = .ok (.invokevirtual 166, 3) := by decide +kernel
theorem dX9_once_5 : decode cX9_once 5 = .ok (.ifCond .ne 6, 3) := by decide +kernel
theorem dX9_once_8 : decode cX9_once 8 = .ok (.ldc 126, 2) := by decide +kernel
theorem dX9_once_10 : decode cX9_once 10 = .ok (.ireturn, 1) := by decide +kernel
theorem dX9_once_11 : decode cX9_once 11 = .ok (.iload_n 1, 1) := by decide +kernel
theorem dX9_once_12 : decode cX9_once 12 = .ok (.bipush 10, 2) := by decide +kernel
theorem dX9_once_14 : decode cX9_once 14 = .ok (.idiv, 1) := by decide +kernel
theorem dX9_once_15 : decode cX9_once 15 = .ok (.istore_n 3, 1) := by decide +kernel
theorem dX9_once_16 : decode cX9_once 16 = .ok (.iload_n 1, 1) := by decide +kernel
theorem dX9_once_17 : decode cX9_once 17 = .ok (.bipush 10, 2) := by decide +kernel
theorem dX9_once_19 : decode cX9_once 19 = .ok (.irem, 1) := by decide +kernel
theorem dX9_once_20 : decode cX9_once 20 = .ok (.istore 4, 2) := by decide +kernel
theorem dX9_once_22 : decode cX9_once 22 = .ok (.iload_n 2, 1) := by decide +kernel
theorem dX9_once_23 : decode cX9_once 23 = .ok (.tableswitch 95 0 3 #[29, 47, 58, 76], 29) := by decide +kernel
theorem dX9_once_52 : decode cX9_once 52 = .ok (.aload_n 0, 1) := by decide +kernel
theorem dX9_once_53 : decode cX9_once 53 = .ok (.getfield 10, 3) := by decide +kernel
theorem dX9_once_56 : decode cX9_once 56 = .ok (.iload 4, 2) := by decide +kernel
theorem dX9_once_58 : decode cX9_once 58 = .ok (.aload_n 0, 1) := by decide +kernel
theorem dX9_once_59 : decode cX9_once 59 = .ok (.getfield 10, 3) := by decide +kernel
theorem dX9_once_62 : decode cX9_once 62 = .ok (.iload_n 3, 1) := by decide +kernel
theorem dX9_once_63 : decode cX9_once 63 = .ok (.invokevirtual 160, 3) := by decide +kernel
theorem dX9_once_66 : decode cX9_once 66 = .ok (.invokevirtual 169, 3) := by decide +kernel
theorem dX9_once_69 : decode cX9_once 69 = .ok (.ireturn, 1) := by decide +kernel
theorem dX9_once_70 : decode cX9_once 70 = .ok (.aload_n 0, 1) := by decide +kernel
theorem dX9_once_71 : decode cX9_once 71 = .ok (.getfield 10, 3) := by decide +kernel
theorem dX9_once_74 : decode cX9_once 74 = .ok (.iload_n 3, 1) := by decide +kernel
theorem dX9_once_75 : decode cX9_once 75 = .ok (.iload 4, 2) := by decide +kernel
theorem dX9_once_77 : decode cX9_once 77 = .ok (.invokevirtual 172, 3) := by decide +kernel
theorem dX9_once_80 : decode cX9_once 80 = .ok (.ireturn, 1) := by decide +kernel
theorem dX9_once_81 : decode cX9_once 81 = .ok (.aload_n 0, 1) := by decide +kernel
theorem dX9_once_82 : decode cX9_once 82 = .ok (.getfield 10, 3) := by decide +kernel
theorem dX9_once_85 : decode cX9_once 85 = .ok (.iload 4, 2) := by decide +kernel
theorem dX9_once_87 : decode cX9_once 87 = .ok (.aload_n 0, 1) := by decide +kernel
theorem dX9_once_88 : decode cX9_once 88 = .ok (.getfield 10, 3) := by decide +kernel
theorem dX9_once_91 : decode cX9_once 91 = .ok (.iload_n 3, 1) := by decide +kernel
theorem dX9_once_92 : decode cX9_once 92 = .ok (.invokevirtual 160, 3) := by decide +kernel
theorem dX9_once_95 : decode cX9_once 95 = .ok (.invokevirtual 175, 3) := by decide +kernel
theorem dX9_once_98 : decode cX9_once 98 = .ok (.ireturn, 1) := by decide +kernel
theorem dX9_once_99 : decode cX9_once 99 = .ok (.aload_n 0, 1) := by decide +kernel
theorem dX9_once_100 : decode cX9_once 100 = .ok (.getfield 21, 3) := by decide +kernel
theorem dX9_once_103 : decode cX9_once 103 = .ok (.iload_n 3, 1) := by decide +kernel
theorem dX9_once_104 : decode cX9_once 104 = .ok (.iload 4, 2) := by decide +kernel
theorem dX9_once_106 : decode cX9_once 106 = .ok (.aload_n 0, 1) := by decide +kernel
theorem dX9_once_107 : decode cX9_once 107 = .ok (.getfield 10, 3) := by decide +kernel
theorem dX9_once_110 : decode cX9_once 110 = .ok (.iload_n 3, 1) := by decide +kernel
theorem dX9_once_111 : decode cX9_once 111 = .ok (.invokevirtual 160, 3) := by decide +kernel
theorem dX9_once_114 : decode cX9_once 114 = .ok (.invokevirtual 178, 3) := by decide +kernel
theorem dX9_once_117 : decode cX9_once 117 = .ok (.ireturn, 1) := by decide +kernel
theorem dX9_once_118 : decode cX9_once 118 = .ok (.ldc 126, 2) := by decide +kernel
theorem dX9_once_120 : decode cX9_once 120 = .ok (.ireturn, 1) := by decide +kernel
theorem dX9_waiting_0 : decode cX9_waiting 0 = .ok (.aload_n 0, 1) := by decide +kernel
theorem dX9_waiting_1 : decode cX9_waiting 1 = .ok (.iload_n 1, 1) := by decide +kernel
theorem dX9_waiting_2 : decode cX9_waiting 2 = .ok (.invokevirtual 166, 3) := by decide +kernel
theorem dX9_waiting_5 : decode cX9_waiting 5 = .ok (.ifCond .eq 18, 3) := by decide +kernel
theorem dX9_waiting_8 : decode cX9_waiting 8 = .ok (.iload_n 2, 1) := by decide +kernel
theorem dX9_waiting_9 : decode cX9_waiting 9 = .ok (.iconst 0, 1) := by decide +kernel
theorem dX9_waiting_10 : decode cX9_waiting 10 = .ok (.bipush 99, 2) := by decide +kernel
theorem dX9_waiting_12 : decode cX9_waiting 12 = .ok (.invokestatic 80, 3) := by decide +kernel
theorem dX9_waiting_15 : decode cX9_waiting 15 = .ok (.ifCond .eq 8, 3) := by decide +kernel
theorem dX9_waiting_18 : decode cX9_waiting 18 = .ok (.iload 4, 2) := by decide +kernel
theorem dX9_waiting_20 : decode cX9_waiting 20 = .ok (.ifCond .ge 5, 3) := by decide +kernel
theorem dX9_waiting_23 : decode cX9_waiting 23 = .ok (.iconst (-1), 1) := by decide +kernel
theorem dX9_waiting_24 : decode cX9_waiting 24 = .ok (.ireturn, 1) := by decide +kernel
theorem dX9_waiting_25 : decode cX9_waiting 25 = .ok (.iload 4, 2) := by decide +kernel
theorem dX9_waiting_27 : decode cX9_waiting 27 = .ok (.bipush 10, 2) := by decide +kernel
theorem dX9_waiting_29 : decode cX9_waiting 29 = .ok (.idiv, 1) := by decide +kernel
theorem dX9_waiting_30 : decode cX9_waiting 30 = .ok (.istore 5, 2) := by decide +kernel
theorem dX9_waiting_32 : decode cX9_waiting 32 = .ok (.iload 4, 2) := by decide +kernel
theorem dX9_waiting_34 : decode cX9_waiting 34 = .ok (.bipush 10, 2) := by decide +kernel
theorem dX9_waiting_36 : decode cX9_waiting 36 = .ok (.irem, 1) := by decide +kernel
theorem dX9_waiting_37 : decode cX9_waiting 37 = .ok (.istore 6, 2) := by decide +kernel
theorem dX9_waiting_39 : decode cX9_waiting 39 = .ok (.iload 5, 2) := by decide +kernel
theorem dX9_waiting_41 : decode cX9_waiting 41 = .ok (.iconst 1, 1) := by decide +kernel
theorem dX9_waiting_42 : decode cX9_waiting 42 = .ok (.bipush 60, 2) := by decide +kernel
theorem dX9_waiting_44 : decode cX9_waiting 44 = .ok (.invokestatic 80, 3) := by decide +kernel
theorem dX9_waiting_47 : decode cX9_waiting 47 = .ok (.ifCond .eq 9, 3) := by decide +kernel
theorem dX9_waiting_50 : decode cX9_waiting 50 = .ok (.iload 6, 2) := by decide +kernel
theorem dX9_waiting_52 : decode cX9_waiting 52 = .ok (.iconst 2, 1) := by decide +kernel
theorem dX9_waiting_53 : decode cX9_waiting 53 = .ok (.if_icmp .le 5, 3) := by decide +kernel
theorem dX9_waiting_56 : decode cX9_waiting 56 = .ok (.iconst (-1), 1) := by decide +kernel
theorem dX9_waiting_57 : decode cX9_waiting 57 = .ok (.ireturn, 1) := by decide +kernel
theorem dX9_waiting_58 : decode cX9_waiting 58 = .ok (.aload_n 0, 1) := by decide +kernel
theorem dX9_waiting_59 : decode cX9_waiting 59 = .ok (.getfield 21, 3) := by decide +kernel
theorem dX9_waiting_62 : decode cX9_waiting 62 = .ok (.iload_n 1, 1) := by decide +kernel
theorem dX9_waiting_63 : decode cX9_waiting 63 = .ok (.iload_n 2, 1) := by decide +kernel
theorem dX9_waiting_64 : decode cX9_waiting 64 = .ok (.iload_n 3, 1) := by decide +kernel
theorem dX9_waiting_65 : decode cX9_waiting 65 = .ok (.iload 5, 2) := by decide +kernel
theorem dX9_waiting_67 : decode cX9_waiting 67 = .ok (.invokevirtual 182, 3) := by decide +kernel
theorem dX9_waiting_70 : decode cX9_waiting 70 = .ok (.istore 7, 2) := by decide +kernel
theorem dX9_waiting_72 : decode cX9_waiting 72 = .ok (.iload 6, 2) := by decide +kernel
theorem dX9_waiting_74 : decode cX9_waiting 74 = .ok (.iconst 2, 1) := by decide +kernel
theorem dX9_waiting_75 : decode cX9_waiting 75 = .ok (.if_icmp .ne 29, 3) := by decide +kernel
theorem dX9_waiting_78 : decode cX9_waiting 78 = .ok (.aload_n 0, 1) := by decide +kernel
theorem dX9_waiting_79 : decode cX9_waiting 79 = .ok (.getfield 21, 3) := by decide +kernel
theorem dX9_waiting_82 : decode cX9_waiting 82 = .ok (.iload_n 1, 1) := by decide +kernel
theorem dX9_waiting_83 : decode cX9_waiting 83 = .ok (.iload 7, 2) := by decide +kernel
theorem dX9_waiting_85 : decode cX9_waiting 85 = .ok (.bipush (-2), 2) := by decide +kernel
theorem dX9_waiting_87 : decode cX9_waiting 87 = .ok (.if_icmp .ne 8, 3) := by decide +kernel
theorem dX9_waiting_90 : decode cX9_waiting 90 = .ok (.iload 5, 2) := by decide +kernel
theorem dX9_waiting_92 : decode cX9_waiting 92 = .ok (.goto 8, 3) := by decide +kernel
theorem dX9_waiting_95 : decode cX9_waiting 95 = .ok (.iload 7, 2) := by decide +kernel
theorem dX9_waiting_97 : decode cX9_waiting 97 = .ok (.bipush 30, 2) := by decide +kernel
theorem dX9_waiting_99 : decode cX9_waiting 99 = .ok (.idiv, 1) := by decide +kernel
theorem dX9_waiting_100 : decode cX9_waiting 100 = .ok (.invokevirtual 185, 3) := by decide +kernel
theorem dX9_waiting_103 : decode cX9_waiting 103 = .ok (.ireturn, 1) := by decide +kernel
theorem dX9_waiting_104 : decode cX9_waiting 104 = .ok (.iload 7, 2) := by decide +kernel
theorem dX9_waiting_106 : decode cX9_waiting 106 = .ok (.bipush (-2), 2) := by decide +kernel
theorem dX9_waiting_108 : decode cX9_waiting 108 = .ok (.if_icmp .ne 6, 3) := by decide +kernel
theorem dX9_waiting_111 : decode cX9_waiting 111 = .ok (.bipush (-2), 2) := by decide +kernel
theorem dX9_waiting_113 : decode cX9_waiting 113 = .ok (.ireturn, 1) := by decide +kernel
theorem dX9_waiting_114 : decode cX9_waiting 114 = .ok (.iload 6, 2) := by decide +kernel
theorem dX9_waiting_116 : decode cX9_waiting 116 = .ok (.ifCond .ne 11, 3) := by decide +kernel
theorem dX9_waiting_119 : decode cX9_waiting 119 = .ok (.iload 7, 2) := by decide +kernel
theorem dX9_waiting_121 : decode cX9_waiting 121 = .ok (.bipush 30, 2) := by decide +kernel
theorem dX9_waiting_123 : decode cX9_waiting 123 = .ok (.idiv, 1) := by decide +kernel
theorem dX9_waiting_124 : decode cX9_waiting 124 = .ok (.goto 8, 3) := by decide +kernel
theorem dX9_waiting_127 : decode cX9_waiting 127 = .ok (.iload 7, 2) := by decide +kernel
theorem dX9_waiting_129 : decode cX9_waiting 129 = .ok (.bipush 30, 2) := by decide +kernel
theorem dX9_waiting_131 : decode cX9_waiting 131 = .ok (.irem, 1) := by decide +kernel
theorem dX9_waiting_132 : decode cX9_waiting 132 = .ok (.ireturn, 1) := by decide +kernel
theorem dX9_exactly_0 : decode cX9_exactly 0 = .ok (.aload_n 0, 1) := by decide +kernel
theorem dX9_exactly_1 : decode cX9_exactly 1 = .ok (.iload_n 1, 1) := by decide +kernel
theorem dX9_exactly_2 : decode cX9_exactly 2 = .ok (.invokevirtual 166, 3) := by decide +kernel
theorem dX9_exactly_5 : decode cX9_exactly 5 = .ok (.ifCond .eq 23, 3) := by decide +kernel
theorem dX9_exactly_8 : decode cX9_exactly 8 = .ok (.iload_n 2, 1) := by decide +kernel
theorem dX9_exactly_9 : decode cX9_exactly 9 = .ok (.iconst 0, 1) := by decide +kernel
theorem dX9_exactly_10 : decode cX9_exactly 10 = .ok (.bipush 99, 2) := by decide +kernel
theorem dX9_exactly_12 : decode cX9_exactly 12 = .ok (.invokestatic 80, 3) := by decide +kernel
theorem dX9_exactly_15 : decode cX9_exactly 15 = .ok (.ifCond .eq 13, 3) := by decide +kernel
theorem dX9_exactly_18 : decode cX9_exactly 18 = .ok (.iload_n 3, 1) := by decide +kernel
theorem dX9_exactly_19 : decode cX9_exactly 19 = .ok (.iconst 0, 1) := by decide +kernel
theorem dX9_exactly_20 : decode cX9_exactly 20 = .ok (.bipush 60, 2) := by decide +kernel
theorem dX9_exactly_22 : decode cX9_exactly 22 = .ok (.invokestatic 80, 3) := by decide +kernel
theorem dX9_exactly_25 : decode cX9_exactly 25 = .ok (.ifCond .ne 5, 3) := by decide +kernel
theorem dX9_exactly_28 : decode cX9_exactly 28 = .ok (.iconst (-1), 1) := by decide +kernel
theorem dX9_exactly_29 : decode cX9_exactly 29 = .ok (.ireturn, 1) := by decide +kernel
theorem dX9_exactly_30 : decode cX9_exactly 30 = .ok (.aload_n 0, 1) := by decide +kernel
theorem dX9_exactly_31 : decode cX9_exactly 31 = .ok (.getfield 21, 3) := by decide +kernel
theorem dX9_exactly_34 : decode cX9_exactly 34 = .ok (.iload_n 1, 1) := by decide +kernel
theorem dX9_exactly_35 : decode cX9_exactly 35 = .ok (.iload_n 2, 1) := by decide +kernel
theorem dX9_exactly_36 : decode cX9_exactly 36 = .ok (.iload_n 3, 1) := by decide +kernel
theorem dX9_exactly_37 : decode cX9_exactly 37 = .ok (.invokevirtual 188, 3) := by decide +kernel
theorem dX9_exactly_40 : decode cX9_exactly 40 = .ok (.ireturn, 1) := by decide +kernel
theorem dX9_feed_0 : decode cX9_feed 0 = .ok (.iload_n 1, 1) := by decide +kernel
theorem dX9_feed_1 : decode cX9_feed 1 = .ok (.iconst 1, 1) := by decide +kernel
theorem dX9_feed_2 : decode cX9_feed 2 = .ok (.iconst 4, 1) := by decide +kernel
theorem dX9_feed_3 : decode cX9_feed 3 = .ok (.invokestatic 80, 3) := by decide +kernel
theorem dX9_feed_6 : decode cX9_feed 6 = .ok (.ifCond .ne 5, 3) := by decide +kernel
theorem dX9_feed_9 : decode cX9_feed 9 = .ok (.iconst (-1), 1) := by decide +kernel
theorem dX9_feed_10 : decode cX9_feed 10 = .ok (.ireturn, 1) := by decide +kernel
theorem dX9_feed_11 : decode cX9_feed 11 = .ok (.aload_n 0, 1) := by decide +kernel
theorem dX9_feed_12 : decode cX9_feed 12 = .ok (.getfield 52, 3) := by decide +kernel
theorem dX9_feed_15 : decode cX9_feed 15 = .ok (.iload_n 1, 1) := by decide +kernel
theorem dX9_feed_16 : decode cX9_feed 16 = .ok (.iload_n 2, 1) := by decide +kernel
theorem dX9_feed_17 : decode cX9_feed 17 = .ok (.invokevirtual 191, 3) := by decide +kernel
theorem dX9_feed_20 : decode cX9_feed 20 = .ok (.ireturn, 1) := by decide +kernel
theorem dX9_law_0 : decode cX9_law 0 = .ok (.aload_n 0, 1) := by decide +kernel
theorem dX9_law_1 : decode cX9_law 1 = .ok (.getfield 52, 3) := by decide +kernel
theorem dX9_law_4 : decode cX9_law 4 = .ok (.aload_n 0, 1) := by decide +kernel
theorem dX9_law_5 : decode cX9_law 5 = .ok (.getfield 77, 3) := by decide +kernel
theorem dX9_law_8 : decode cX9_law 8 = .ok (.invokevirtual 194, 3) := by decide +kernel
theorem dX9_law_11 : decode cX9_law 11 = .ok (.istore_n 1, 1) := by decide +kernel
theorem dX9_law_12 : decode cX9_law 12 = .ok (.iload_n 1, 1) := by decide +kernel
theorem dX9_law_13 : decode cX9_law 13 = .ok (.iconst (-1), 1) := by decide +kernel
theorem dX9_law_14 : decode cX9_law 14 = .ok (.if_icmp .eq 8, 3) := by decide +kernel
theorem dX9_law_17 : decode cX9_law 17 = .ok (.bipush (-100), 2) := by decide +kernel
theorem dX9_law_19 : decode cX9_law 19 = .ok (.iload_n 1, 1) := by decide +kernel
theorem dX9_law_20 : decode cX9_law 20 = .ok (.isub, 1) := by decide +kernel
theorem dX9_law_21 : decode cX9_law 21 = .ok (.ireturn, 1) := by decide +kernel
theorem dX9_law_22 : decode cX9_law 22 = .ok (.aload_n 0, 1) := by decide +kernel
theorem dX9_law_23 : decode cX9_law 23 = .ok (.getfield 73, 3) := by decide +kernel
theorem dX9_law_26 : decode cX9_law 26 = .ok (.astore_n 2, 1) := by decide +kernel
theorem dX9_law_27 : decode cX9_law 27 = .ok (.aload_n 0, 1) := by decide +kernel
theorem dX9_law_28 : decode cX9_law 28 = .ok (.aload_n 0, 1) := by decide +kernel
theorem dX9_law_29 : decode cX9_law 29 = .ok (.getfield 77, 3) := by decide +kernel
theorem dX9_law_32 : decode cX9_law 32 = .ok (.putfield 73, 3) := by decide +kernel
theorem dX9_law_35 : decode cX9_law 35 = .ok (.aload_n 0, 1) := by decide +kernel
theorem dX9_law_36 : decode cX9_law 36 = .ok (.aload_n 2, 1) := by decide +kernel
theorem dX9_law_37 : decode cX9_law 37 = .ok (.putfield 77, 3) := by decide +kernel
theorem dX9_law_40 : decode cX9_law 40 = .ok (.iconst 1, 1) := by decide +kernel
theorem dX9_law_41 : decode cX9_law 41 = .ok (.ireturn, 1) := by decide +kernel
theorem dX9_weeks_0 : decode cX9_weeks 0 = .ok (.iload_n 1, 1) := by decide +kernel
theorem dX9_weeks_1 : decode cX9_weeks 1 = .ok (.iconst 1, 1) := by decide +kernel
theorem dX9_weeks_2 : decode cX9_weeks 2 = .ok (.bipush 60, 2) := by decide +kernel
theorem dX9_weeks_4 : decode cX9_weeks 4 = .ok (.invokestatic 80, 3) := by decide +kernel
theorem dX9_weeks_7 : decode cX9_weeks 7 = .ok (.ifCond .eq 12, 3) := by decide +kernel
theorem dX9_weeks_10 : decode cX9_weeks 10 = .ok (.iload_n 2, 1) := by decide +kernel
theorem dX9_weeks_11 : decode cX9_weeks 11 = .ok (.iconst 0, 1) := by decide +kernel
theorem dX9_weeks_12 : decode cX9_weeks 12 = .ok (.iconst 1, 1) := by decide +kernel
theorem dX9_weeks_13 : decode cX9_weeks 13 = .ok (.invokestatic 80, 3) := by decide +kernel
theorem dX9_weeks_16 : decode cX9_weeks 16 = .ok (.ifCond .ne 5, 3) := by decide +kernel
theorem dX9_weeks_19 : decode cX9_weeks 19 = .ok (.iconst (-1), 1) := by decide +kernel
theorem dX9_weeks_20 : decode cX9_weeks 20 = .ok (.ireturn, 1) := by decide +kernel
theorem dX9_weeks_21 : decode cX9_weeks 21 = .ok (.aload_n 0, 1) := by decide +kernel
theorem dX9_weeks_22 : decode cX9_weeks 22 = .ok (.getfield 35, 3) := by decide +kernel
theorem dX9_weeks_25 : decode cX9_weeks 25 = .ok (.invokevirtual 198, 3) := by decide +kernel
theorem dX9_weeks_28 : decode cX9_weeks 28 = .ok (.aload_n 0, 1) := by decide +kernel
theorem dX9_weeks_29 : decode cX9_weeks 29 = .ok (.getfield 35, 3) := by decide +kernel
theorem dX9_weeks_32 : decode cX9_weeks 32 = .ok (.aload_n 0, 1) := by decide +kernel
theorem dX9_weeks_33 : decode cX9_weeks 33 = .ok (.getfield 73, 3) := by decide +kernel
theorem dX9_weeks_36 : decode cX9_weeks 36 = .ok (.iload_n 1, 1) := by decide +kernel
theorem dX9_weeks_37 : decode cX9_weeks 37 = .ok (.invokevirtual 201, 3) := by decide +kernel
theorem dX9_weeks_40 : decode cX9_weeks 40 = .ok (.aload_n 0, 1) := by decide +kernel
theorem dX9_weeks_41 : decode cX9_weeks 41 = .ok (.getfield 35, 3) := by decide +kernel
theorem dX9_weeks_44 : decode cX9_weeks 44 = .ok (.invokevirtual 205, 3) := by decide +kernel
theorem dX9_weeks_47 : decode cX9_weeks 47 = .ok (.iload_n 2, 1) := by decide +kernel
theorem dX9_weeks_48 : decode cX9_weeks 48 = .ok (.iconst 1, 1) := by decide +kernel
theorem dX9_weeks_49 : decode cX9_weeks 49 = .ok (.if_icmp .ne 10, 3) := by decide +kernel
theorem dX9_weeks_52 : decode cX9_weeks 52 = .ok (.aload_n 0, 1) := by decide +kernel
theorem dX9_weeks_53 : decode cX9_weeks 53 = .ok (.getfield 35, 3) := by decide +kernel
theorem dX9_weeks_56 : decode cX9_weeks 56 = .ok (.invokevirtual 208, 3) := by decide +kernel
theorem dX9_weeks_59 : decode cX9_weeks 59 = .ok (.aload_n 0, 1) := by decide +kernel
theorem dX9_weeks_60 : decode cX9_weeks 60 = .ok (.getfield 35, 3) := by decide +kernel
theorem dX9_weeks_63 : decode cX9_weeks 63 = .ok (.invokevirtual 211, 3) := by decide +kernel
theorem dX9_weeks_66 : decode cX9_weeks 66 = .ok (.ireturn, 1) := by decide +kernel
theorem dX9_week_0 : decode cX9_week 0 = .ok (.iload_n 2, 1) := by decide +kernel
theorem dX9_week_1 : decode cX9_week 1 = .ok (.iconst 0, 1) := by decide +kernel
theorem dX9_week_2 : decode cX9_week 2 = .ok (.iconst 1, 1) := by decide +kernel
theorem dX9_week_3 : decode cX9_week 3 = .ok (.invokestatic 80, 3) := by decide +kernel
theorem dX9_week_6 : decode cX9_week 6 = .ok (.ifCond .eq 38, 3) := by decide +kernel
theorem dX9_week_9 : decode cX9_week 9 = .ok (.aload_n 0, 1) := by decide +kernel
theorem dX9_week_10 : decode cX9_week 10 = .ok (.getfield 35, 3) := by decide +kernel
theorem dX9_week_13 : decode cX9_week 13 = .ok (.iload_n 1, 1) := by decide +kernel
theorem dX9_week_14 : decode cX9_week 14 = .ok (.invokevirtual 215, 3) := by decide +kernel
theorem dX9_week_17 : decode cX9_week 17 = .ok (.ifCond .eq 27, 3) := by decide +kernel
theorem dX9_week_20 : decode cX9_week 20 = .ok (.iload_n 2, 1) := by decide +kernel
theorem dX9_week_21 : decode cX9_week 21 = .ok (.ifCond .ne 14, 3) := by decide +kernel
theorem dX9_week_24 : decode cX9_week 24 = .ok (.aload_n 0, 1) := by decide +kernel
theorem dX9_week_25 : decode cX9_week 25 = .ok (.getfield 35, 3) := by decide +kernel
theorem dX9_week_28 : decode cX9_week 28 = .ok (.iload_n 1, 1) := by decide +kernel
theorem dX9_week_29 : decode cX9_week 29 = .ok (.invokevirtual 218, 3) := by decide +kernel
theorem dX9_week_32 : decode cX9_week 32 = .ok (.goto 11, 3) := by decide +kernel
theorem dX9_week_35 : decode cX9_week 35 = .ok (.aload_n 0, 1) := by decide +kernel
theorem dX9_week_36 : decode cX9_week 36 = .ok (.getfield 35, 3) := by decide +kernel
theorem dX9_week_39 : decode cX9_week 39 = .ok (.iload_n 1, 1) := by decide +kernel
theorem dX9_week_40 : decode cX9_week 40 = .ok (.invokevirtual 221, 3) := by decide +kernel
theorem dX9_week_43 : decode cX9_week 43 = .ok (.ireturn, 1) := by decide +kernel
theorem dX9_week_44 : decode cX9_week 44 = .ok (.iload_n 2, 1) := by decide +kernel
theorem dX9_week_45 : decode cX9_week 45 = .ok (.iconst 2, 1) := by decide +kernel
theorem dX9_week_46 : decode cX9_week 46 = .ok (.iconst 4, 1) := by decide +kernel
theorem dX9_week_47 : decode cX9_week 47 = .ok (.invokestatic 80, 3) := by decide +kernel
theorem dX9_week_50 : decode cX9_week 50 = .ok (.ifCond .eq 14, 3) := by decide +kernel
theorem dX9_week_53 : decode cX9_week 53 = .ok (.aload_n 0, 1) := by decide +kernel
theorem dX9_week_54 : decode cX9_week 54 = .ok (.getfield 35, 3) := by decide +kernel
theorem dX9_week_57 : decode cX9_week 57 = .ok (.iload_n 1, 1) := by decide +kernel
theorem dX9_week_58 : decode cX9_week 58 = .ok (.invokevirtual 224, 3) := by decide +kernel
theorem dX9_week_61 : decode cX9_week 61 = .ok (.ifCond .ne 6, 3) := by decide +kernel
theorem dX9_week_64 : decode cX9_week 64 = .ok (.ldc 126, 2) := by decide +kernel
theorem dX9_week_66 : decode cX9_week 66 = .ok (.ireturn, 1) := by decide +kernel
theorem dX9_week_67 : decode cX9_week 67 = .ok (.iload_n 2, 1) := by decide +kernel
theorem dX9_week_68 : decode cX9_week 68 = .ok (.iconst 2, 1) := by decide +kernel
theorem dX9_week_69 : decode cX9_week 69 = .ok (.if_icmp .ne 12, 3) := by decide +kernel
theorem dX9_week_72 : decode cX9_week 72 = .ok (.aload_n 0, 1) := by decide +kernel
theorem dX9_week_73 : decode cX9_week 73 = .ok (.getfield 35, 3) := by decide +kernel
theorem dX9_week_76 : decode cX9_week 76 = .ok (.iload_n 1, 1) := by decide +kernel
theorem dX9_week_77 : decode cX9_week 77 = .ok (.invokevirtual 227, 3) := by decide +kernel
theorem dX9_week_80 : decode cX9_week 80 = .ok (.ireturn, 1) := by decide +kernel
theorem dX9_week_81 : decode cX9_week 81 = .ok (.iload_n 2, 1) := by decide +kernel
theorem dX9_week_82 : decode cX9_week 82 = .ok (.iconst 3, 1) := by decide +kernel
theorem dX9_week_83 : decode cX9_week 83 = .ok (.if_icmp .ne 14, 3) := by decide +kernel
theorem dX9_week_86 : decode cX9_week 86 = .ok (.aload_n 0, 1) := by decide +kernel
theorem dX9_week_87 : decode cX9_week 87 = .ok (.getfield 35, 3) := by decide +kernel
theorem dX9_week_90 : decode cX9_week 90 = .ok (.iload_n 1, 1) := by decide +kernel
theorem dX9_week_91 : decode cX9_week 91 = .ok (.invokevirtual 230, 3) := by decide +kernel
theorem dX9_week_94 : decode cX9_week 94 = .ok (.goto 11, 3) := by decide +kernel
theorem dX9_week_97 : decode cX9_week 97 = .ok (.aload_n 0, 1) := by decide +kernel
theorem dX9_week_98 : decode cX9_week 98 = .ok (.getfield 35, 3) := by decide +kernel
theorem dX9_week_101 : decode cX9_week 101 = .ok (.iload_n 1, 1) := by decide +kernel
theorem dX9_week_102 : decode cX9_week 102 = .ok (.invokevirtual 233, 3) := by decide +kernel
theorem dX9_week_105 : decode cX9_week 105 = .ok (.ireturn, 1) := by decide +kernel
theorem dX9_best_0 : decode cX9_best 0 = .ok (.aload_n 0, 1) := by decide +kernel
theorem dX9_best_1 : decode cX9_best 1 = .ok (.iload_n 1, 1) := by decide +kernel
theorem dX9_best_2 : decode cX9_best 2 = .ok (.iload_n 2, 1) := by decide +kernel
theorem dX9_best_3 : decode cX9_best 3 = .ok (.invokevirtual 236, 3) := by decide +kernel
theorem dX9_best_6 : decode cX9_best 6 = .ok (.ifCond .eq 12, 3) := by decide +kernel
theorem dX9_best_9 : decode cX9_best 9 = .ok (.iload_n 3, 1) := by decide +kernel
theorem dX9_best_10 : decode cX9_best 10 = .ok (.iconst 0, 1) := by decide +kernel
theorem dX9_best_11 : decode cX9_best 11 = .ok (.iconst 1, 1) := by decide +kernel
theorem dX9_best_12 : decode cX9_best 12 = .ok (.invokestatic 80, 3) := by decide +kernel
theorem dX9_best_15 : decode cX9_best 15 = .ok (.ifCond .ne 6, 3) := by decide +kernel
theorem dX9_best_18 : decode cX9_best 18 = .ok (.ldc 126, 2) := by decide +kernel
theorem dX9_best_20 : decode cX9_best 20 = .ok (.ireturn, 1) := by decide +kernel
theorem dX9_best_21 : decode cX9_best 21 = .ok (.iconst 0, 1) := by decide +kernel
theorem dX9_best_22 : decode cX9_best 22 = .ok (.istore 4, 2) := by decide +kernel
theorem dX9_best_24 : decode cX9_best 24 = .ok (.bipush (-2), 2) := by decide +kernel
theorem dX9_best_26 : decode cX9_best 26 = .ok (.istore 5, 2) := by decide +kernel
theorem dX9_best_28 : decode cX9_best 28 = .ok (.iconst 0, 1) := by decide +kernel
theorem dX9_best_29 : decode cX9_best 29 = .ok (.istore 6, 2) := by decide +kernel
theorem dX9_best_31 : decode cX9_best 31 = .ok (.iload 6, 2) := by decide +kernel
theorem dX9_best_33 : decode cX9_best 33 = .ok (.iconst 4, 1) := by decide +kernel
theorem dX9_best_34 : decode cX9_best 34 = .ok (.if_icmp .gt 84, 3) := by decide +kernel
theorem dX9_best_37 : decode cX9_best 37 = .ok (.iload 6, 2) := by decide +kernel
theorem dX9_best_39 : decode cX9_best 39 = .ok (.ifCond .eq 9, 3) := by decide +kernel
theorem dX9_best_42 : decode cX9_best 42 = .ok (.iload 6, 2) := by decide +kernel
theorem dX9_best_44 : decode cX9_best 44 = .ok (.iconst 3, 1) := by decide +kernel
theorem dX9_best_45 : decode cX9_best 45 = .ok (.if_icmp .ne 7, 3) := by decide +kernel
theorem dX9_best_48 : decode cX9_best 48 = .ok (.iconst 0, 1) := by decide +kernel
theorem dX9_best_49 : decode cX9_best 49 = .ok (.goto 5, 3) := by decide +kernel
theorem dX9_best_52 : decode cX9_best 52 = .ok (.bipush 90, 2) := by decide +kernel
theorem dX9_best_54 : decode cX9_best 54 = .ok (.istore 7, 2) := by decide +kernel
theorem dX9_best_56 : decode cX9_best 56 = .ok (.iconst 0, 1) := by decide +kernel
theorem dX9_best_57 : decode cX9_best 57 = .ok (.istore 8, 2) := by decide +kernel
theorem dX9_best_59 : decode cX9_best 59 = .ok (.iload 8, 2) := by decide +kernel
theorem dX9_best_61 : decode cX9_best 61 = .ok (.iload 7, 2) := by decide +kernel
theorem dX9_best_63 : decode cX9_best 63 = .ok (.if_icmp .gt 49, 3) := by decide +kernel
theorem dX9_best_66 : decode cX9_best 66 = .ok (.aload_n 0, 1) := by decide +kernel
theorem dX9_best_67 : decode cX9_best 67 = .ok (.iload_n 1, 1) := by decide +kernel
theorem dX9_best_68 : decode cX9_best 68 = .ok (.iload_n 2, 1) := by decide +kernel
theorem dX9_best_69 : decode cX9_best 69 = .ok (.iload 6, 2) := by decide +kernel
theorem dX9_best_71 : decode cX9_best 71 = .ok (.iload 8, 2) := by decide +kernel
theorem dX9_best_73 : decode cX9_best 73 = .ok (.invokevirtual 239, 3) := by decide +kernel
theorem dX9_best_76 : decode cX9_best 76 = .ok (.istore 9, 2) := by decide +kernel
theorem dX9_best_78 : decode cX9_best 78 = .ok (.iload 5, 2) := by decide +kernel
theorem dX9_best_80 : decode cX9_best 80 = .ok (.bipush (-2), 2) := by decide +kernel
theorem dX9_best_82 : decode cX9_best 82 = .ok (.if_icmp .eq 10, 3) := by decide +kernel
theorem dX9_best_85 : decode cX9_best 85 = .ok (.iload 9, 2) := by decide +kernel
theorem dX9_best_87 : decode cX9_best 87 = .ok (.iload 4, 2) := by decide +kernel
theorem dX9_best_89 : decode cX9_best 89 = .ok (.if_icmp .ge 17, 3) := by decide +kernel
theorem dX9_best_92 : decode cX9_best 92 = .ok (.iload 9, 2) := by decide +kernel
theorem dX9_best_94 : decode cX9_best 94 = .ok (.istore 4, 2) := by decide +kernel
theorem dX9_best_96 : decode cX9_best 96 = .ok (.bipush 100, 2) := by decide +kernel
theorem dX9_best_98 : decode cX9_best 98 = .ok (.iload 6, 2) := by decide +kernel
theorem dX9_best_100 : decode cX9_best 100 = .ok (.imul, 1) := by decide +kernel
theorem dX9_best_101 : decode cX9_best 101 = .ok (.iload 8, 2) := by decide +kernel
theorem dX9_best_103 : decode cX9_best 103 = .ok (.iadd, 1) := by decide +kernel
theorem dX9_best_104 : decode cX9_best 104 = .ok (.istore 5, 2) := by decide +kernel
theorem dX9_best_106 : decode cX9_best 106 = .ok (.iinc 8 10, 3) := by decide +kernel
theorem dX9_best_109 : decode cX9_best 109 = .ok (.goto (-50), 3) := by decide +kernel
theorem dX9_best_112 : decode cX9_best 112 = .ok (.iinc 6 1, 3) := by decide +kernel
theorem dX9_best_115 : decode cX9_best 115 = .ok (.goto (-84), 3) := by decide +kernel
theorem dX9_best_118 : decode cX9_best 118 = .ok (.iload_n 3, 1) := by decide +kernel
theorem dX9_best_119 : decode cX9_best 119 = .ok (.ifCond .ne 8, 3) := by decide +kernel
theorem dX9_best_122 : decode cX9_best 122 = .ok (.iload 5, 2) := by decide +kernel
theorem dX9_best_124 : decode cX9_best 124 = .ok (.goto 5, 3) := by decide +kernel
theorem dX9_best_127 : decode cX9_best 127 = .ok (.iload 4, 2) := by decide +kernel
theorem dX9_best_129 : decode cX9_best 129 = .ok (.ireturn, 1) := by decide +kernel
theorem dX9_called_0 : decode cX9_called 0 = .ok (.aload_n 0, 1) := by decide +kernel
theorem dX9_called_1 : decode cX9_called 1 = .ok (.iload_n 1, 1) := by decide +kernel
theorem dX9_called_2 : decode cX9_called 2 = .ok (.iload_n 2, 1) := by decide +kernel
theorem dX9_called_3 : decode cX9_called 3 = .ok (.invokevirtual 236, 3) := by decide +kernel
theorem dX9_called_6 : decode cX9_called 6 = .ok (.ifCond .ne 6, 3) := by decide +kernel
theorem dX9_called_9 : decode cX9_called 9 = .ok (.ldc 126, 2) := by decide +kernel
theorem dX9_called_11 : decode cX9_called 11 = .ok (.ireturn, 1) := by decide +kernel
theorem dX9_called_12 : decode cX9_called 12 = .ok (.aload_n 0, 1) := by decide +kernel
theorem dX9_called_13 : decode cX9_called 13 = .ok (.getfield 10, 3) := by decide +kernel
theorem dX9_called_16 : decode cX9_called 16 = .ok (.iload_n 1, 1) := by decide +kernel
theorem dX9_called_17 : decode cX9_called 17 = .ok (.invokevirtual 138, 3) := by decide +kernel
theorem dX9_called_20 : decode cX9_called 20 = .ok (.istore_n 3, 1) := by decide +kernel
theorem dX9_called_21 : decode cX9_called 21 = .ok (.aload_n 0, 1) := by decide +kernel
theorem dX9_called_22 : decode cX9_called 22 = .ok (.iload_n 1, 1) := by decide +kernel
theorem dX9_called_23 : decode cX9_called 23 = .ok (.iload_n 2, 1) := by decide +kernel
theorem dX9_called_24 : decode cX9_called 24 = .ok (.iload_n 3, 1) := by decide +kernel
theorem dX9_called_25 : decode cX9_called 25 = .ok (.bipush 100, 2) := by decide +kernel
theorem dX9_called_27 : decode cX9_called 27 = .ok (.idiv, 1) := by decide +kernel
theorem dX9_called_28 : decode cX9_called 28 = .ok (.iload_n 3, 1) := by decide +kernel
theorem dX9_called_29 : decode cX9_called 29 = .ok (.bipush 100, 2) := by decide +kernel
theorem dX9_called_31 : decode cX9_called 31 = .ok (.irem, 1) := by decide +kernel
theorem dX9_called_32 : decode cX9_called 32 = .ok (.invokevirtual 242, 3) := by decide +kernel
theorem dX9_called_35 : decode cX9_called 35 = .ok (.aload_n 0, 1) := by decide +kernel
theorem dX9_called_36 : decode cX9_called 36 = .ok (.iload_n 1, 1) := by decide +kernel
theorem dX9_called_37 : decode cX9_called 37 = .ok (.iload_n 2, 1) := by decide +kernel
theorem dX9_called_38 : decode cX9_called 38 = .ok (.iconst 0, 1) := by decide +kernel
theorem dX9_called_39 : decode cX9_called 39 = .ok (.iconst 0, 1) := by decide +kernel
theorem dX9_called_40 : decode cX9_called 40 = .ok (.invokevirtual 242, 3) := by decide +kernel
theorem dX9_called_43 : decode cX9_called 43 = .ok (.isub, 1) := by decide +kernel
theorem dX9_called_44 : decode cX9_called 44 = .ok (.ireturn, 1) := by decide +kernel
theorem dX9_off_0 : decode cX9_off 0 = .ok (.aload_n 0, 1) := by decide +kernel
theorem dX9_off_1 : decode cX9_off 1 = .ok (.iload_n 1, 1) := by decide +kernel
theorem dX9_off_2 : decode cX9_off 2 = .ok (.iload_n 2, 1) := by decide +kernel
theorem dX9_off_3 : decode cX9_off 3 = .ok (.invokevirtual 236, 3) := by decide +kernel
theorem dX9_off_6 : decode cX9_off 6 = .ok (.ifCond .ne 5, 3) := by decide +kernel
theorem dX9_off_9 : decode cX9_off 9 = .ok (.iconst (-1), 1) := by decide +kernel
theorem dX9_off_10 : decode cX9_off 10 = .ok (.ireturn, 1) := by decide +kernel
theorem dX9_off_11 : decode cX9_off 11 = .ok (.iconst 0, 1) := by decide +kernel
theorem dX9_off_12 : decode cX9_off 12 = .ok (.istore_n 3, 1) := by decide +kernel
theorem dX9_off_13 : decode cX9_off 13 = .ok (.iload_n 3, 1) := by decide +kernel
theorem dX9_off_14 : decode cX9_off 14 = .ok (.bipush 99, 2) := by decide +kernel
theorem dX9_off_16 : decode cX9_off 16 = .ok (.if_icmp .gt 23, 3) := by decide +kernel
theorem dX9_off_19 : decode cX9_off 19 = .ok (.aload_n 0, 1) := by decide +kernel
theorem dX9_off_20 : decode cX9_off 20 = .ok (.iload_n 1, 1) := by decide +kernel
theorem dX9_off_21 : decode cX9_off 21 = .ok (.iload_n 2, 1) := by decide +kernel
theorem dX9_off_22 : decode cX9_off 22 = .ok (.iconst 2, 1) := by decide +kernel
theorem dX9_off_23 : decode cX9_off 23 = .ok (.iload_n 3, 1) := by decide +kernel
theorem dX9_off_24 : decode cX9_off 24 = .ok (.invokevirtual 242, 3) := by decide +kernel
theorem dX9_off_27 : decode cX9_off 27 = .ok (.iconst 1, 1) := by decide +kernel
theorem dX9_off_28 : decode cX9_off 28 = .ok (.if_icmp .gt 5, 3) := by decide +kernel
theorem dX9_off_31 : decode cX9_off 31 = .ok (.iload_n 3, 1) := by decide +kernel
theorem dX9_off_32 : decode cX9_off 32 = .ok (.ireturn, 1) := by decide +kernel
theorem dX9_off_33 : decode cX9_off 33 = .ok (.iinc 3 1, 3) := by decide +kernel
theorem dX9_off_36 : decode cX9_off 36 = .ok (.goto (-23), 3) := by decide +kernel
theorem dX9_off_39 : decode cX9_off 39 = .ok (.bipush (-2), 2) := by decide +kernel
theorem dX9_off_41 : decode cX9_off 41 = .ok (.ireturn, 1) := by decide +kernel
theorem dX9_isThought_0 : decode cX9_isThought 0 = .ok (.aload_n 0, 1) := by decide +kernel
theorem dX9_isThought_1 : decode cX9_isThought 1 = .ok (.getfield 10, 3) := by decide +kernel
theorem dX9_isThought_4 : decode cX9_isThought 4 = .ok (.iload_n 1, 1) := by decide +kernel
theorem dX9_isThought_5 : decode cX9_isThought 5 = .ok (.invokevirtual 117, 3) := by decide +kernel
theorem dX9_isThought_8 : decode cX9_isThought 8 = .ok (.ifCond .eq 17, 3) := by decide +kernel
theorem dX9_isThought_11 : decode cX9_isThought 11 = .ok (.iload_n 2, 1) := by decide +kernel
theorem dX9_isThought_12 : decode cX9_isThought 12 = .ok (.iconst 1, 1) := by decide +kernel
theorem dX9_isThought_13 : decode cX9_isThought 13 = .ok (.bipush 60, 2) := by decide +kernel
theorem dX9_isThought_15 : decode cX9_isThought 15 = .ok (.invokestatic 80, 3) := by decide +kernel
theorem dX9_isThought_18 : decode cX9_isThought 18 = .ok (.ifCond .eq 7, 3) := by decide +kernel
theorem dX9_isThought_21 : decode cX9_isThought 21 = .ok (.iconst 1, 1) := by decide +kernel
theorem dX9_isThought_22 : decode cX9_isThought 22 = .ok (.goto 4, 3) := by decide +kernel
theorem dX9_isThought_25 : decode cX9_isThought 25 = .ok (.iconst 0, 1) := by decide +kernel
theorem dX9_isThought_26 : decode cX9_isThought 26 = .ok (.ireturn, 1) := by decide +kernel
theorem dX9_thereInThought_0 : decode cX9_thereInThought 0 = .ok (.aload_n 0, 1) := by decide +kernel
theorem dX9_thereInThought_1 : decode cX9_thereInThought 1 = .ok (.getfield 39, 3) := by decide +kernel
theorem dX9_thereInThought_4 : decode cX9_thereInThought 4 = .ok (.invokevirtual 198, 3) := by decide +kernel
theorem dX9_thereInThought_7 : decode cX9_thereInThought 7 = .ok (.aload_n 0, 1) := by decide +kernel
theorem dX9_thereInThought_8 : decode cX9_thereInThought 8 = .ok (.getfield 39, 3) := by decide +kernel
theorem dX9_thereInThought_11 : decode cX9_thereInThought 11 = .ok (.iload_n 1, 1) := by decide +kernel
theorem dX9_thereInThought_12 : decode cX9_thereInThought 12 = .ok (.iload_n 3, 1) := by decide +kernel
theorem dX9_thereInThought_13 : decode cX9_thereInThought 13 = .ok (.iload 4, 2) := by decide +kernel
theorem dX9_thereInThought_15 : decode cX9_thereInThought 15 = .ok (.invokevirtual 245, 3) := by decide +kernel
theorem dX9_thereInThought_18 : decode cX9_thereInThought 18 = .ok (.aload_n 0, 1) := by decide +kernel
theorem dX9_thereInThought_19 : decode cX9_thereInThought 19 = .ok (.getfield 39, 3) := by decide +kernel
theorem dX9_thereInThought_22 : decode cX9_thereInThought 22 = .ok (.aload_n 0, 1) := by decide +kernel
theorem dX9_thereInThought_23 : decode cX9_thereInThought 23 = .ok (.getfield 73, 3) := by decide +kernel
theorem dX9_thereInThought_26 : decode cX9_thereInThought 26 = .ok (.iload_n 2, 1) := by decide +kernel
theorem dX9_thereInThought_27 : decode cX9_thereInThought 27 = .ok (.invokevirtual 201, 3) := by decide +kernel
theorem dX9_thereInThought_30 : decode cX9_thereInThought 30 = .ok (.aload_n 0, 1) := by decide +kernel
theorem dX9_thereInThought_31 : decode cX9_thereInThought 31 = .ok (.getfield 39, 3) := by decide +kernel
theorem dX9_thereInThought_34 : decode cX9_thereInThought 34 = .ok (.iload_n 1, 1) := by decide +kernel
theorem dX9_thereInThought_35 : decode cX9_thereInThought 35 = .ok (.invokevirtual 230, 3) := by decide +kernel
theorem dX9_thereInThought_38 : decode cX9_thereInThought 38 = .ok (.ireturn, 1) := by decide +kernel
theorem dX9_costInThought_0 : decode cX9_costInThought 0 = .ok (.aload_n 0, 1) := by decide +kernel
theorem dX9_costInThought_1 : decode cX9_costInThought 1 = .ok (.getfield 39, 3) := by decide +kernel
theorem dX9_costInThought_4 : decode cX9_costInThought 4 = .ok (.invokevirtual 198, 3) := by decide +kernel
theorem dX9_costInThought_7 : decode cX9_costInThought 7 = .ok (.aload_n 0, 1) := by decide +kernel
theorem dX9_costInThought_8 : decode cX9_costInThought 8 = .ok (.getfield 39, 3) := by decide +kernel
theorem dX9_costInThought_11 : decode cX9_costInThought 11 = .ok (.iload_n 1, 1) := by decide +kernel
theorem dX9_costInThought_12 : decode cX9_costInThought 12 = .ok (.iload_n 3, 1) := by decide +kernel
theorem dX9_costInThought_13 : decode cX9_costInThought 13 = .ok (.iload 4, 2) := by decide +kernel
theorem dX9_costInThought_15 : decode cX9_costInThought 15 = .ok (.invokevirtual 245, 3) := by decide +kernel
theorem dX9_costInThought_18 : decode cX9_costInThought 18 = .ok (.aload_n 0, 1) := by decide +kernel
theorem dX9_costInThought_19 : decode cX9_costInThought 19 = .ok (.getfield 39, 3) := by decide +kernel
theorem dX9_costInThought_22 : decode cX9_costInThought 22 = .ok (.aload_n 0, 1) := by decide +kernel
theorem dX9_costInThought_23 : decode cX9_costInThought 23 = .ok (.getfield 73, 3) := by decide +kernel
theorem dX9_costInThought_26 : decode cX9_costInThought 26 = .ok (.iload_n 2, 1) := by decide +kernel
theorem dX9_costInThought_27 : decode cX9_costInThought 27 = .ok (.invokevirtual 201, 3) := by decide +kernel
theorem dX9_costInThought_30 : decode cX9_costInThought 30 = .ok (.aload_n 0, 1) := by decide +kernel
theorem dX9_costInThought_31 : decode cX9_costInThought 31 = .ok (.getfield 39, 3) := by decide +kernel
theorem dX9_costInThought_34 : decode cX9_costInThought 34 = .ok (.invokevirtual 205, 3) := by decide +kernel
theorem dX9_costInThought_37 : decode cX9_costInThought 37 = .ok (.aload_n 0, 1) := by decide +kernel
theorem dX9_costInThought_38 : decode cX9_costInThought 38 = .ok (.getfield 39, 3) := by decide +kernel
theorem dX9_costInThought_41 : decode cX9_costInThought 41 = .ok (.iload_n 1, 1) := by decide +kernel
theorem dX9_costInThought_42 : decode cX9_costInThought 42 = .ok (.invokevirtual 227, 3) := by decide +kernel
theorem dX9_costInThought_45 : decode cX9_costInThought 45 = .ok (.ireturn, 1) := by decide +kernel
theorem dX9_fund_0 : decode cX9_fund 0 = .ok (.aload_n 0, 1) := by decide +kernel
theorem dX9_fund_1 : decode cX9_fund 1 = .ok (.iload_n 1, 1) := by decide +kernel
theorem dX9_fund_2 : decode cX9_fund 2 = .ok (.invokevirtual 166, 3) := by decide +kernel
theorem dX9_fund_5 : decode cX9_fund 5 = .ok (.ifCond .eq 14, 3) := by decide +kernel
theorem dX9_fund_8 : decode cX9_fund 8 = .ok (.iload_n 2, 1) := by decide +kernel
theorem dX9_fund_9 : decode cX9_fund 9 = .ok (.iconst 0, 1) := by decide +kernel
theorem dX9_fund_10 : decode cX9_fund 10 = .ok (.sipush 9999, 3) := by decide +kernel
theorem dX9_fund_13 : decode cX9_fund 13 = .ok (.invokestatic 80, 3) := by decide +kernel
theorem dX9_fund_16 : decode cX9_fund 16 = .ok (.ifCond .ne 5, 3) := by decide +kernel
theorem dX9_fund_19 : decode cX9_fund 19 = .ok (.iconst (-1), 1) := by decide +kernel
theorem dX9_fund_20 : decode cX9_fund 20 = .ok (.ireturn, 1) := by decide +kernel
theorem dX9_fund_21 : decode cX9_fund 21 = .ok (.iload_n 3, 1) := by decide +kernel
theorem dX9_fund_22 : decode cX9_fund 22 = .ok (.bipush (-2), 2) := by decide +kernel
theorem dX9_fund_24 : decode cX9_fund 24 = .ok (.if_icmp .lt 18, 3) := by decide +kernel
theorem dX9_fund_27 : decode cX9_fund 27 = .ok (.iload_n 3, 1) := by decide +kernel
theorem dX9_fund_28 : decode cX9_fund 28 = .ok (.aload_n 0, 1) := by decide +kernel
theorem dX9_fund_29 : decode cX9_fund 29 = .ok (.getfield 10, 3) := by decide +kernel
theorem dX9_fund_32 : decode cX9_fund 32 = .ok (.iload_n 1, 1) := by decide +kernel
theorem dX9_fund_33 : decode cX9_fund 33 = .ok (.bipush 10, 2) := by decide +kernel
theorem dX9_fund_35 : decode cX9_fund 35 = .ok (.irem, 1) := by decide +kernel
theorem dX9_fund_36 : decode cX9_fund 36 = .ok (.invokevirtual 248, 3) := by decide +kernel
theorem dX9_fund_39 : decode cX9_fund 39 = .ok (.if_icmp .lt 5, 3) := by decide +kernel
theorem dX9_fund_42 : decode cX9_fund 42 = .ok (.iconst (-1), 1) := by decide +kernel
theorem dX9_fund_43 : decode cX9_fund 43 = .ok (.ireturn, 1) := by decide +kernel
theorem dX9_fund_44 : decode cX9_fund 44 = .ok (.aload_n 0, 1) := by decide +kernel
theorem dX9_fund_45 : decode cX9_fund 45 = .ok (.getfield 28, 3) := by decide +kernel
theorem dX9_fund_48 : decode cX9_fund 48 = .ok (.iload_n 1, 1) := by decide +kernel
theorem dX9_fund_49 : decode cX9_fund 49 = .ok (.bipush 10, 2) := by decide +kernel
theorem dX9_fund_51 : decode cX9_fund 51 = .ok (.irem, 1) := by decide +kernel
theorem dX9_fund_52 : decode cX9_fund 52 = .ok (.aload_n 0, 1) := by decide +kernel
theorem dX9_fund_53 : decode cX9_fund 53 = .ok (.getfield 10, 3) := by decide +kernel
theorem dX9_fund_56 : decode cX9_fund 56 = .ok (.iload_n 1, 1) := by decide +kernel
theorem dX9_fund_57 : decode cX9_fund 57 = .ok (.bipush 10, 2) := by decide +kernel
theorem dX9_fund_59 : decode cX9_fund 59 = .ok (.idiv, 1) := by decide +kernel
theorem dX9_fund_60 : decode cX9_fund 60 = .ok (.invokevirtual 160, 3) := by decide +kernel
theorem dX9_fund_63 : decode cX9_fund 63 = .ok (.iload_n 2, 1) := by decide +kernel
theorem dX9_fund_64 : decode cX9_fund 64 = .ok (.invokevirtual 251, 3) := by decide +kernel
theorem dX9_fund_67 : decode cX9_fund 67 = .ok (.iload_n 3, 1) := by decide +kernel
theorem dX9_fund_68 : decode cX9_fund 68 = .ok (.iconst (-1), 1) := by decide +kernel
theorem dX9_fund_69 : decode cX9_fund 69 = .ok (.if_icmp .ne 19, 3) := by decide +kernel
theorem dX9_fund_72 : decode cX9_fund 72 = .ok (.aload_n 0, 1) := by decide +kernel
theorem dX9_fund_73 : decode cX9_fund 73 = .ok (.getfield 28, 3) := by decide +kernel
theorem dX9_fund_76 : decode cX9_fund 76 = .ok (.invokevirtual 254, 3) := by decide +kernel
theorem dX9_fund_79 : decode cX9_fund 79 = .ok (.ifCond .eq 7, 3) := by decide +kernel
theorem dX9_fund_82 : decode cX9_fund 82 = .ok (.iconst 1, 1) := by decide +kernel
theorem dX9_fund_83 : decode cX9_fund 83 = .ok (.goto 4, 3) := by decide +kernel
theorem dX9_fund_86 : decode cX9_fund 86 = .ok (.iconst 0, 1) := by decide +kernel
theorem dX9_fund_87 : decode cX9_fund 87 = .ok (.ireturn, 1) := by decide +kernel
theorem dX9_fund_88 : decode cX9_fund 88 = .ok (.iload_n 3, 1) := by decide +kernel
theorem dX9_fund_89 : decode cX9_fund 89 = .ok (.bipush (-2), 2) := by decide +kernel
theorem dX9_fund_91 : decode cX9_fund 91 = .ok (.if_icmp .ne 11, 3) := by decide +kernel
theorem dX9_fund_94 : decode cX9_fund 94 = .ok (.aload_n 0, 1) := by decide +kernel
theorem dX9_fund_95 : decode cX9_fund 95 = .ok (.getfield 28, 3) := by decide +kernel
theorem dX9_fund_98 : decode cX9_fund 98 = .ok (.invokevirtual 258, 3) := by decide +kernel
theorem dX9_fund_101 : decode cX9_fund 101 = .ok (.ireturn, 1) := by decide +kernel
theorem dX9_fund_102 : decode cX9_fund 102 = .ok (.aload_n 0, 1) := by decide +kernel
theorem dX9_fund_103 : decode cX9_fund 103 = .ok (.getfield 28, 3) := by decide +kernel
theorem dX9_fund_106 : decode cX9_fund 106 = .ok (.iload_n 3, 1) := by decide +kernel
theorem dX9_fund_107 : decode cX9_fund 107 = .ok (.invokevirtual 261, 3) := by decide +kernel
theorem dX9_fund_110 : decode cX9_fund 110 = .ok (.ireturn, 1) := by decide +kernel
theorem dX9_fetch_0 : decode cX9_fetch 0 = .ok (.aload_n 0, 1) := by decide +kernel
theorem dX9_fetch_1 : decode cX9_fetch 1 = .ok (.iload_n 1, 1) := by decide +kernel
theorem dX9_fetch_2 : decode cX9_fetch 2 = .ok (.invokevirtual 166, 3) := by decide +kernel
theorem dX9_fetch_5 : decode cX9_fetch 5 = .ok (.ifCond .ne 5, 3) := by decide +kernel
theorem dX9_fetch_8 : decode cX9_fetch 8 = .ok (.iconst (-1), 1) := by decide +kernel
theorem dX9_fetch_9 : decode cX9_fetch 9 = .ok (.ireturn, 1) := by decide +kernel
theorem dX9_fetch_10 : decode cX9_fetch 10 = .ok (.iload_n 1, 1) := by decide +kernel
theorem dX9_fetch_11 : decode cX9_fetch 11 = .ok (.bipush 10, 2) := by decide +kernel
theorem dX9_fetch_13 : decode cX9_fetch 13 = .ok (.idiv, 1) := by decide +kernel
theorem dX9_fetch_14 : decode cX9_fetch 14 = .ok (.istore_n 2, 1) := by decide +kernel
theorem dX9_fetch_15 : decode cX9_fetch 15 = .ok (.iload_n 1, 1) := by decide +kernel
theorem dX9_fetch_16 : decode cX9_fetch 16 = .ok (.bipush 10, 2) := by decide +kernel
theorem dX9_fetch_18 : decode cX9_fetch 18 = .ok (.irem, 1) := by decide +kernel
theorem dX9_fetch_19 : decode cX9_fetch 19 = .ok (.istore_n 3, 1) := by decide +kernel
theorem dX9_fetch_20 : decode cX9_fetch 20 = .ok (.aload_n 0, 1) := by decide +kernel
theorem dX9_fetch_21 : decode cX9_fetch 21 = .ok (.getfield 10, 3) := by decide +kernel
theorem dX9_fetch_24 : decode cX9_fetch 24 = .ok (.iload_n 3, 1) := by decide +kernel
theorem dX9_fetch_25 : decode cX9_fetch 25 = .ok (.invokevirtual 264, 3) := by decide +kernel
theorem dX9_fetch_28 : decode cX9_fetch 28 = .ok (.istore 4, 2) := by decide +kernel
theorem dX9_fetch_30 : decode cX9_fetch 30 = .ok (.aload_n 0, 1) := by decide +kernel
theorem dX9_fetch_31 : decode cX9_fetch 31 = .ok (.getfield 21, 3) := by decide +kernel
theorem dX9_fetch_34 : decode cX9_fetch 34 = .ok (.iload_n 2, 1) := by decide +kernel
theorem dX9_fetch_35 : decode cX9_fetch 35 = .ok (.iload_n 3, 1) := by decide +kernel
theorem dX9_fetch_36 : decode cX9_fetch 36 = .ok (.aload_n 0, 1) := by decide +kernel
theorem dX9_fetch_37 : decode cX9_fetch 37 = .ok (.getfield 10, 3) := by decide +kernel
theorem dX9_fetch_40 : decode cX9_fetch 40 = .ok (.iload_n 2, 1) := by decide +kernel
theorem dX9_fetch_41 : decode cX9_fetch 41 = .ok (.invokevirtual 160, 3) := by decide +kernel
theorem dX9_fetch_44 : decode cX9_fetch 44 = .ok (.invokevirtual 178, 3) := by decide +kernel
theorem dX9_fetch_47 : decode cX9_fetch 47 = .ok (.istore 5, 2) := by decide +kernel
theorem dX9_fetch_49 : decode cX9_fetch 49 = .ok (.iload 4, 2) := by decide +kernel
theorem dX9_fetch_51 : decode cX9_fetch 51 = .ok (.ifCond .eq 10, 3) := by decide +kernel
theorem dX9_fetch_54 : decode cX9_fetch 54 = .ok (.iload 5, 2) := by decide +kernel
theorem dX9_fetch_56 : decode cX9_fetch 56 = .ok (.bipush (-2), 2) := by decide +kernel
theorem dX9_fetch_58 : decode cX9_fetch 58 = .ok (.if_icmp .ne 6, 3) := by decide +kernel
theorem dX9_fetch_61 : decode cX9_fetch 61 = .ok (.bipush (-2), 2) := by decide +kernel
theorem dX9_fetch_63 : decode cX9_fetch 63 = .ok (.ireturn, 1) := by decide +kernel
theorem dX9_fetch_64 : decode cX9_fetch 64 = .ok (.iload 4, 2) := by decide +kernel
theorem dX9_fetch_66 : decode cX9_fetch 66 = .ok (.iload 5, 2) := by decide +kernel
theorem dX9_fetch_68 : decode cX9_fetch 68 = .ok (.if_icmp .ge 7, 3) := by decide +kernel
theorem dX9_fetch_71 : decode cX9_fetch 71 = .ok (.iconst 1, 1) := by decide +kernel
theorem dX9_fetch_72 : decode cX9_fetch 72 = .ok (.goto 4, 3) := by decide +kernel
theorem dX9_fetch_75 : decode cX9_fetch 75 = .ok (.iconst 0, 1) := by decide +kernel
theorem dX9_fetch_76 : decode cX9_fetch 76 = .ok (.ireturn, 1) := by decide +kernel
theorem dX9_worse_0 : decode cX9_worse 0 = .ok (.aload_n 0, 1) := by decide +kernel
theorem dX9_worse_1 : decode cX9_worse 1 = .ok (.iload_n 1, 1) := by decide +kernel
theorem dX9_worse_2 : decode cX9_worse 2 = .ok (.invokevirtual 166, 3) := by decide +kernel
theorem dX9_worse_5 : decode cX9_worse 5 = .ok (.ifCond .ne 5, 3) := by decide +kernel
theorem dX9_worse_8 : decode cX9_worse 8 = .ok (.iconst (-1), 1) := by decide +kernel
theorem dX9_worse_9 : decode cX9_worse 9 = .ok (.ireturn, 1) := by decide +kernel
theorem dX9_worse_10 : decode cX9_worse 10 = .ok (.bipush (-2), 2) := by decide +kernel
theorem dX9_worse_12 : decode cX9_worse 12 = .ok (.istore_n 2, 1) := by decide +kernel
theorem dX9_worse_13 : decode cX9_worse 13 = .ok (.bipush (-2), 2) := by decide +kernel
theorem dX9_worse_15 : decode cX9_worse 15 = .ok (.istore_n 3, 1) := by decide +kernel
theorem dX9_worse_16 : decode cX9_worse 16 = .ok (.iconst 0, 1) := by decide +kernel
theorem dX9_worse_17 : decode cX9_worse 17 = .ok (.istore 4, 2) := by decide +kernel
theorem dX9_worse_19 : decode cX9_worse 19 = .ok (.iload 4, 2) := by decide +kernel
theorem dX9_worse_21 : decode cX9_worse 21 = .ok (.bipush 10, 2) := by decide +kernel
theorem dX9_worse_23 : decode cX9_worse 23 = .ok (.if_icmp .gt 40, 3) := by decide +kernel
theorem dX9_worse_26 : decode cX9_worse 26 = .ok (.aload_n 0, 1) := by decide +kernel
theorem dX9_worse_27 : decode cX9_worse 27 = .ok (.getfield 21, 3) := by decide +kernel
theorem dX9_worse_30 : decode cX9_worse 30 = .ok (.iload_n 1, 1) := by decide +kernel
theorem dX9_worse_31 : decode cX9_worse 31 = .ok (.bipush 10, 2) := by decide +kernel
theorem dX9_worse_33 : decode cX9_worse 33 = .ok (.idiv, 1) := by decide +kernel
theorem dX9_worse_34 : decode cX9_worse 34 = .ok (.iload_n 1, 1) := by decide +kernel
theorem dX9_worse_35 : decode cX9_worse 35 = .ok (.bipush 10, 2) := by decide +kernel
theorem dX9_worse_37 : decode cX9_worse 37 = .ok (.irem, 1) := by decide +kernel
theorem dX9_worse_38 : decode cX9_worse 38 = .ok (.iload 4, 2) := by decide +kernel
theorem dX9_worse_40 : decode cX9_worse 40 = .ok (.invokevirtual 178, 3) := by decide +kernel
theorem dX9_worse_43 : decode cX9_worse 43 = .ok (.istore 5, 2) := by decide +kernel
theorem dX9_worse_45 : decode cX9_worse 45 = .ok (.iload 5, 2) := by decide +kernel
theorem dX9_worse_47 : decode cX9_worse 47 = .ok (.iload_n 2, 1) := by decide +kernel
theorem dX9_worse_48 : decode cX9_worse 48 = .ok (.if_icmp .le 9, 3) := by decide +kernel
theorem dX9_worse_51 : decode cX9_worse 51 = .ok (.iload 5, 2) := by decide +kernel
theorem dX9_worse_53 : decode cX9_worse 53 = .ok (.istore_n 2, 1) := by decide +kernel
theorem dX9_worse_54 : decode cX9_worse 54 = .ok (.iload 4, 2) := by decide +kernel
theorem dX9_worse_56 : decode cX9_worse 56 = .ok (.istore_n 3, 1) := by decide +kernel
theorem dX9_worse_57 : decode cX9_worse 57 = .ok (.iinc 4 1, 3) := by decide +kernel
theorem dX9_worse_60 : decode cX9_worse 60 = .ok (.goto (-41), 3) := by decide +kernel
theorem dX9_worse_63 : decode cX9_worse 63 = .ok (.iload_n 3, 1) := by decide +kernel
theorem dX9_worse_64 : decode cX9_worse 64 = .ok (.ireturn, 1) := by decide +kernel
theorem dX9_lovers_0 : decode cX9_lovers 0 = .ok (.aload_n 0, 1) := by decide +kernel
theorem dX9_lovers_1 : decode cX9_lovers 1 = .ok (.iload_n 1, 1) := by decide +kernel
theorem dX9_lovers_2 : decode cX9_lovers 2 = .ok (.invokevirtual 166, 3) := by decide +kernel
theorem dX9_lovers_5 : decode cX9_lovers 5 = .ok (.ifCond .eq 12, 3) := by decide +kernel
theorem dX9_lovers_8 : decode cX9_lovers 8 = .ok (.iload_n 2, 1) := by decide +kernel
theorem dX9_lovers_9 : decode cX9_lovers 9 = .ok (.iconst 0, 1) := by decide +kernel
theorem dX9_lovers_10 : decode cX9_lovers 10 = .ok (.iconst 1, 1) := by decide +kernel
theorem dX9_lovers_11 : decode cX9_lovers 11 = .ok (.invokestatic 80, 3) := by decide +kernel
theorem dX9_lovers_14 : decode cX9_lovers 14 = .ok (.ifCond .ne 5, 3) := by decide +kernel
theorem dX9_lovers_17 : decode cX9_lovers 17 = .ok (.iconst (-1), 1) := by decide +kernel
theorem dX9_lovers_18 : decode cX9_lovers 18 = .ok (.ireturn, 1) := by decide +kernel
theorem dX9_lovers_19 : decode cX9_lovers 19 = .ok (.iload_n 1, 1) := by decide +kernel
theorem dX9_lovers_20 : decode cX9_lovers 20 = .ok (.bipush 10, 2) := by decide +kernel
theorem dX9_lovers_22 : decode cX9_lovers 22 = .ok (.idiv, 1) := by decide +kernel
theorem dX9_lovers_23 : decode cX9_lovers 23 = .ok (.istore_n 3, 1) := by decide +kernel
theorem dX9_lovers_24 : decode cX9_lovers 24 = .ok (.iload_n 1, 1) := by decide +kernel
theorem dX9_lovers_25 : decode cX9_lovers 25 = .ok (.bipush 10, 2) := by decide +kernel
theorem dX9_lovers_27 : decode cX9_lovers 27 = .ok (.irem, 1) := by decide +kernel
theorem dX9_lovers_28 : decode cX9_lovers 28 = .ok (.istore 4, 2) := by decide +kernel
theorem dX9_lovers_30 : decode cX9_lovers 30 = .ok (.aload_n 0, 1) := by decide +kernel
theorem dX9_lovers_31 : decode cX9_lovers 31 = .ok (.getfield 10, 3) := by decide +kernel
theorem dX9_lovers_34 : decode cX9_lovers 34 = .ok (.iload 4, 2) := by decide +kernel
theorem dX9_lovers_36 : decode cX9_lovers 36 = .ok (.aload_n 0, 1) := by decide +kernel
theorem dX9_lovers_37 : decode cX9_lovers 37 = .ok (.getfield 10, 3) := by decide +kernel
theorem dX9_lovers_40 : decode cX9_lovers 40 = .ok (.iload_n 3, 1) := by decide +kernel
theorem dX9_lovers_41 : decode cX9_lovers 41 = .ok (.invokevirtual 160, 3) := by decide +kernel
theorem dX9_lovers_44 : decode cX9_lovers 44 = .ok (.invokevirtual 175, 3) := by decide +kernel
theorem dX9_lovers_47 : decode cX9_lovers 47 = .ok (.aload_n 0, 1) := by decide +kernel
theorem dX9_lovers_48 : decode cX9_lovers 48 = .ok (.getfield 10, 3) := by decide +kernel
theorem dX9_lovers_51 : decode cX9_lovers 51 = .ok (.iload 4, 2) := by decide +kernel
theorem dX9_lovers_53 : decode cX9_lovers 53 = .ok (.aload_n 0, 1) := by decide +kernel
theorem dX9_lovers_54 : decode cX9_lovers 54 = .ok (.getfield 10, 3) := by decide +kernel
theorem dX9_lovers_57 : decode cX9_lovers 57 = .ok (.iload_n 3, 1) := by decide +kernel
theorem dX9_lovers_58 : decode cX9_lovers 58 = .ok (.invokevirtual 160, 3) := by decide +kernel
theorem dX9_lovers_61 : decode cX9_lovers 61 = .ok (.invokevirtual 169, 3) := by decide +kernel
theorem dX9_lovers_64 : decode cX9_lovers 64 = .ok (.isub, 1) := by decide +kernel
theorem dX9_lovers_65 : decode cX9_lovers 65 = .ok (.istore 5, 2) := by decide +kernel
theorem dX9_lovers_67 : decode cX9_lovers 67 = .ok (.iload_n 2, 1) := by decide +kernel
theorem dX9_lovers_68 : decode cX9_lovers 68 = .ok (.ifCond .ne 6, 3) := by decide +kernel
theorem dX9_lovers_71 : decode cX9_lovers 71 = .ok (.iload 5, 2) := by decide +kernel
theorem dX9_lovers_73 : decode cX9_lovers 73 = .ok (.ireturn, 1) := by decide +kernel
theorem dX9_lovers_74 : decode cX9_lovers 74 = .ok (.iload 5, 2) := by decide +kernel
theorem dX9_lovers_76 : decode cX9_lovers 76 = .ok (.aload_n 0, 1) := by decide +kernel
theorem dX9_lovers_77 : decode cX9_lovers 77 = .ok (.getfield 10, 3) := by decide +kernel
theorem dX9_lovers_80 : decode cX9_lovers 80 = .ok (.iload_n 3, 1) := by decide +kernel
theorem dX9_lovers_81 : decode cX9_lovers 81 = .ok (.iload 4, 2) := by decide +kernel
theorem dX9_lovers_83 : decode cX9_lovers 83 = .ok (.invokevirtual 172, 3) := by decide +kernel
theorem dX9_lovers_86 : decode cX9_lovers 86 = .ok (.if_icmp .lt 7, 3) := by decide +kernel
theorem dX9_lovers_89 : decode cX9_lovers 89 = .ok (.iconst 1, 1) := by decide +kernel
theorem dX9_lovers_90 : decode cX9_lovers 90 = .ok (.goto 4, 3) := by decide +kernel
theorem dX9_lovers_93 : decode cX9_lovers 93 = .ok (.iconst 0, 1) := by decide +kernel
theorem dX9_lovers_94 : decode cX9_lovers 94 = .ok (.ireturn, 1) := by decide +kernel
theorem dX9_judge_0 : decode cX9_judge 0 = .ok (.aload_n 0, 1) := by decide +kernel
theorem dX9_judge_1 : decode cX9_judge 1 = .ok (.getfield 10, 3) := by decide +kernel
theorem dX9_judge_4 : decode cX9_judge 4 = .ok (.invokevirtual 267, 3) := by decide +kernel
theorem dX9_judge_7 : decode cX9_judge 7 = .ok (.ireturn, 1) := by decide +kernel
theorem dX9_undo_0 : decode cX9_undo 0 = .ok (.aload_n 0, 1) := by decide +kernel
theorem dX9_undo_1 : decode cX9_undo 1 = .ok (.getfield 45, 3) := by decide +kernel
theorem dX9_undo_4 : decode cX9_undo 4 = .ok (.invokevirtual 270, 3) := by decide +kernel
theorem dX9_undo_7 : decode cX9_undo 7 = .ok (.istore_n 1, 1) := by decide +kernel
theorem dX9_undo_8 : decode cX9_undo 8 = .ok (.iload_n 1, 1) := by decide +kernel
theorem dX9_undo_9 : decode cX9_undo 9 = .ok (.ifCond .ge 6, 3) := by decide +kernel
theorem dX9_undo_12 : decode cX9_undo 12 = .ok (.bipush (-5), 2) := by decide +kernel
theorem dX9_undo_14 : decode cX9_undo 14 = .ok (.ireturn, 1) := by decide +kernel
theorem dX9_undo_15 : decode cX9_undo 15 = .ok (.aload_n 0, 1) := by decide +kernel
theorem dX9_undo_16 : decode cX9_undo 16 = .ok (.getfield 10, 3) := by decide +kernel
theorem dX9_undo_19 : decode cX9_undo 19 = .ok (.aload_n 0, 1) := by decide +kernel
theorem dX9_undo_20 : decode cX9_undo 20 = .ok (.getfield 45, 3) := by decide +kernel
theorem dX9_undo_23 : decode cX9_undo 23 = .ok (.iload_n 1, 1) := by decide +kernel
theorem dX9_undo_24 : decode cX9_undo 24 = .ok (.invokevirtual 273, 3) := by decide +kernel
theorem dX9_undo_27 : decode cX9_undo 27 = .ok (.aload_n 0, 1) := by decide +kernel
theorem dX9_undo_28 : decode cX9_undo 28 = .ok (.getfield 45, 3) := by decide +kernel
theorem dX9_undo_31 : decode cX9_undo 31 = .ok (.iload_n 1, 1) := by decide +kernel
theorem dX9_undo_32 : decode cX9_undo 32 = .ok (.invokevirtual 276, 3) := by decide +kernel
theorem dX9_undo_35 : decode cX9_undo 35 = .ok (.aload_n 0, 1) := by decide +kernel
theorem dX9_undo_36 : decode cX9_undo 36 = .ok (.getfield 45, 3) := by decide +kernel
theorem dX9_undo_39 : decode cX9_undo 39 = .ok (.iload_n 1, 1) := by decide +kernel
theorem dX9_undo_40 : decode cX9_undo 40 = .ok (.invokevirtual 279, 3) := by decide +kernel
theorem dX9_undo_43 : decode cX9_undo 43 = .ok (.invokevirtual 134, 3) := by decide +kernel
theorem dX9_undo_46 : decode cX9_undo 46 = .ok (.aload_n 0, 1) := by decide +kernel
theorem dX9_undo_47 : decode cX9_undo 47 = .ok (.getfield 45, 3) := by decide +kernel
theorem dX9_undo_50 : decode cX9_undo 50 = .ok (.invokevirtual 282, 3) := by decide +kernel
theorem dX9_undo_53 : decode cX9_undo 53 = .ok (.ireturn, 1) := by decide +kernel
theorem dX9_redo_0 : decode cX9_redo 0 = .ok (.aload_n 0, 1) := by decide +kernel
theorem dX9_redo_1 : decode cX9_redo 1 = .ok (.getfield 45, 3) := by decide +kernel
theorem dX9_redo_4 : decode cX9_redo 4 = .ok (.invokevirtual 285, 3) := by decide +kernel
theorem dX9_redo_7 : decode cX9_redo 7 = .ok (.istore_n 1, 1) := by decide +kernel
theorem dX9_redo_8 : decode cX9_redo 8 = .ok (.iload_n 1, 1) := by decide +kernel
theorem dX9_redo_9 : decode cX9_redo 9 = .ok (.ifCond .ge 6, 3) := by decide +kernel
theorem dX9_redo_12 : decode cX9_redo 12 = .ok (.bipush (-5), 2) := by decide +kernel
theorem dX9_redo_14 : decode cX9_redo 14 = .ok (.ireturn, 1) := by decide +kernel
theorem dX9_redo_15 : decode cX9_redo 15 = .ok (.aload_n 0, 1) := by decide +kernel
theorem dX9_redo_16 : decode cX9_redo 16 = .ok (.getfield 10, 3) := by decide +kernel
theorem dX9_redo_19 : decode cX9_redo 19 = .ok (.aload_n 0, 1) := by decide +kernel
theorem dX9_redo_20 : decode cX9_redo 20 = .ok (.getfield 45, 3) := by decide +kernel
theorem dX9_redo_23 : decode cX9_redo 23 = .ok (.iload_n 1, 1) := by decide +kernel
theorem dX9_redo_24 : decode cX9_redo 24 = .ok (.invokevirtual 273, 3) := by decide +kernel
theorem dX9_redo_27 : decode cX9_redo 27 = .ok (.aload_n 0, 1) := by decide +kernel
theorem dX9_redo_28 : decode cX9_redo 28 = .ok (.getfield 45, 3) := by decide +kernel
theorem dX9_redo_31 : decode cX9_redo 31 = .ok (.iload_n 1, 1) := by decide +kernel
theorem dX9_redo_32 : decode cX9_redo 32 = .ok (.invokevirtual 276, 3) := by decide +kernel
theorem dX9_redo_35 : decode cX9_redo 35 = .ok (.aload_n 0, 1) := by decide +kernel
theorem dX9_redo_36 : decode cX9_redo 36 = .ok (.getfield 45, 3) := by decide +kernel
theorem dX9_redo_39 : decode cX9_redo 39 = .ok (.iload_n 1, 1) := by decide +kernel
theorem dX9_redo_40 : decode cX9_redo 40 = .ok (.invokevirtual 288, 3) := by decide +kernel
theorem dX9_redo_43 : decode cX9_redo 43 = .ok (.invokevirtual 134, 3) := by decide +kernel
theorem dX9_redo_46 : decode cX9_redo 46 = .ok (.aload_n 0, 1) := by decide +kernel
theorem dX9_redo_47 : decode cX9_redo 47 = .ok (.getfield 45, 3) := by decide +kernel
theorem dX9_redo_50 : decode cX9_redo 50 = .ok (.invokevirtual 291, 3) := by decide +kernel
theorem dX9_redo_53 : decode cX9_redo 53 = .ok (.ireturn, 1) := by decide +kernel
theorem dX9_body_0 : decode cX9_body 0 = .ok (.iload_n 1, 1) := by decide +kernel
theorem dX9_body_1 : decode cX9_body 1 = .ok (.iconst 0, 1) := by decide +kernel
theorem dX9_body_2 : decode cX9_body 2 = .ok (.bipush 7, 2) := by decide +kernel
theorem dX9_body_4 : decode cX9_body 4 = .ok (.invokestatic 80, 3) := by decide +kernel
theorem dX9_body_7 : decode cX9_body 7 = .ok (.ifCond .ne 5, 3) := by decide +kernel
theorem dX9_body_10 : decode cX9_body 10 = .ok (.iconst (-1), 1) := by decide +kernel
theorem dX9_body_11 : decode cX9_body 11 = .ok (.ireturn, 1) := by decide +kernel
theorem dX9_body_12 : decode cX9_body 12 = .ok (.aload_n 0, 1) := by decide +kernel
theorem dX9_body_13 : decode cX9_body 13 = .ok (.getfield 59, 3) := by decide +kernel
theorem dX9_body_16 : decode cX9_body 16 = .ok (.iload_n 1, 1) := by decide +kernel
theorem dX9_body_17 : decode cX9_body 17 = .ok (.invokevirtual 294, 3) := by decide +kernel
theorem dX9_body_20 : decode cX9_body 20 = .ok (.ireturn, 1) := by decide +kernel
theorem dX9_act_0 : decode cX9_act 0 = .ok (.aload_n 0, 1) := by decide +kernel
theorem dX9_act_1 : decode cX9_act 1 = .ok (.getfield 59, 3) := by decide +kernel
theorem dX9_act_4 : decode cX9_act 4 = .ok (.iload_n 1, 1) := by decide +kernel
theorem dX9_act_5 : decode cX9_act 5 = .ok (.iload_n 2, 1) := by decide +kernel
theorem dX9_act_6 : decode cX9_act 6 = .ok (.iload_n 3, 1) := by decide +kernel
theorem dX9_act_7 : decode cX9_act 7 = .ok (.invokevirtual 297, 3) := by decide +kernel
theorem dX9_act_10 : decode cX9_act 10 = .ok (.ireturn, 1) := by decide +kernel
theorem dX9_trace_0 : decode cX9_trace 0 = .ok (.aload_n 0, 1) := by decide +kernel
theorem dX9_trace_1 : decode cX9_trace 1 = .ok (.getfield 59, 3) := by decide +kernel
theorem dX9_trace_4 : decode cX9_trace 4 = .ok (.iload_n 1, 1) := by decide +kernel
theorem dX9_trace_5 : decode cX9_trace 5 = .ok (.invokevirtual 300, 3) := by decide +kernel
theorem dX9_trace_8 : decode cX9_trace 8 = .ok (.ireturn, 1) := by decide +kernel
theorem dX9_keep_0 : decode cX9_keep 0 = .ok (.aload_n 0, 1) := by decide +kernel
theorem dX9_keep_1 : decode cX9_keep 1 = .ok (.getfield 66, 3) := by decide +kernel
theorem dX9_keep_4 : decode cX9_keep 4 = .ok (.iload_n 1, 1) := by decide +kernel
theorem dX9_keep_5 : decode cX9_keep 5 = .ok (.invokevirtual 96, 3) := by decide +kernel
theorem dX9_keep_8 : decode cX9_keep 8 = .ok (.ifCond .ne 5, 3) := by decide +kernel
theorem dX9_keep_11 : decode cX9_keep 11 = .ok (.iconst (-1), 1) := by decide +kernel
theorem dX9_keep_12 : decode cX9_keep 12 = .ok (.ireturn, 1) := by decide +kernel
theorem dX9_keep_13 : decode cX9_keep 13 = .ok (.iload_n 2, 1) := by decide +kernel
theorem dX9_keep_14 : decode cX9_keep 14 = .ok (.iconst (-1), 1) := by decide +kernel
theorem dX9_keep_15 : decode cX9_keep 15 = .ok (.if_icmp .eq 16, 3) := by decide +kernel
theorem dX9_keep_18 : decode cX9_keep 18 = .ok (.aload_n 0, 1) := by decide +kernel
theorem dX9_keep_19 : decode cX9_keep 19 = .ok (.getfield 59, 3) := by decide +kernel
theorem dX9_keep_22 : decode cX9_keep 22 = .ok (.iload_n 2, 1) := by decide +kernel
theorem dX9_keep_23 : decode cX9_keep 23 = .ok (.invokevirtual 303, 3) := by decide +kernel
theorem dX9_keep_26 : decode cX9_keep 26 = .ok (.ifCond .ne 5, 3) := by decide +kernel
theorem dX9_keep_29 : decode cX9_keep 29 = .ok (.iconst (-1), 1) := by decide +kernel
theorem dX9_keep_30 : decode cX9_keep 30 = .ok (.ireturn, 1) := by decide +kernel
theorem dX9_keep_31 : decode cX9_keep 31 = .ok (.iload_n 2, 1) := by decide +kernel
theorem dX9_keep_32 : decode cX9_keep 32 = .ok (.iconst (-1), 1) := by decide +kernel
theorem dX9_keep_33 : decode cX9_keep 33 = .ok (.if_icmp .ne 14, 3) := by decide +kernel
theorem dX9_keep_36 : decode cX9_keep 36 = .ok (.aload_n 0, 1) := by decide +kernel
theorem dX9_keep_37 : decode cX9_keep 37 = .ok (.getfield 66, 3) := by decide +kernel
theorem dX9_keep_40 : decode cX9_keep 40 = .ok (.iload_n 1, 1) := by decide +kernel
theorem dX9_keep_41 : decode cX9_keep 41 = .ok (.invokevirtual 306, 3) := by decide +kernel
theorem dX9_keep_44 : decode cX9_keep 44 = .ok (.goto 12, 3) := by decide +kernel
theorem dX9_keep_47 : decode cX9_keep 47 = .ok (.aload_n 0, 1) := by decide +kernel
theorem dX9_keep_48 : decode cX9_keep 48 = .ok (.getfield 66, 3) := by decide +kernel
theorem dX9_keep_51 : decode cX9_keep 51 = .ok (.iload_n 1, 1) := by decide +kernel
theorem dX9_keep_52 : decode cX9_keep 52 = .ok (.iload_n 2, 1) := by decide +kernel
theorem dX9_keep_53 : decode cX9_keep 53 = .ok (.invokevirtual 310, 3) := by decide +kernel
theorem dX9_keep_56 : decode cX9_keep 56 = .ok (.iconst 1, 1) := by decide +kernel
theorem dX9_keep_57 : decode cX9_keep 57 = .ok (.ireturn, 1) := by decide +kernel
theorem dX9_row_0 : decode cX9_row 0 = .ok (.aload_n 0, 1) := by decide +kernel
theorem dX9_row_1 : decode cX9_row 1 = .ok (.getfield 66, 3) := by decide +kernel
theorem dX9_row_4 : decode cX9_row 4 = .ok (.iload_n 1, 1) := by decide +kernel
theorem dX9_row_5 : decode cX9_row 5 = .ok (.invokevirtual 96, 3) := by decide +kernel
theorem dX9_row_8 : decode cX9_row 8 = .ok (.ifCond .eq 20, 3) := by decide +kernel
theorem dX9_row_11 : decode cX9_row 11 = .ok (.aload_n 0, 1) := by decide +kernel
theorem dX9_row_12 : decode cX9_row 12 = .ok (.getfield 66, 3) := by decide +kernel
theorem dX9_row_15 : decode cX9_row 15 = .ok (.iload_n 2, 1) := by decide +kernel
theorem dX9_row_16 : decode cX9_row 16 = .ok (.invokevirtual 314, 3) := by decide +kernel
theorem dX9_row_19 : decode cX9_row 19 = .ok (.ifCond .eq 9, 3) := by decide +kernel
theorem dX9_row_22 : decode cX9_row 22 = .ok (.iload_n 3, 1) := by decide +kernel
theorem dX9_row_23 : decode cX9_row 23 = .ok (.bipush 60, 2) := by decide +kernel
theorem dX9_row_25 : decode cX9_row 25 = .ok (.if_icmp .le 5, 3) := by decide +kernel
theorem dX9_row_28 : decode cX9_row 28 = .ok (.iconst (-1), 1) := by decide +kernel
theorem dX9_row_29 : decode cX9_row 29 = .ok (.ireturn, 1) := by decide +kernel
theorem dX9_row_30 : decode cX9_row 30 = .ok (.iload_n 3, 1) := by decide +kernel
theorem dX9_row_31 : decode cX9_row 31 = .ok (.ifCond .ge 6, 3) := by decide +kernel
theorem dX9_row_34 : decode cX9_row 34 = .ok (.bipush (-14), 2) := by decide +kernel
theorem dX9_row_36 : decode cX9_row 36 = .ok (.ireturn, 1) := by decide +kernel
theorem dX9_row_37 : decode cX9_row 37 = .ok (.aload_n 0, 1) := by decide +kernel
theorem dX9_row_38 : decode cX9_row 38 = .ok (.getfield 66, 3) := by decide +kernel
theorem dX9_row_41 : decode cX9_row 41 = .ok (.iload_n 1, 1) := by decide +kernel
theorem dX9_row_42 : decode cX9_row 42 = .ok (.iload_n 2, 1) := by decide +kernel
theorem dX9_row_43 : decode cX9_row 43 = .ok (.iload_n 3, 1) := by decide +kernel
theorem dX9_row_44 : decode cX9_row 44 = .ok (.invokevirtual 317, 3) := by decide +kernel
theorem dX9_row_47 : decode cX9_row 47 = .ok (.iconst 1, 1) := by decide +kernel
theorem dX9_row_48 : decode cX9_row 48 = .ok (.ireturn, 1) := by decide +kernel
theorem dX9_put_0 : decode cX9_put 0 = .ok (.aload_n 0, 1) := by decide +kernel
theorem dX9_put_1 : decode cX9_put 1 = .ok (.getfield 66, 3) := by decide +kernel
theorem dX9_put_4 : decode cX9_put 4 = .ok (.iload_n 1, 1) := by decide +kernel
theorem dX9_put_5 : decode cX9_put 5 = .ok (.iload_n 2, 1) := by decide +kernel
theorem dX9_put_6 : decode cX9_put 6 = .ok (.invokevirtual 320, 3) := by decide +kernel
theorem dX9_put_9 : decode cX9_put 9 = .ok (.istore 5, 2) := by decide +kernel
theorem dX9_put_11 : decode cX9_put 11 = .ok (.iload 5, 2) := by decide +kernel
theorem dX9_put_13 : decode cX9_put 13 = .ok (.ifCond .eq 6, 3) := by decide +kernel
theorem dX9_put_16 : decode cX9_put 16 = .ok (.iload 5, 2) := by decide +kernel
theorem dX9_put_18 : decode cX9_put 18 = .ok (.ireturn, 1) := by decide +kernel
theorem dX9_put_19 : decode cX9_put 19 = .ok (.aload_n 0, 1) := by decide +kernel
theorem dX9_put_20 : decode cX9_put 20 = .ok (.getfield 66, 3) := by decide +kernel
theorem dX9_put_23 : decode cX9_put 23 = .ok (.iload_n 1, 1) := by decide +kernel
theorem dX9_put_24 : decode cX9_put 24 = .ok (.iload_n 2, 1) := by decide +kernel
theorem dX9_put_25 : decode cX9_put 25 = .ok (.lload_n 3, 1) := by decide +kernel
theorem dX9_put_26 : decode cX9_put 26 = .ok (.invokevirtual 323, 3) := by decide +kernel
theorem dX9_put_29 : decode cX9_put 29 = .ok (.iconst 1, 1) := by decide +kernel
theorem dX9_put_30 : decode cX9_put 30 = .ok (.ireturn, 1) := by decide +kernel
theorem dX9_element_0 : decode cX9_element 0 = .ok (.aload_n 0, 1) := by decide +kernel
theorem dX9_element_1 : decode cX9_element 1 = .ok (.getfield 66, 3) := by decide +kernel
theorem dX9_element_4 : decode cX9_element 4 = .ok (.iload_n 1, 1) := by decide +kernel
theorem dX9_element_5 : decode cX9_element 5 = .ok (.iload_n 2, 1) := by decide +kernel
theorem dX9_element_6 : decode cX9_element 6 = .ok (.invokevirtual 320, 3) := by decide +kernel
theorem dX9_element_9 : decode cX9_element 9 = .ok (.ifCond .eq 7, 3) := by decide +kernel
theorem dX9_element_12 : decode cX9_element 12 = .ok (.ldc2_w 327, 3) := by decide +kernel
theorem dX9_element_15 : decode cX9_element 15 = .ok (.lreturn, 1) := by decide +kernel
theorem dX9_element_16 : decode cX9_element 16 = .ok (.aload_n 0, 1) := by decide +kernel
theorem dX9_element_17 : decode cX9_element 17 = .ok (.getfield 66, 3) := by decide +kernel
theorem dX9_element_20 : decode cX9_element 20 = .ok (.iload_n 1, 1) := by decide +kernel
theorem dX9_element_21 : decode cX9_element 21 = .ok (.iload_n 2, 1) := by decide +kernel
theorem dX9_element_22 : decode cX9_element 22 = .ok (.invokevirtual 113, 3) := by decide +kernel
theorem dX9_element_25 : decode cX9_element 25 = .ok (.lreturn, 1) := by decide +kernel
theorem dX9_shift_0 : decode cX9_shift 0 = .ok (.aload_n 0, 1) := by decide +kernel
theorem dX9_shift_1 : decode cX9_shift 1 = .ok (.getfield 66, 3) := by decide +kernel
theorem dX9_shift_4 : decode cX9_shift 4 = .ok (.iload_n 1, 1) := by decide +kernel
theorem dX9_shift_5 : decode cX9_shift 5 = .ok (.invokevirtual 96, 3) := by decide +kernel
theorem dX9_shift_8 : decode cX9_shift 8 = .ok (.ifCond .eq 14, 3) := by decide +kernel
theorem dX9_shift_11 : decode cX9_shift 11 = .ok (.aload_n 0, 1) := by decide +kernel
theorem dX9_shift_12 : decode cX9_shift 12 = .ok (.getfield 66, 3) := by decide +kernel
theorem dX9_shift_15 : decode cX9_shift 15 = .ok (.iload_n 3, 1) := by decide +kernel
theorem dX9_shift_16 : decode cX9_shift 16 = .ok (.invokevirtual 96, 3) := by decide +kernel
theorem dX9_shift_19 : decode cX9_shift 19 = .ok (.ifCond .ne 5, 3) := by decide +kernel
theorem dX9_shift_22 : decode cX9_shift 22 = .ok (.iconst (-1), 1) := by decide +kernel
theorem dX9_shift_23 : decode cX9_shift 23 = .ok (.ireturn, 1) := by decide +kernel
theorem dX9_shift_24 : decode cX9_shift 24 = .ok (.aload_n 0, 1) := by decide +kernel
theorem dX9_shift_25 : decode cX9_shift 25 = .ok (.getfield 66, 3) := by decide +kernel
theorem dX9_shift_28 : decode cX9_shift 28 = .ok (.iload_n 1, 1) := by decide +kernel
theorem dX9_shift_29 : decode cX9_shift 29 = .ok (.invokevirtual 100, 3) := by decide +kernel
theorem dX9_shift_32 : decode cX9_shift 32 = .ok (.ifCond .ne 14, 3) := by decide +kernel
theorem dX9_shift_35 : decode cX9_shift 35 = .ok (.aload_n 0, 1) := by decide +kernel
theorem dX9_shift_36 : decode cX9_shift 36 = .ok (.getfield 66, 3) := by decide +kernel
theorem dX9_shift_39 : decode cX9_shift 39 = .ok (.iload_n 3, 1) := by decide +kernel
theorem dX9_shift_40 : decode cX9_shift 40 = .ok (.invokevirtual 100, 3) := by decide +kernel
theorem dX9_shift_43 : decode cX9_shift 43 = .ok (.ifCond .eq 6, 3) := by decide +kernel
theorem dX9_shift_46 : decode cX9_shift 46 = .ok (.bipush (-11), 2) := by decide +kernel
theorem dX9_shift_48 : decode cX9_shift 48 = .ok (.ireturn, 1) := by decide +kernel
theorem dX9_shift_49 : decode cX9_shift 49 = .ok (.aload_n 0, 1) := by decide +kernel
theorem dX9_shift_50 : decode cX9_shift 50 = .ok (.getfield 66, 3) := by decide +kernel
theorem dX9_shift_53 : decode cX9_shift 53 = .ok (.iload_n 1, 1) := by decide +kernel
theorem dX9_shift_54 : decode cX9_shift 54 = .ok (.iload_n 3, 1) := by decide +kernel
theorem dX9_shift_55 : decode cX9_shift 55 = .ok (.invokevirtual 329, 3) := by decide +kernel
theorem dX9_shift_58 : decode cX9_shift 58 = .ok (.ifCond .ne 6, 3) := by decide +kernel
theorem dX9_shift_61 : decode cX9_shift 61 = .ok (.bipush (-12), 2) := by decide +kernel
theorem dX9_shift_63 : decode cX9_shift 63 = .ok (.ireturn, 1) := by decide +kernel
theorem dX9_shift_64 : decode cX9_shift 64 = .ok (.aload_n 0, 1) := by decide +kernel
theorem dX9_shift_65 : decode cX9_shift 65 = .ok (.getfield 66, 3) := by decide +kernel
theorem dX9_shift_68 : decode cX9_shift 68 = .ok (.iload_n 1, 1) := by decide +kernel
theorem dX9_shift_69 : decode cX9_shift 69 = .ok (.iload_n 2, 1) := by decide +kernel
theorem dX9_shift_70 : decode cX9_shift 70 = .ok (.iload 5, 2) := by decide +kernel
theorem dX9_shift_72 : decode cX9_shift 72 = .ok (.invokevirtual 110, 3) := by decide +kernel
theorem dX9_shift_75 : decode cX9_shift 75 = .ok (.ifCond .eq 18, 3) := by decide +kernel
theorem dX9_shift_78 : decode cX9_shift 78 = .ok (.aload_n 0, 1) := by decide +kernel
theorem dX9_shift_79 : decode cX9_shift 79 = .ok (.getfield 66, 3) := by decide +kernel
theorem dX9_shift_82 : decode cX9_shift 82 = .ok (.iload_n 3, 1) := by decide +kernel
theorem dX9_shift_83 : decode cX9_shift 83 = .ok (.iload 4, 2) := by decide +kernel
theorem dX9_shift_85 : decode cX9_shift 85 = .ok (.iload 5, 2) := by decide +kernel
theorem dX9_shift_87 : decode cX9_shift 87 = .ok (.invokevirtual 110, 3) := by decide +kernel
theorem dX9_shift_90 : decode cX9_shift 90 = .ok (.ifCond .ne 6, 3) := by decide +kernel
theorem dX9_shift_93 : decode cX9_shift 93 = .ok (.bipush (-13), 2) := by decide +kernel
theorem dX9_shift_95 : decode cX9_shift 95 = .ok (.ireturn, 1) := by decide +kernel
theorem dX9_shift_96 : decode cX9_shift 96 = .ok (.aload_n 0, 1) := by decide +kernel
theorem dX9_shift_97 : decode cX9_shift 97 = .ok (.getfield 66, 3) := by decide +kernel
theorem dX9_shift_100 : decode cX9_shift 100 = .ok (.iload_n 1, 1) := by decide +kernel
theorem dX9_shift_101 : decode cX9_shift 101 = .ok (.iload_n 2, 1) := by decide +kernel
theorem dX9_shift_102 : decode cX9_shift 102 = .ok (.iload_n 3, 1) := by decide +kernel
theorem dX9_shift_103 : decode cX9_shift 103 = .ok (.iload 4, 2) := by decide +kernel
theorem dX9_shift_105 : decode cX9_shift 105 = .ok (.iload 5, 2) := by decide +kernel
theorem dX9_shift_107 : decode cX9_shift 107 = .ok (.invokevirtual 332, 3) := by decide +kernel
theorem dX9_shift_110 : decode cX9_shift 110 = .ok (.iload 5, 2) := by decide +kernel
theorem dX9_shift_112 : decode cX9_shift 112 = .ok (.ireturn, 1) := by decide +kernel
theorem dX9_taken_0 : decode cX9_taken 0 = .ok (.aload_n 0, 1) := by decide +kernel
theorem dX9_taken_1 : decode cX9_taken 1 = .ok (.getfield 66, 3) := by decide +kernel
theorem dX9_taken_4 : decode cX9_taken 4 = .ok (.iload_n 1, 1) := by decide +kernel
theorem dX9_taken_5 : decode cX9_taken 5 = .ok (.invokevirtual 96, 3) := by decide +kernel
theorem dX9_taken_8 : decode cX9_taken 8 = .ok (.ifCond .eq 13, 3) := by decide +kernel
theorem dX9_taken_11 : decode cX9_taken 11 = .ok (.iload_n 2, 1) := by decide +kernel
theorem dX9_taken_12 : decode cX9_taken 12 = .ok (.iconst 0, 1) := by decide +kernel
theorem dX9_taken_13 : decode cX9_taken 13 = .ok (.bipush 7, 2) := by decide +kernel
theorem dX9_taken_15 : decode cX9_taken 15 = .ok (.invokestatic 80, 3) := by decide +kernel
theorem dX9_taken_18 : decode cX9_taken 18 = .ok (.ifCond .ne 5, 3) := by decide +kernel
theorem dX9_taken_21 : decode cX9_taken 21 = .ok (.iconst (-1), 1) := by decide +kernel
theorem dX9_taken_22 : decode cX9_taken 22 = .ok (.ireturn, 1) := by decide +kernel
theorem dX9_taken_23 : decode cX9_taken 23 = .ok (.aload_n 0, 1) := by decide +kernel
theorem dX9_taken_24 : decode cX9_taken 24 = .ok (.getfield 66, 3) := by decide +kernel
theorem dX9_taken_27 : decode cX9_taken 27 = .ok (.iload_n 1, 1) := by decide +kernel
theorem dX9_taken_28 : decode cX9_taken 28 = .ok (.invokevirtual 100, 3) := by decide +kernel
theorem dX9_taken_31 : decode cX9_taken 31 = .ok (.ifCond .eq 6, 3) := by decide +kernel
theorem dX9_taken_34 : decode cX9_taken 34 = .ok (.bipush (-11), 2) := by decide +kernel
theorem dX9_taken_36 : decode cX9_taken 36 = .ok (.ireturn, 1) := by decide +kernel
theorem dX9_taken_37 : decode cX9_taken 37 = .ok (.aload_n 0, 1) := by decide +kernel
theorem dX9_taken_38 : decode cX9_taken 38 = .ok (.getfield 66, 3) := by decide +kernel
theorem dX9_taken_41 : decode cX9_taken 41 = .ok (.iload_n 1, 1) := by decide +kernel
theorem dX9_taken_42 : decode cX9_taken 42 = .ok (.invokevirtual 336, 3) := by decide +kernel
theorem dX9_taken_45 : decode cX9_taken 45 = .ok (.ifCond .eq 6, 3) := by decide +kernel
theorem dX9_taken_48 : decode cX9_taken 48 = .ok (.bipush (-12), 2) := by decide +kernel
theorem dX9_taken_50 : decode cX9_taken 50 = .ok (.ireturn, 1) := by decide +kernel
theorem dX9_taken_51 : decode cX9_taken 51 = .ok (.aload_n 0, 1) := by decide +kernel
theorem dX9_taken_52 : decode cX9_taken 52 = .ok (.getfield 59, 3) := by decide +kernel
theorem dX9_taken_55 : decode cX9_taken 55 = .ok (.aload_n 0, 1) := by decide +kernel
theorem dX9_taken_56 : decode cX9_taken 56 = .ok (.getfield 66, 3) := by decide +kernel
theorem dX9_taken_59 : decode cX9_taken 59 = .ok (.iload_n 1, 1) := by decide +kernel
theorem dX9_taken_60 : decode cX9_taken 60 = .ok (.invokevirtual 339, 3) := by decide +kernel
theorem dX9_taken_63 : decode cX9_taken 63 = .ok (.invokevirtual 342, 3) := by decide +kernel
theorem dX9_taken_66 : decode cX9_taken 66 = .ok (.istore_n 3, 1) := by decide +kernel
theorem dX9_taken_67 : decode cX9_taken 67 = .ok (.iload_n 3, 1) := by decide +kernel
theorem dX9_taken_68 : decode cX9_taken 68 = .ok (.iload_n 2, 1) := by decide +kernel
theorem dX9_taken_69 : decode cX9_taken 69 = .ok (.invokestatic 345, 3) := by decide +kernel
theorem dX9_taken_72 : decode cX9_taken 72 = .ok (.ifCond .eq 7, 3) := by decide +kernel
theorem dX9_taken_75 : decode cX9_taken 75 = .ok (.iload_n 3, 1) := by decide +kernel
theorem dX9_taken_76 : decode cX9_taken 76 = .ok (.goto 5, 3) := by decide +kernel
theorem dX9_taken_79 : decode cX9_taken 79 = .ok (.bipush (-12), 2) := by decide +kernel
theorem dX9_taken_81 : decode cX9_taken 81 = .ok (.ireturn, 1) := by decide +kernel
theorem dX9_count_0 : decode cX9_count 0 = .ok (.iload_n 1, 1) := by decide +kernel
theorem dX9_count_1 : decode cX9_count 1 = .ok (.tableswitch 99 0 6 #[43, 51, 59, 67, 75, 83, 91], 43) := by decide +kernel
theorem dX9_count_44 : decode cX9_count 44 = .ok (.aload_n 0, 1) := by decide +kernel
theorem dX9_count_45 : decode cX9_count 45 = .ok (.getfield 10, 3) := by decide +kernel
theorem dX9_count_48 : decode cX9_count 48 = .ok (.invokevirtual 348, 3) := by decide +kernel
theorem dX9_count_51 : decode cX9_count 51 = .ok (.ireturn, 1) := by decide +kernel
theorem dX9_count_52 : decode cX9_count 52 = .ok (.aload_n 0, 1) := by decide +kernel
theorem dX9_count_53 : decode cX9_count 53 = .ok (.getfield 10, 3) := by decide +kernel
theorem dX9_count_56 : decode cX9_count 56 = .ok (.invokevirtual 351, 3) := by decide +kernel
theorem dX9_count_59 : decode cX9_count 59 = .ok (.ireturn, 1) := by decide +kernel
theorem dX9_count_60 : decode cX9_count 60 = .ok (.aload_n 0, 1) := by decide +kernel
theorem dX9_count_61 : decode cX9_count 61 = .ok (.getfield 10, 3) := by decide +kernel
theorem dX9_count_64 : decode cX9_count 64 = .ok (.invokevirtual 354, 3) := by decide +kernel
theorem dX9_count_67 : decode cX9_count 67 = .ok (.ireturn, 1) := by decide +kernel
theorem dX9_count_68 : decode cX9_count 68 = .ok (.aload_n 0, 1) := by decide +kernel
theorem dX9_count_69 : decode cX9_count 69 = .ok (.getfield 52, 3) := by decide +kernel
theorem dX9_count_72 : decode cX9_count 72 = .ok (.invokevirtual 357, 3) := by decide +kernel
theorem dX9_count_75 : decode cX9_count 75 = .ok (.ireturn, 1) := by decide +kernel
theorem dX9_count_76 : decode cX9_count 76 = .ok (.aload_n 0, 1) := by decide +kernel
theorem dX9_count_77 : decode cX9_count 77 = .ok (.getfield 45, 3) := by decide +kernel
theorem dX9_count_80 : decode cX9_count 80 = .ok (.invokevirtual 282, 3) := by decide +kernel
theorem dX9_count_83 : decode cX9_count 83 = .ok (.ireturn, 1) := by decide +kernel
theorem dX9_count_84 : decode cX9_count 84 = .ok (.aload_n 0, 1) := by decide +kernel
theorem dX9_count_85 : decode cX9_count 85 = .ok (.getfield 59, 3) := by decide +kernel
theorem dX9_count_88 : decode cX9_count 88 = .ok (.invokevirtual 360, 3) := by decide +kernel
theorem dX9_count_91 : decode cX9_count 91 = .ok (.ireturn, 1) := by decide +kernel
theorem dX9_count_92 : decode cX9_count 92 = .ok (.aload_n 0, 1) := by decide +kernel
theorem dX9_count_93 : decode cX9_count 93 = .ok (.getfield 59, 3) := by decide +kernel
theorem dX9_count_96 : decode cX9_count 96 = .ok (.invokevirtual 363, 3) := by decide +kernel
theorem dX9_count_99 : decode cX9_count 99 = .ok (.ireturn, 1) := by decide +kernel
theorem dX9_count_100 : decode cX9_count 100 = .ok (.iconst (-1), 1) := by decide +kernel
theorem dX9_count_101 : decode cX9_count 101 = .ok (.ireturn, 1) := by decide +kernel
theorem dX9_isPair_0 : decode cX9_isPair 0 = .ok (.iload_n 1, 1) := by decide +kernel
theorem dX9_isPair_1 : decode cX9_isPair 1 = .ok (.ifCond .lt 35, 3) := by decide +kernel
theorem dX9_isPair_4 : decode cX9_isPair 4 = .ok (.aload_n 0, 1) := by decide +kernel
theorem dX9_isPair_5 : decode cX9_isPair 5 = .ok (.getfield 10, 3) := by decide +kernel
theorem dX9_isPair_8 : decode cX9_isPair 8 = .ok (.iload_n 1, 1) := by decide +kernel
theorem dX9_isPair_9 : decode cX9_isPair 9 = .ok (.bipush 10, 2) := by decide +kernel
theorem dX9_isPair_11 : decode cX9_isPair 11 = .ok (.idiv, 1) := by decide +kernel
theorem dX9_isPair_12 : decode cX9_isPair 12 = .ok (.invokevirtual 145, 3) := by decide +kernel
theorem dX9_isPair_15 : decode cX9_isPair 15 = .ok (.ifCond .eq 21, 3) := by decide +kernel
theorem dX9_isPair_18 : decode cX9_isPair 18 = .ok (.aload_n 0, 1) := by decide +kernel
theorem dX9_isPair_19 : decode cX9_isPair 19 = .ok (.getfield 10, 3) := by decide +kernel
theorem dX9_isPair_22 : decode cX9_isPair 22 = .ok (.iload_n 1, 1) := by decide +kernel
theorem dX9_isPair_23 : decode cX9_isPair 23 = .ok (.bipush 10, 2) := by decide +kernel
theorem dX9_isPair_25 : decode cX9_isPair 25 = .ok (.irem, 1) := by decide +kernel
theorem dX9_isPair_26 : decode cX9_isPair 26 = .ok (.invokevirtual 117, 3) := by decide +kernel
theorem dX9_isPair_29 : decode cX9_isPair 29 = .ok (.ifCond .eq 7, 3) := by decide +kernel
theorem dX9_isPair_32 : decode cX9_isPair 32 = .ok (.iconst 1, 1) := by decide +kernel
theorem dX9_isPair_33 : decode cX9_isPair 33 = .ok (.goto 4, 3) := by decide +kernel
theorem dX9_isPair_36 : decode cX9_isPair 36 = .ok (.iconst 0, 1) := by decide +kernel
theorem dX9_isPair_37 : decode cX9_isPair 37 = .ok (.ireturn, 1) := by decide +kernel
theorem dX9_isWithin_0 : decode cX9_isWithin 0 = .ok (.iload_n 0, 1) := by decide +kernel
theorem dX9_isWithin_1 : decode cX9_isWithin 1 = .ok (.iload_n 1, 1) := by decide +kernel
theorem dX9_isWithin_2 : decode cX9_isWithin 2 = .ok (.if_icmp .lt 12, 3) := by decide +kernel
theorem dX9_isWithin_5 : decode cX9_isWithin 5 = .ok (.iload_n 0, 1) := by decide +kernel
theorem dX9_isWithin_6 : decode cX9_isWithin 6 = .ok (.iload_n 2, 1) := by decide +kernel
theorem dX9_isWithin_7 : decode cX9_isWithin 7 = .ok (.if_icmp .gt 7, 3) := by decide +kernel
theorem dX9_isWithin_10 : decode cX9_isWithin 10 = .ok (.iconst 1, 1) := by decide +kernel
theorem dX9_isWithin_11 : decode cX9_isWithin 11 = .ok (.goto 4, 3) := by decide +kernel
theorem dX9_isWithin_14 : decode cX9_isWithin 14 = .ok (.iconst 0, 1) := by decide +kernel
theorem dX9_isWithin_15 : decode cX9_isWithin 15 = .ok (.ireturn, 1) := by decide +kernel
theorem dX10_within_0 : decode cX10_within 0 = .ok (.lload_n 0, 1) := by decide +kernel
theorem dX10_within_1 : decode cX10_within 1 = .ok (.lload_n 2, 1) := by decide +kernel
theorem dX10_within_2 : decode cX10_within 2 = .ok (.lcmp, 1) := by decide +kernel
theorem dX10_within_3 : decode cX10_within 3 = .ok (.ifCond .lt 14, 3) := by decide +kernel
theorem dX10_within_6 : decode cX10_within 6 = .ok (.lload_n 0, 1) := by decide +kernel
theorem dX10_within_7 : decode cX10_within 7 = .ok (.lload 4, 2) := by decide +kernel
theorem dX10_within_9 : decode cX10_within 9 = .ok (.lcmp, 1) := by decide +kernel
theorem dX10_within_10 : decode cX10_within 10 = .ok (.ifCond .gt 7, 3) := by decide +kernel
theorem dX10_within_13 : decode cX10_within 13 = .ok (.iconst 1, 1) := by decide +kernel
theorem dX10_within_14 : decode cX10_within 14 = .ok (.goto 4, 3) := by decide +kernel
theorem dX10_within_17 : decode cX10_within 17 = .ok (.iconst 0, 1) := by decide +kernel
theorem dX10_within_18 : decode cX10_within 18 = .ok (.ireturn, 1) := by decide +kernel
theorem dX10_init_0 : decode cX10_init 0 = .ok (.aload_n 0, 1) := by decide +kernel
theorem dX10_init_1 : decode cX10_init 1 = .ok (.invokespecial 3, 3) := by decide +kernel
theorem dX10_init_4 : decode cX10_init 4 = .ok (.aload_n 0, 1) := by decide +kernel
theorem dX10_init_5 : decode cX10_init 5 = .ok (.bipush 66, 2) := by decide +kernel
theorem dX10_init_7 : decode cX10_init 7 = .ok (.newarray .int, 2) := by decide +kernel
theorem dX10_init_9 : decode cX10_init 9 = .ok (.putfield 9, 3) := by decide +kernel
theorem dX10_init_12 : decode cX10_init 12 = .ok (.aload_n 0, 1) := by decide +kernel
theorem dX10_init_13 : decode cX10_init 13 = .ok (.bipush 40, 2) := by decide +kernel
theorem dX10_init_15 : decode cX10_init 15 = .ok (.newarray .int, 2) := by decide +kernel
theorem dX10_init_17 : decode cX10_init 17 = .ok (.putfield 13, 3) := by decide +kernel
theorem dX10_init_20 : decode cX10_init 20 = .ok (.aload_n 0, 1) := by decide +kernel
theorem dX10_init_21 : decode cX10_init 21 = .ok (.bipush 40, 2) := by decide +kernel
theorem dX10_init_23 : decode cX10_init 23 = .ok (.newarray .int, 2) := by decide +kernel
theorem dX10_init_25 : decode cX10_init 25 = .ok (.putfield 16, 3) := by decide +kernel
theorem dX10_init_28 : decode cX10_init 28 = .ok (.aload_n 0, 1) := by decide +kernel
theorem dX10_init_29 : decode cX10_init 29 = .ok (.bipush 40, 2) := by decide +kernel
theorem dX10_init_31 : decode cX10_init 31 = .ok (.newarray .int, 2) := by decide +kernel
theorem dX10_init_33 : decode cX10_init 33 = .ok (.putfield 19, 3) := by decide +kernel
theorem dX10_init_36 : decode cX10_init 36 = .ok (.aload_n 0, 1) := by decide +kernel
theorem dX10_init_37 : decode cX10_init 37 = .ok (.bipush 6, 2) := by decide +kernel
theorem dX10_init_39 : decode cX10_init 39 = .ok (.newarray .int, 2) := by decide +kernel
theorem dX10_init_41 : decode cX10_init 41 = .ok (.putfield 22, 3) := by decide +kernel
theorem dX10_init_44 : decode cX10_init 44 = .ok (.aload_n 0, 1) := by decide +kernel
theorem dX10_init_45 : decode cX10_init 45 = .ok (.bipush 6, 2) := by decide +kernel
theorem dX10_init_47 : decode cX10_init 47 = .ok (.newarray .int, 2) := by decide +kernel
theorem dX10_init_49 : decode cX10_init 49 = .ok (.putfield 25, 3) := by decide +kernel
theorem dX10_init_52 : decode cX10_init 52 = .ok (.aload_n 0, 1) := by decide +kernel
theorem dX10_init_53 : decode cX10_init 53 = .ok (.bipush 6, 2) := by decide +kernel
theorem dX10_init_55 : decode cX10_init 55 = .ok (.newarray .int, 2) := by decide +kernel
theorem dX10_init_57 : decode cX10_init 57 = .ok (.putfield 28, 3) := by decide +kernel
theorem dX10_init_60 : decode cX10_init 60 = .ok (.aload_n 0, 1) := by decide +kernel
theorem dX10_init_61 : decode cX10_init 61 = .ok (.bipush 30, 2) := by decide +kernel
theorem dX10_init_63 : decode cX10_init 63 = .ok (.newarray .int, 2) := by decide +kernel
theorem dX10_init_65 : decode cX10_init 65 = .ok (.putfield 31, 3) := by decide +kernel
theorem dX10_init_68 : decode cX10_init 68 = .ok (.aload_n 0, 1) := by decide +kernel

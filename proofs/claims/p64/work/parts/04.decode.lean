theorem dX1_init_0 : decode cX1_init 0 = .ok (.aload_n 0, 1) := by decide +kernel
theorem dX1_init_1 : decode cX1_init 1 = .ok (.invokespecial 3, 3) := by decide +kernel
theorem dX1_init_4 : decode cX1_init 4 = .ok (.aload_n 0, 1) := by decide +kernel
theorem dX1_init_5 : decode cX1_init 5 = .ok (.bipush 8, 2) := by decide +kernel
theorem dX1_init_7 : decode cX1_init 7 = .ok (.newarray .int, 2) := by decide +kernel
theorem dX1_init_9 : decode cX1_init 9 = .ok (.putfield 9, 3) := by decide +kernel
theorem dX1_init_12 : decode cX1_init 12 = .ok (.aload_n 0, 1) := by decide +kernel
theorem dX1_init_13 : decode cX1_init 13 = .ok (.bipush 8, 2) := by decide +kernel
theorem dX1_init_15 : decode cX1_init 15 = .ok (.newarray .int, 2) := by decide +kernel
theorem dX1_init_17 : decode cX1_init 17 = .ok (.putfield 15, 3) := by decide +kernel
theorem dX1_init_20 : decode cX1_init 20 = .ok (.aload_n 0, 1) := by decide +kernel
theorem dX1_init_21 : decode cX1_init 21 = .ok (.iconst 3, 1) := by decide +kernel
theorem dX1_init_22 : decode cX1_init 22 = .ok (.newarray .int, 2) := by decide +kernel
theorem dX1_init_24 : decode cX1_init 24 = .ok (.putfield 18, 3) := by decide +kernel
theorem dX1_init_27 : decode cX1_init 27 = .ok (.aload_n 0, 1) := by decide +kernel
theorem dX1_init_28 : decode cX1_init 28 = .ok (.iconst 3, 1) := by decide +kernel
theorem dX1_init_29 : decode cX1_init 29 = .ok (.newarray .boolean, 2) := by decide +kernel
theorem dX1_init_31 : decode cX1_init 31 = .ok (.putfield 21, 3) := by decide +kernel
theorem dX1_init_34 : decode cX1_init 34 = .ok (.aload_n 0, 1) := by decide +kernel
theorem dX1_init_35 : decode cX1_init 35 = .ok (.iconst 3, 1) := by decide +kernel
theorem dX1_init_36 : decode cX1_init 36 = .ok (.newarray .int, 2) := by decide +kernel
theorem dX1_init_38 : decode cX1_init 38 = .ok (.putfield 25, 3) := by decide +kernel
theorem dX1_init_41 : decode cX1_init 41 = .ok (.return_, 1) := by decide +kernel
theorem dX1_copyFrom_0 : decode cX1_copyFrom 0 = .ok (.aload_n 0, 1) := by decide +kernel
theorem dX1_copyFrom_1 : decode cX1_copyFrom 1 = .ok (.aload_n 1, 1) := by decide +kernel
theorem dX1_copyFrom_2 : decode cX1_copyFrom 2 = .ok (.getfield 28, 3) := by decide +kernel
theorem dX1_copyFrom_5 : decode cX1_copyFrom 5 = .ok (.putfield 28, 3) := by decide +kernel
theorem dX1_copyFrom_8 : decode cX1_copyFrom 8 = .ok (.aload_n 1, 1) := by decide +kernel
theorem dX1_copyFrom_9 : decode cX1_copyFrom 9 = .ok (.getfield 9, 3) := by decide +kernel
theorem dX1_copyFrom_12 : decode cX1_copyFrom 12 = .ok (.iconst 0, 1) := by decide +kernel
theorem dX1_copyFrom_13 : decode cX1_copyFrom 13 = .ok (.aload_n 0, 1) := by decide +kernel
theorem dX1_copyFrom_14 : decode cX1_copyFrom 14 = .ok (.getfield 9, 3) := by decide +kernel
theorem dX1_copyFrom_17 : decode cX1_copyFrom 17 = .ok (.iconst 0, 1) := by decide +kernel
theorem dX1_copyFrom_18 : decode cX1_copyFrom 18 = .ok (.bipush 8, 2) := by decide +kernel
theorem dX1_copyFrom_20 : decode cX1_copyFrom 20 = .ok (.invokestatic 32, 3) := by decide +kernel
theorem dX1_copyFrom_23 : decode cX1_copyFrom 23 = .ok (.aload_n 1, 1) := by decide +kernel
theorem dX1_copyFrom_24 : decode cX1_copyFrom 24 = .ok (.getfield 15, 3) := by decide +kernel
theorem dX1_copyFrom_27 : decode cX1_copyFrom 27 = .ok (.iconst 0, 1) := by decide +kernel
theorem dX1_copyFrom_28 : decode cX1_copyFrom 28 = .ok (.aload_n 0, 1) := by decide +kernel
theorem dX1_copyFrom_29 : decode cX1_copyFrom 29 = .ok (.getfield 15, 3) := by decide +kernel
theorem dX1_copyFrom_32 : decode cX1_copyFrom 32 = .ok (.iconst 0, 1) := by decide +kernel
theorem dX1_copyFrom_33 : decode cX1_copyFrom 33 = .ok (.bipush 8, 2) := by decide +kernel
theorem dX1_copyFrom_35 : decode cX1_copyFrom 35 = .ok (.invokestatic 32, 3) := by decide +kernel
theorem dX1_copyFrom_38 : decode cX1_copyFrom 38 = .ok (.aload_n 0, 1) := by decide +kernel
theorem dX1_copyFrom_39 : decode cX1_copyFrom 39 = .ok (.aload_n 1, 1) := by decide +kernel
theorem dX1_copyFrom_40 : decode cX1_copyFrom 40 = .ok (.getfield 38, 3) := by decide +kernel
theorem dX1_copyFrom_43 : decode cX1_copyFrom 43 = .ok (.putfield 38, 3) := by decide +kernel
theorem dX1_copyFrom_46 : decode cX1_copyFrom 46 = .ok (.aload_n 0, 1) := by decide +kernel
theorem dX1_copyFrom_47 : decode cX1_copyFrom 47 = .ok (.aload_n 1, 1) := by decide +kernel
theorem dX1_copyFrom_48 : decode cX1_copyFrom 48 = .ok (.getfield 41, 3) := by decide +kernel
theorem dX1_copyFrom_51 : decode cX1_copyFrom 51 = .ok (.putfield 41, 3) := by decide +kernel
theorem dX1_copyFrom_54 : decode cX1_copyFrom 54 = .ok (.aload_n 1, 1) := by decide +kernel
theorem dX1_copyFrom_55 : decode cX1_copyFrom 55 = .ok (.getfield 18, 3) := by decide +kernel
theorem dX1_copyFrom_58 : decode cX1_copyFrom 58 = .ok (.iconst 0, 1) := by decide +kernel
theorem dX1_copyFrom_59 : decode cX1_copyFrom 59 = .ok (.aload_n 0, 1) := by decide +kernel
theorem dX1_copyFrom_60 : decode cX1_copyFrom 60 = .ok (.getfield 18, 3) := by decide +kernel
theorem dX1_copyFrom_63 : decode cX1_copyFrom 63 = .ok (.iconst 0, 1) := by decide +kernel
theorem dX1_copyFrom_64 : decode cX1_copyFrom 64 = .ok (.iconst 3, 1) := by decide +kernel
theorem dX1_copyFrom_65 : decode cX1_copyFrom 65 = .ok (.invokestatic 32, 3) := by decide +kernel
theorem dX1_copyFrom_68 : decode cX1_copyFrom 68 = .ok (.aload_n 1, 1) := by decide +kernel
theorem dX1_copyFrom_69 : decode cX1_copyFrom 69 = .ok (.getfield 25, 3) := by decide +kernel
theorem dX1_copyFrom_72 : decode cX1_copyFrom 72 = .ok (.iconst 0, 1) := by decide +kernel
theorem dX1_copyFrom_73 : decode cX1_copyFrom 73 = .ok (.aload_n 0, 1) := by decide +kernel
theorem dX1_copyFrom_74 : decode cX1_copyFrom 74 = .ok (.getfield 25, 3) := by decide +kernel
theorem dX1_copyFrom_77 : decode cX1_copyFrom 77 = .ok (.iconst 0, 1) := by decide +kernel
theorem dX1_copyFrom_78 : decode cX1_copyFrom 78 = .ok (.iconst 3, 1) := by decide +kernel
theorem dX1_copyFrom_79 : decode cX1_copyFrom 79 = .ok (.invokestatic 32, 3) := by decide +kernel
theorem dX1_copyFrom_82 : decode cX1_copyFrom 82 = .ok (.iconst 0, 1) := by decide +kernel
theorem dX1_copyFrom_83 : decode cX1_copyFrom 83 = .ok (.istore_n 2, 1) := by decide +kernel
theorem dX1_copyFrom_84 : decode cX1_copyFrom 84 = .ok (.iload_n 2, 1) := by decide +kernel
theorem dX1_copyFrom_85 : decode cX1_copyFrom 85 = .ok (.iconst 3, 1) := by decide +kernel
theorem dX1_copyFrom_86 : decode cX1_copyFrom 86 = .ok (.if_icmp .ge 21, 3) := by decide +kernel
theorem dX1_copyFrom_89 : decode cX1_copyFrom 89 = .ok (.aload_n 0, 1) := by decide +kernel
theorem dX1_copyFrom_90 : decode cX1_copyFrom 90 = .ok (.getfield 21, 3) := by decide +kernel
theorem dX1_copyFrom_93 : decode cX1_copyFrom 93 = .ok (.iload_n 2, 1) := by decide +kernel
theorem dX1_copyFrom_94 : decode cX1_copyFrom 94 = .ok (.aload_n 1, 1) := by decide +kernel
theorem dX1_copyFrom_95 : decode cX1_copyFrom 95 = .ok (.getfield 21, 3) := by decide +kernel
theorem dX1_copyFrom_98 : decode cX1_copyFrom 98 = .ok (.iload_n 2, 1) := by decide +kernel
theorem dX1_copyFrom_99 : decode cX1_copyFrom 99 = .ok (.baload, 1) := by decide +kernel
theorem dX1_copyFrom_100 : decode cX1_copyFrom 100 = .ok (.bastore, 1) := by decide +kernel
theorem dX1_copyFrom_101 : decode cX1_copyFrom 101 = .ok (.iinc 2 1, 3) := by decide +kernel
theorem dX1_copyFrom_104 : decode cX1_copyFrom 104 = .ok (.goto (-20), 3) := by decide +kernel
theorem dX1_copyFrom_107 : decode cX1_copyFrom 107 = .ok (.return_, 1) := by decide +kernel
theorem dX1_hasZone_0 : decode cX1_hasZone 0 = .ok (.iload_n 0, 1) := by decide +kernel
theorem dX1_hasZone_1 : decode cX1_hasZone 1 = .ok (.ifCond .lt 13, 3) := by decide +kernel
theorem dX1_hasZone_4 : decode cX1_hasZone 4 = .ok (.iload_n 0, 1) := by decide +kernel
theorem dX1_hasZone_5 : decode cX1_hasZone 5 = .ok (.bipush 8, 2) := by decide +kernel
theorem dX1_hasZone_7 : decode cX1_hasZone 7 = .ok (.if_icmp .ge 7, 3) := by decide +kernel
theorem dX1_hasZone_10 : decode cX1_hasZone 10 = .ok (.iconst 1, 1) := by decide +kernel
theorem dX1_hasZone_11 : decode cX1_hasZone 11 = .ok (.goto 4, 3) := by decide +kernel
theorem dX1_hasZone_14 : decode cX1_hasZone 14 = .ok (.iconst 0, 1) := by decide +kernel
theorem dX1_hasZone_15 : decode cX1_hasZone 15 = .ok (.ireturn, 1) := by decide +kernel
theorem dX1_sumOf_0 : decode cX1_sumOf 0 = .ok (.iconst 0, 1) := by decide +kernel
theorem dX1_sumOf_1 : decode cX1_sumOf 1 = .ok (.istore_n 1, 1) := by decide +kernel
theorem dX1_sumOf_2 : decode cX1_sumOf 2 = .ok (.aload_n 0, 1) := by decide +kernel
theorem dX1_sumOf_3 : decode cX1_sumOf 3 = .ok (.astore_n 2, 1) := by decide +kernel
theorem dX1_sumOf_4 : decode cX1_sumOf 4 = .ok (.aload_n 2, 1) := by decide +kernel
theorem dX1_sumOf_5 : decode cX1_sumOf 5 = .ok (.arraylength, 1) := by decide +kernel
theorem dX1_sumOf_6 : decode cX1_sumOf 6 = .ok (.istore_n 3, 1) := by decide +kernel
theorem dX1_sumOf_7 : decode cX1_sumOf 7 = .ok (.iconst 0, 1) := by decide +kernel
theorem dX1_sumOf_8 : decode cX1_sumOf 8 = .ok (.istore 4, 2) := by decide +kernel
theorem dX1_sumOf_10 : decode cX1_sumOf 10 = .ok (.iload 4, 2) := by decide +kernel
theorem dX1_sumOf_12 : decode cX1_sumOf 12 = .ok (.iload_n 3, 1) := by decide +kernel
theorem dX1_sumOf_13 : decode cX1_sumOf 13 = .ok (.if_icmp .ge 20, 3) := by decide +kernel
theorem dX1_sumOf_16 : decode cX1_sumOf 16 = .ok (.aload_n 2, 1) := by decide +kernel
theorem dX1_sumOf_17 : decode cX1_sumOf 17 = .ok (.iload 4, 2) := by decide +kernel
theorem dX1_sumOf_19 : decode cX1_sumOf 19 = .ok (.iaload, 1) := by decide +kernel
theorem dX1_sumOf_20 : decode cX1_sumOf 20 = .ok (.istore 5, 2) := by decide +kernel
theorem dX1_sumOf_22 : decode cX1_sumOf 22 = .ok (.iload_n 1, 1) := by decide +kernel
theorem dX1_sumOf_23 : decode cX1_sumOf 23 = .ok (.iload 5, 2) := by decide +kernel
theorem dX1_sumOf_25 : decode cX1_sumOf 25 = .ok (.iadd, 1) := by decide +kernel
theorem dX1_sumOf_26 : decode cX1_sumOf 26 = .ok (.istore_n 1, 1) := by decide +kernel
theorem dX1_sumOf_27 : decode cX1_sumOf 27 = .ok (.iinc 4 1, 3) := by decide +kernel
theorem dX1_sumOf_30 : decode cX1_sumOf 30 = .ok (.goto (-20), 3) := by decide +kernel
theorem dX1_sumOf_33 : decode cX1_sumOf 33 = .ok (.iload_n 1, 1) := by decide +kernel
theorem dX1_sumOf_34 : decode cX1_sumOf 34 = .ok (.ireturn, 1) := by decide +kernel
theorem dX1_hasGuard_0 : decode cX1_hasGuard 0 = .ok (.iload_n 1, 1) := by decide +kernel
theorem dX1_hasGuard_1 : decode cX1_hasGuard 1 = .ok (.ifCond .lt 15, 3) := by decide +kernel
theorem dX1_hasGuard_4 : decode cX1_hasGuard 4 = .ok (.iload_n 1, 1) := by decide +kernel
theorem dX1_hasGuard_5 : decode cX1_hasGuard 5 = .ok (.aload_n 0, 1) := by decide +kernel
theorem dX1_hasGuard_6 : decode cX1_hasGuard 6 = .ok (.getfield 41, 3) := by decide +kernel
theorem dX1_hasGuard_9 : decode cX1_hasGuard 9 = .ok (.if_icmp .ge 7, 3) := by decide +kernel
theorem dX1_hasGuard_12 : decode cX1_hasGuard 12 = .ok (.iconst 1, 1) := by decide +kernel
theorem dX1_hasGuard_13 : decode cX1_hasGuard 13 = .ok (.goto 4, 3) := by decide +kernel
theorem dX1_hasGuard_16 : decode cX1_hasGuard 16 = .ok (.iconst 0, 1) := by decide +kernel
theorem dX1_hasGuard_17 : decode cX1_hasGuard 17 = .ok (.ireturn, 1) := by decide +kernel
theorem dX1_hasGuardIn_0 : decode cX1_hasGuardIn 0 = .ok (.iconst 0, 1) := by decide +kernel
theorem dX1_hasGuardIn_1 : decode cX1_hasGuardIn 1 = .ok (.istore_n 2, 1) := by decide +kernel
theorem dX1_hasGuardIn_2 : decode cX1_hasGuardIn 2 = .ok (.iload_n 2, 1) := by decide +kernel
theorem dX1_hasGuardIn_3 : decode cX1_hasGuardIn 3 = .ok (.aload_n 0, 1) := by decide +kernel
theorem dX1_hasGuardIn_4 : decode cX1_hasGuardIn 4 = .ok (.getfield 41, 3) := by decide +kernel
theorem dX1_hasGuardIn_7 : decode cX1_hasGuardIn 7 = .ok (.if_icmp .ge 21, 3) := by decide +kernel
theorem dX1_hasGuardIn_10 : decode cX1_hasGuardIn 10 = .ok (.aload_n 0, 1) := by decide +kernel
theorem dX1_hasGuardIn_11 : decode cX1_hasGuardIn 11 = .ok (.getfield 18, 3) := by decide +kernel
theorem dX1_hasGuardIn_14 : decode cX1_hasGuardIn 14 = .ok (.iload_n 2, 1) := by decide +kernel
theorem dX1_hasGuardIn_15 : decode cX1_hasGuardIn 15 = .ok (.iaload, 1) := by decide +kernel
theorem dX1_hasGuardIn_16 : decode cX1_hasGuardIn 16 = .ok (.iload_n 1, 1) := by decide +kernel
theorem dX1_hasGuardIn_17 : decode cX1_hasGuardIn 17 = .ok (.if_icmp .ne 5, 3) := by decide +kernel
theorem dX1_hasGuardIn_20 : decode cX1_hasGuardIn 20 = .ok (.iconst 1, 1) := by decide +kernel
theorem dX1_hasGuardIn_21 : decode cX1_hasGuardIn 21 = .ok (.ireturn, 1) := by decide +kernel
theorem dX1_hasGuardIn_22 : decode cX1_hasGuardIn 22 = .ok (.iinc 2 1, 3) := by decide +kernel
theorem dX1_hasGuardIn_25 : decode cX1_hasGuardIn 25 = .ok (.goto (-23), 3) := by decide +kernel
theorem dX1_hasGuardIn_28 : decode cX1_hasGuardIn 28 = .ok (.iconst 0, 1) := by decide +kernel
theorem dX1_hasGuardIn_29 : decode cX1_hasGuardIn 29 = .ok (.ireturn, 1) := by decide +kernel
theorem dX1_hasGuardBeside_0 : decode cX1_hasGuardBeside 0 = .ok (.aload_n 0, 1) := by decide +kernel
theorem dX1_hasGuardBeside_1 : decode cX1_hasGuardBeside 1 = .ok (.iload_n 1, 1) := by decide +kernel
theorem dX1_hasGuardBeside_2 : decode cX1_hasGuardBeside 2 = .ok (.iconst 1, 1) := by decide +kernel
theorem dX1_hasGuardBeside_3 : decode cX1_hasGuardBeside 3 = .ok (.iadd, 1) := by decide +kernel
theorem dX1_hasGuardBeside_4 : decode cX1_hasGuardBeside 4 = .ok (.bipush 8, 2) := by decide +kernel
theorem dX1_hasGuardBeside_6 : decode cX1_hasGuardBeside 6 = .ok (.irem, 1) := by decide +kernel
theorem dX1_hasGuardBeside_7 : decode cX1_hasGuardBeside 7 = .ok (.invokevirtual 44, 3) := by decide +kernel
theorem dX1_hasGuardBeside_10 : decode cX1_hasGuardBeside 10 = .ok (.ifCond .ne 19, 3) := by decide +kernel
theorem dX1_hasGuardBeside_13 : decode cX1_hasGuardBeside 13 = .ok (.aload_n 0, 1) := by decide +kernel
theorem dX1_hasGuardBeside_14 : decode cX1_hasGuardBeside 14 = .ok (.iload_n 1, 1) := by decide +kernel
theorem dX1_hasGuardBeside_15 : decode cX1_hasGuardBeside 15 = .ok (.bipush 8, 2) := by decide +kernel
theorem dX1_hasGuardBeside_17 : decode cX1_hasGuardBeside 17 = .ok (.iadd, 1) := by decide +kernel
theorem dX1_hasGuardBeside_18 : decode cX1_hasGuardBeside 18 = .ok (.iconst 1, 1) := by decide +kernel
theorem dX1_hasGuardBeside_19 : decode cX1_hasGuardBeside 19 = .ok (.isub, 1) := by decide +kernel
theorem dX1_hasGuardBeside_20 : decode cX1_hasGuardBeside 20 = .ok (.bipush 8, 2) := by decide +kernel
theorem dX1_hasGuardBeside_22 : decode cX1_hasGuardBeside 22 = .ok (.irem, 1) := by decide +kernel
theorem dX1_hasGuardBeside_23 : decode cX1_hasGuardBeside 23 = .ok (.invokevirtual 44, 3) := by decide +kernel
theorem dX1_hasGuardBeside_26 : decode cX1_hasGuardBeside 26 = .ok (.ifCond .eq 7, 3) := by decide +kernel
theorem dX1_hasGuardBeside_29 : decode cX1_hasGuardBeside 29 = .ok (.iconst 1, 1) := by decide +kernel
theorem dX1_hasGuardBeside_30 : decode cX1_hasGuardBeside 30 = .ok (.goto 4, 3) := by decide +kernel
theorem dX1_hasGuardBeside_33 : decode cX1_hasGuardBeside 33 = .ok (.iconst 0, 1) := by decide +kernel
theorem dX1_hasGuardBeside_34 : decode cX1_hasGuardBeside 34 = .ok (.ireturn, 1) := by decide +kernel
theorem dX1_placeGuard_0 : decode cX1_placeGuard 0 = .ok (.aload_n 0, 1) := by decide +kernel
theorem dX1_placeGuard_1 : decode cX1_placeGuard 1 = .ok (.getfield 41, 3) := by decide +kernel
theorem dX1_placeGuard_4 : decode cX1_placeGuard 4 = .ok (.istore 4, 2) := by decide +kernel
theorem dX1_placeGuard_6 : decode cX1_placeGuard 6 = .ok (.aload_n 0, 1) := by decide +kernel
theorem dX1_placeGuard_7 : decode cX1_placeGuard 7 = .ok (.dup, 1) := by decide +kernel
theorem dX1_placeGuard_8 : decode cX1_placeGuard 8 = .ok (.getfield 41, 3) := by decide +kernel
theorem dX1_placeGuard_11 : decode cX1_placeGuard 11 = .ok (.iconst 1, 1) := by decide +kernel
theorem dX1_placeGuard_12 : decode cX1_placeGuard 12 = .ok (.iadd, 1) := by decide +kernel
theorem dX1_placeGuard_13 : decode cX1_placeGuard 13 = .ok (.putfield 41, 3) := by decide +kernel
theorem dX1_placeGuard_16 : decode cX1_placeGuard 16 = .ok (.aload_n 0, 1) := by decide +kernel
theorem dX1_placeGuard_17 : decode cX1_placeGuard 17 = .ok (.getfield 18, 3) := by decide +kernel
theorem dX1_placeGuard_20 : decode cX1_placeGuard 20 = .ok (.iload 4, 2) := by decide +kernel
theorem dX1_placeGuard_22 : decode cX1_placeGuard 22 = .ok (.iload_n 1, 1) := by decide +kernel
theorem dX1_placeGuard_23 : decode cX1_placeGuard 23 = .ok (.iastore, 1) := by decide +kernel
theorem dX1_placeGuard_24 : decode cX1_placeGuard 24 = .ok (.aload_n 0, 1) := by decide +kernel
theorem dX1_placeGuard_25 : decode cX1_placeGuard 25 = .ok (.getfield 21, 3) := by decide +kernel
theorem dX1_placeGuard_28 : decode cX1_placeGuard 28 = .ok (.iload 4, 2) := by decide +kernel
theorem dX1_placeGuard_30 : decode cX1_placeGuard 30 = .ok (.iload_n 2, 1) := by decide +kernel
theorem dX1_placeGuard_31 : decode cX1_placeGuard 31 = .ok (.bastore, 1) := by decide +kernel
theorem dX1_placeGuard_32 : decode cX1_placeGuard 32 = .ok (.aload_n 0, 1) := by decide +kernel
theorem dX1_placeGuard_33 : decode cX1_placeGuard 33 = .ok (.getfield 25, 3) := by decide +kernel
theorem dX1_placeGuard_36 : decode cX1_placeGuard 36 = .ok (.iload 4, 2) := by decide +kernel
theorem dX1_placeGuard_38 : decode cX1_placeGuard 38 = .ok (.iload_n 3, 1) := by decide +kernel
theorem dX1_placeGuard_39 : decode cX1_placeGuard 39 = .ok (.iastore, 1) := by decide +kernel
theorem dX1_placeGuard_40 : decode cX1_placeGuard 40 = .ok (.iload 4, 2) := by decide +kernel
theorem dX1_placeGuard_42 : decode cX1_placeGuard 42 = .ok (.ireturn, 1) := by decide +kernel
theorem dX1_beginHour_0 : decode cX1_beginHour 0 = .ok (.aload_n 0, 1) := by decide +kernel
theorem dX1_beginHour_1 : decode cX1_beginHour 1 = .ok (.dup, 1) := by decide +kernel
theorem dX1_beginHour_2 : decode cX1_beginHour 2 = .ok (.getfield 28, 3) := by decide +kernel
theorem dX1_beginHour_5 : decode cX1_beginHour 5 = .ok (.iconst 1, 1) := by decide +kernel
theorem dX1_beginHour_6 : decode cX1_beginHour 6 = .ok (.iadd, 1) := by decide +kernel
theorem dX1_beginHour_7 : decode cX1_beginHour 7 = .ok (.putfield 28, 3) := by decide +kernel
theorem dX1_beginHour_10 : decode cX1_beginHour 10 = .ok (.iconst 0, 1) := by decide +kernel
theorem dX1_beginHour_11 : decode cX1_beginHour 11 = .ok (.istore_n 1, 1) := by decide +kernel
theorem dX1_beginHour_12 : decode cX1_beginHour 12 = .ok (.iload_n 1, 1) := by decide +kernel
theorem dX1_beginHour_13 : decode cX1_beginHour 13 = .ok (.aload_n 0, 1) := by decide +kernel
theorem dX1_beginHour_14 : decode cX1_beginHour 14 = .ok (.getfield 41, 3) := by decide +kernel
theorem dX1_beginHour_17 : decode cX1_beginHour 17 = .ok (.if_icmp .ge 56, 3) := by decide +kernel
theorem dX1_beginHour_20 : decode cX1_beginHour 20 = .ok (.aload_n 0, 1) := by decide +kernel
theorem dX1_beginHour_21 : decode cX1_beginHour 21 = .ok (.getfield 28, 3) := by decide +kernel
theorem dX1_beginHour_24 : decode cX1_beginHour 24 = .ok (.aload_n 0, 1) := by decide +kernel
theorem dX1_beginHour_25 : decode cX1_beginHour 25 = .ok (.getfield 25, 3) := by decide +kernel
theorem dX1_beginHour_28 : decode cX1_beginHour 28 = .ok (.iload_n 1, 1) := by decide +kernel
theorem dX1_beginHour_29 : decode cX1_beginHour 29 = .ok (.iaload, 1) := by decide +kernel
theorem dX1_beginHour_30 : decode cX1_beginHour 30 = .ok (.irem, 1) := by decide +kernel
theorem dX1_beginHour_31 : decode cX1_beginHour 31 = .ok (.ifCond .ne 36, 3) := by decide +kernel
theorem dX1_beginHour_34 : decode cX1_beginHour 34 = .ok (.aload_n 0, 1) := by decide +kernel
theorem dX1_beginHour_35 : decode cX1_beginHour 35 = .ok (.getfield 21, 3) := by decide +kernel
theorem dX1_beginHour_38 : decode cX1_beginHour 38 = .ok (.iload_n 1, 1) := by decide +kernel
theorem dX1_beginHour_39 : decode cX1_beginHour 39 = .ok (.baload, 1) := by decide +kernel
theorem dX1_beginHour_40 : decode cX1_beginHour 40 = .ok (.ifCond .eq 7, 3) := by decide +kernel
theorem dX1_beginHour_43 : decode cX1_beginHour 43 = .ok (.iconst 1, 1) := by decide +kernel
theorem dX1_beginHour_44 : decode cX1_beginHour 44 = .ok (.goto 5, 3) := by decide +kernel
theorem dX1_beginHour_47 : decode cX1_beginHour 47 = .ok (.bipush 7, 2) := by decide +kernel
theorem dX1_beginHour_49 : decode cX1_beginHour 49 = .ok (.istore_n 2, 1) := by decide +kernel
theorem dX1_beginHour_50 : decode cX1_beginHour 50 = .ok (.aload_n 0, 1) := by decide +kernel
theorem dX1_beginHour_51 : decode cX1_beginHour 51 = .ok (.getfield 18, 3) := by decide +kernel
theorem dX1_beginHour_54 : decode cX1_beginHour 54 = .ok (.iload_n 1, 1) := by decide +kernel
theorem dX1_beginHour_55 : decode cX1_beginHour 55 = .ok (.aload_n 0, 1) := by decide +kernel
theorem dX1_beginHour_56 : decode cX1_beginHour 56 = .ok (.getfield 18, 3) := by decide +kernel
theorem dX1_beginHour_59 : decode cX1_beginHour 59 = .ok (.iload_n 1, 1) := by decide +kernel
theorem dX1_beginHour_60 : decode cX1_beginHour 60 = .ok (.iaload, 1) := by decide +kernel
theorem dX1_beginHour_61 : decode cX1_beginHour 61 = .ok (.iload_n 2, 1) := by decide +kernel
theorem dX1_beginHour_62 : decode cX1_beginHour 62 = .ok (.iadd, 1) := by decide +kernel
theorem dX1_beginHour_63 : decode cX1_beginHour 63 = .ok (.bipush 8, 2) := by decide +kernel
theorem dX1_beginHour_65 : decode cX1_beginHour 65 = .ok (.irem, 1) := by decide +kernel
theorem dX1_beginHour_66 : decode cX1_beginHour 66 = .ok (.iastore, 1) := by decide +kernel
theorem dX1_beginHour_67 : decode cX1_beginHour 67 = .ok (.iinc 1 1, 3) := by decide +kernel
theorem dX1_beginHour_70 : decode cX1_beginHour 70 = .ok (.goto (-58), 3) := by decide +kernel
theorem dX1_beginHour_73 : decode cX1_beginHour 73 = .ok (.return_, 1) := by decide +kernel
theorem dX1_passOneHour_0 : decode cX1_passOneHour 0 = .ok (.aload_n 0, 1) := by decide +kernel
theorem dX1_passOneHour_1 : decode cX1_passOneHour 1 = .ok (.invokevirtual 48, 3) := by decide +kernel
theorem dX1_passOneHour_4 : decode cX1_passOneHour 4 = .ok (.iconst 0, 1) := by decide +kernel
theorem dX1_passOneHour_5 : decode cX1_passOneHour 5 = .ok (.istore_n 1, 1) := by decide +kernel
theorem dX1_passOneHour_6 : decode cX1_passOneHour 6 = .ok (.iconst 0, 1) := by decide +kernel
theorem dX1_passOneHour_7 : decode cX1_passOneHour 7 = .ok (.istore_n 2, 1) := by decide +kernel
theorem dX1_passOneHour_8 : decode cX1_passOneHour 8 = .ok (.iload_n 2, 1) := by decide +kernel
theorem dX1_passOneHour_9 : decode cX1_passOneHour 9 = .ok (.bipush 8, 2) := by decide +kernel
theorem dX1_passOneHour_11 : decode cX1_passOneHour 11 = .ok (.if_icmp .ge 100, 3) := by decide +kernel
theorem dX1_passOneHour_14 : decode cX1_passOneHour 14 = .ok (.aload_n 0, 1) := by decide +kernel
theorem dX1_passOneHour_15 : decode cX1_passOneHour 15 = .ok (.iload_n 2, 1) := by decide +kernel
theorem dX1_passOneHour_16 : decode cX1_passOneHour 16 = .ok (.invokevirtual 44, 3) := by decide +kernel
theorem dX1_passOneHour_19 : decode cX1_passOneHour 19 = .ok (.ifCond .eq 13, 3) := by decide +kernel
theorem dX1_passOneHour_22 : decode cX1_passOneHour 22 = .ok (.aload_n 0, 1) := by decide +kernel
theorem dX1_passOneHour_23 : decode cX1_passOneHour 23 = .ok (.getfield 9, 3) := by decide +kernel
theorem dX1_passOneHour_26 : decode cX1_passOneHour 26 = .ok (.iload_n 2, 1) := by decide +kernel
theorem dX1_passOneHour_27 : decode cX1_passOneHour 27 = .ok (.iconst 0, 1) := by decide +kernel
theorem dX1_passOneHour_28 : decode cX1_passOneHour 28 = .ok (.iastore, 1) := by decide +kernel
theorem dX1_passOneHour_29 : decode cX1_passOneHour 29 = .ok (.goto 76, 3) := by decide +kernel
theorem dX1_passOneHour_32 : decode cX1_passOneHour 32 = .ok (.aload_n 0, 1) := by decide +kernel
theorem dX1_passOneHour_33 : decode cX1_passOneHour 33 = .ok (.getfield 9, 3) := by decide +kernel
theorem dX1_passOneHour_36 : decode cX1_passOneHour 36 = .ok (.iload_n 2, 1) := by decide +kernel
theorem dX1_passOneHour_37 : decode cX1_passOneHour 37 = .ok (.iaload, 1) := by decide +kernel
theorem dX1_passOneHour_38 : decode cX1_passOneHour 38 = .ok (.iconst 5, 1) := by decide +kernel
theorem dX1_passOneHour_39 : decode cX1_passOneHour 39 = .ok (.if_icmp .lt 47, 3) := by decide +kernel
theorem dX1_passOneHour_42 : decode cX1_passOneHour 42 = .ok (.aload_n 0, 1) := by decide +kernel
theorem dX1_passOneHour_43 : decode cX1_passOneHour 43 = .ok (.iload_n 2, 1) := by decide +kernel
theorem dX1_passOneHour_44 : decode cX1_passOneHour 44 = .ok (.invokevirtual 51, 3) := by decide +kernel
theorem dX1_passOneHour_47 : decode cX1_passOneHour 47 = .ok (.ifCond .ne 39, 3) := by decide +kernel
theorem dX1_passOneHour_50 : decode cX1_passOneHour 50 = .ok (.aload_n 0, 1) := by decide +kernel
theorem dX1_passOneHour_51 : decode cX1_passOneHour 51 = .ok (.getfield 9, 3) := by decide +kernel
theorem dX1_passOneHour_54 : decode cX1_passOneHour 54 = .ok (.iload_n 2, 1) := by decide +kernel
theorem dX1_passOneHour_55 : decode cX1_passOneHour 55 = .ok (.iconst 0, 1) := by decide +kernel
theorem dX1_passOneHour_56 : decode cX1_passOneHour 56 = .ok (.iastore, 1) := by decide +kernel
theorem dX1_passOneHour_57 : decode cX1_passOneHour 57 = .ok (.aload_n 0, 1) := by decide +kernel
theorem dX1_passOneHour_58 : decode cX1_passOneHour 58 = .ok (.getfield 15, 3) := by decide +kernel
theorem dX1_passOneHour_61 : decode cX1_passOneHour 61 = .ok (.iload_n 2, 1) := by decide +kernel
theorem dX1_passOneHour_62 : decode cX1_passOneHour 62 = .ok (.dup2, 1) := by decide +kernel
theorem dX1_passOneHour_63 : decode cX1_passOneHour 63 = .ok (.iaload, 1) := by decide +kernel
theorem dX1_passOneHour_64 : decode cX1_passOneHour 64 = .ok (.iconst 1, 1) := by decide +kernel
theorem dX1_passOneHour_65 : decode cX1_passOneHour 65 = .ok (.iadd, 1) := by decide +kernel
theorem dX1_passOneHour_66 : decode cX1_passOneHour 66 = .ok (.iastore, 1) := by decide +kernel
theorem dX1_passOneHour_67 : decode cX1_passOneHour 67 = .ok (.aload_n 0, 1) := by decide +kernel
theorem dX1_passOneHour_68 : decode cX1_passOneHour 68 = .ok (.dup, 1) := by decide +kernel
theorem dX1_passOneHour_69 : decode cX1_passOneHour 69 = .ok (.getfield 38, 3) := by decide +kernel
theorem dX1_passOneHour_72 : decode cX1_passOneHour 72 = .ok (.iconst 1, 1) := by decide +kernel
theorem dX1_passOneHour_73 : decode cX1_passOneHour 73 = .ok (.iadd, 1) := by decide +kernel
theorem dX1_passOneHour_74 : decode cX1_passOneHour 74 = .ok (.putfield 38, 3) := by decide +kernel
theorem dX1_passOneHour_77 : decode cX1_passOneHour 77 = .ok (.iload_n 1, 1) := by decide +kernel
theorem dX1_passOneHour_78 : decode cX1_passOneHour 78 = .ok (.iconst 1, 1) := by decide +kernel
theorem dX1_passOneHour_79 : decode cX1_passOneHour 79 = .ok (.iload_n 2, 1) := by decide +kernel
theorem dX1_passOneHour_80 : decode cX1_passOneHour 80 = .ok (.ishl, 1) := by decide +kernel
theorem dX1_passOneHour_81 : decode cX1_passOneHour 81 = .ok (.ior, 1) := by decide +kernel
theorem dX1_passOneHour_82 : decode cX1_passOneHour 82 = .ok (.istore_n 1, 1) := by decide +kernel
theorem dX1_passOneHour_83 : decode cX1_passOneHour 83 = .ok (.goto 22, 3) := by decide +kernel
theorem dX1_passOneHour_86 : decode cX1_passOneHour 86 = .ok (.aload_n 0, 1) := by decide +kernel
theorem dX1_passOneHour_87 : decode cX1_passOneHour 87 = .ok (.getfield 9, 3) := by decide +kernel
theorem dX1_passOneHour_90 : decode cX1_passOneHour 90 = .ok (.iload_n 2, 1) := by decide +kernel
theorem dX1_passOneHour_91 : decode cX1_passOneHour 91 = .ok (.iaload, 1) := by decide +kernel
theorem dX1_passOneHour_92 : decode cX1_passOneHour 92 = .ok (.ifCond .le 13, 3) := by decide +kernel
theorem dX1_passOneHour_95 : decode cX1_passOneHour 95 = .ok (.aload_n 0, 1) := by decide +kernel
theorem dX1_passOneHour_96 : decode cX1_passOneHour 96 = .ok (.getfield 9, 3) := by decide +kernel
theorem dX1_passOneHour_99 : decode cX1_passOneHour 99 = .ok (.iload_n 2, 1) := by decide +kernel
theorem dX1_passOneHour_100 : decode cX1_passOneHour 100 = .ok (.dup2, 1) := by decide +kernel
theorem dX1_passOneHour_101 : decode cX1_passOneHour 101 = .ok (.iaload, 1) := by decide +kernel
theorem dX1_passOneHour_102 : decode cX1_passOneHour 102 = .ok (.iconst 1, 1) := by decide +kernel
theorem dX1_passOneHour_103 : decode cX1_passOneHour 103 = .ok (.isub, 1) := by decide +kernel
theorem dX1_passOneHour_104 : decode cX1_passOneHour 104 = .ok (.iastore, 1) := by decide +kernel
theorem dX1_passOneHour_105 : decode cX1_passOneHour 105 = .ok (.iinc 2 1, 3) := by decide +kernel
theorem dX1_passOneHour_108 : decode cX1_passOneHour 108 = .ok (.goto (-100), 3) := by decide +kernel
theorem dX1_passOneHour_111 : decode cX1_passOneHour 111 = .ok (.iload_n 1, 1) := by decide +kernel
theorem dX1_passOneHour_112 : decode cX1_passOneHour 112 = .ok (.ireturn, 1) := by decide +kernel
theorem dX1_visitByRemainders_0 : decode cX1_visitByRemainders 0 = .ok (.bipush 32, 2) := by decide +kernel
theorem dX1_visitByRemainders_2 : decode cX1_visitByRemainders 2 = .ok (.istore_n 2, 1) := by decide +kernel
theorem dX1_visitByRemainders_3 : decode cX1_visitByRemainders 3 = .ok (.iconst 0, 1) := by decide +kernel
theorem dX1_visitByRemainders_4 : decode cX1_visitByRemainders 4 = .ok (.istore_n 3, 1) := by decide +kernel
theorem dX1_visitByRemainders_5 : decode cX1_visitByRemainders 5 = .ok (.iload_n 3, 1) := by decide +kernel
theorem dX1_visitByRemainders_6 : decode cX1_visitByRemainders 6 = .ok (.aload_n 0, 1) := by decide +kernel
theorem dX1_visitByRemainders_7 : decode cX1_visitByRemainders 7 = .ok (.getfield 41, 3) := by decide +kernel
theorem dX1_visitByRemainders_10 : decode cX1_visitByRemainders 10 = .ok (.if_icmp .ge 20, 3) := by decide +kernel
theorem dX1_visitByRemainders_13 : decode cX1_visitByRemainders 13 = .ok (.iload_n 2, 1) := by decide +kernel
theorem dX1_visitByRemainders_14 : decode cX1_visitByRemainders 14 = .ok (.aload_n 0, 1) := by decide +kernel
theorem dX1_visitByRemainders_15 : decode cX1_visitByRemainders 15 = .ok (.iload_n 3, 1) := by decide +kernel
theorem dX1_visitByRemainders_16 : decode cX1_visitByRemainders 16 = .ok (.iload_n 1, 1) := by decide +kernel
theorem dX1_visitByRemainders_17 : decode cX1_visitByRemainders 17 = .ok (.invokevirtual 54, 3) := by decide +kernel
theorem dX1_visitByRemainders_20 : decode cX1_visitByRemainders 20 = .ok (.invokestatic 58, 3) := by decide +kernel
theorem dX1_visitByRemainders_23 : decode cX1_visitByRemainders 23 = .ok (.istore_n 2, 1) := by decide +kernel
theorem dX1_visitByRemainders_24 : decode cX1_visitByRemainders 24 = .ok (.iinc 3 1, 3) := by decide +kernel
theorem dX1_visitByRemainders_27 : decode cX1_visitByRemainders 27 = .ok (.goto (-22), 3) := by decide +kernel
theorem dX1_visitByRemainders_30 : decode cX1_visitByRemainders 30 = .ok (.iload_n 2, 1) := by decide +kernel
theorem dX1_visitByRemainders_31 : decode cX1_visitByRemainders 31 = .ok (.ireturn, 1) := by decide +kernel
theorem dX1_visitOf_0 : decode cX1_visitOf 0 = .ok (.aload_n 0, 1) := by decide +kernel
theorem dX1_visitOf_1 : decode cX1_visitOf 1 = .ok (.getfield 21, 3) := by decide +kernel
theorem dX1_visitOf_4 : decode cX1_visitOf 4 = .ok (.iload_n 1, 1) := by decide +kernel
theorem dX1_visitOf_5 : decode cX1_visitOf 5 = .ok (.baload, 1) := by decide +kernel
theorem dX1_visitOf_6 : decode cX1_visitOf 6 = .ok (.ifCond .eq 14, 3) := by decide +kernel
theorem dX1_visitOf_9 : decode cX1_visitOf 9 = .ok (.iload_n 2, 1) := by decide +kernel
theorem dX1_visitOf_10 : decode cX1_visitOf 10 = .ok (.aload_n 0, 1) := by decide +kernel
theorem dX1_visitOf_11 : decode cX1_visitOf 11 = .ok (.getfield 18, 3) := by decide +kernel
theorem dX1_visitOf_14 : decode cX1_visitOf 14 = .ok (.iload_n 1, 1) := by decide +kernel
theorem dX1_visitOf_15 : decode cX1_visitOf 15 = .ok (.iaload, 1) := by decide +kernel
theorem dX1_visitOf_16 : decode cX1_visitOf 16 = .ok (.isub, 1) := by decide +kernel
theorem dX1_visitOf_17 : decode cX1_visitOf 17 = .ok (.goto 11, 3) := by decide +kernel
theorem dX1_visitOf_20 : decode cX1_visitOf 20 = .ok (.aload_n 0, 1) := by decide +kernel
theorem dX1_visitOf_21 : decode cX1_visitOf 21 = .ok (.getfield 18, 3) := by decide +kernel
theorem dX1_visitOf_24 : decode cX1_visitOf 24 = .ok (.iload_n 1, 1) := by decide +kernel
theorem dX1_visitOf_25 : decode cX1_visitOf 25 = .ok (.iaload, 1) := by decide +kernel
theorem dX1_visitOf_26 : decode cX1_visitOf 26 = .ok (.iload_n 2, 1) := by decide +kernel
theorem dX1_visitOf_27 : decode cX1_visitOf 27 = .ok (.isub, 1) := by decide +kernel
theorem dX1_visitOf_28 : decode cX1_visitOf 28 = .ok (.istore_n 3, 1) := by decide +kernel
theorem dX1_visitOf_29 : decode cX1_visitOf 29 = .ok (.iload_n 3, 1) := by decide +kernel
theorem dX1_visitOf_30 : decode cX1_visitOf 30 = .ok (.bipush 8, 2) := by decide +kernel
theorem dX1_visitOf_32 : decode cX1_visitOf 32 = .ok (.invokestatic 63, 3) := by decide +kernel
theorem dX1_visitOf_35 : decode cX1_visitOf 35 = .ok (.istore 4, 2) := by decide +kernel
theorem dX1_visitOf_37 : decode cX1_visitOf 37 = .ok (.iload 4, 2) := by decide +kernel
theorem dX1_visitOf_39 : decode cX1_visitOf 39 = .ok (.ifCond .ne 7, 3) := by decide +kernel
theorem dX1_visitOf_42 : decode cX1_visitOf 42 = .ok (.iconst 0, 1) := by decide +kernel
theorem dX1_visitOf_43 : decode cX1_visitOf 43 = .ok (.goto 24, 3) := by decide +kernel
theorem dX1_visitOf_46 : decode cX1_visitOf 46 = .ok (.iload 4, 2) := by decide +kernel
theorem dX1_visitOf_48 : decode cX1_visitOf 48 = .ok (.aload_n 0, 1) := by decide +kernel
theorem dX1_visitOf_49 : decode cX1_visitOf 49 = .ok (.getfield 25, 3) := by decide +kernel
theorem dX1_visitOf_52 : decode cX1_visitOf 52 = .ok (.iload_n 1, 1) := by decide +kernel
theorem dX1_visitOf_53 : decode cX1_visitOf 53 = .ok (.iaload, 1) := by decide +kernel
theorem dX1_visitOf_54 : decode cX1_visitOf 54 = .ok (.imul, 1) := by decide +kernel
theorem dX1_visitOf_55 : decode cX1_visitOf 55 = .ok (.aload_n 0, 1) := by decide +kernel
theorem dX1_visitOf_56 : decode cX1_visitOf 56 = .ok (.getfield 28, 3) := by decide +kernel
theorem dX1_visitOf_59 : decode cX1_visitOf 59 = .ok (.aload_n 0, 1) := by decide +kernel
theorem dX1_visitOf_60 : decode cX1_visitOf 60 = .ok (.getfield 25, 3) := by decide +kernel
theorem dX1_visitOf_63 : decode cX1_visitOf 63 = .ok (.iload_n 1, 1) := by decide +kernel
theorem dX1_visitOf_64 : decode cX1_visitOf 64 = .ok (.iaload, 1) := by decide +kernel
theorem dX1_visitOf_65 : decode cX1_visitOf 65 = .ok (.irem, 1) := by decide +kernel
theorem dX1_visitOf_66 : decode cX1_visitOf 66 = .ok (.isub, 1) := by decide +kernel
theorem dX1_visitOf_67 : decode cX1_visitOf 67 = .ok (.ireturn, 1) := by decide +kernel
theorem dX1_zoneAtRank_0 : decode cX1_zoneAtRank 0 = .ok (.iconst 0, 1) := by decide +kernel
theorem dX1_zoneAtRank_1 : decode cX1_zoneAtRank 1 = .ok (.istore_n 2, 1) := by decide +kernel
theorem dX1_zoneAtRank_2 : decode cX1_zoneAtRank 2 = .ok (.iload_n 2, 1) := by decide +kernel
theorem dX1_zoneAtRank_3 : decode cX1_zoneAtRank 3 = .ok (.bipush 8, 2) := by decide +kernel
theorem dX1_zoneAtRank_5 : decode cX1_zoneAtRank 5 = .ok (.if_icmp .ge 20, 3) := by decide +kernel
theorem dX1_zoneAtRank_8 : decode cX1_zoneAtRank 8 = .ok (.aload_n 0, 1) := by decide +kernel
theorem dX1_zoneAtRank_9 : decode cX1_zoneAtRank 9 = .ok (.iload_n 2, 1) := by decide +kernel
theorem dX1_zoneAtRank_10 : decode cX1_zoneAtRank 10 = .ok (.invokevirtual 66, 3) := by decide +kernel
theorem dX1_zoneAtRank_13 : decode cX1_zoneAtRank 13 = .ok (.iload_n 1, 1) := by decide +kernel
theorem dX1_zoneAtRank_14 : decode cX1_zoneAtRank 14 = .ok (.if_icmp .ne 5, 3) := by decide +kernel
theorem dX1_zoneAtRank_17 : decode cX1_zoneAtRank 17 = .ok (.iload_n 2, 1) := by decide +kernel
theorem dX1_zoneAtRank_18 : decode cX1_zoneAtRank 18 = .ok (.ireturn, 1) := by decide +kernel
theorem dX1_zoneAtRank_19 : decode cX1_zoneAtRank 19 = .ok (.iinc 2 1, 3) := by decide +kernel
theorem dX1_zoneAtRank_22 : decode cX1_zoneAtRank 22 = .ok (.goto (-20), 3) := by decide +kernel
theorem dX1_zoneAtRank_25 : decode cX1_zoneAtRank 25 = .ok (.iconst (-1), 1) := by decide +kernel
theorem dX1_zoneAtRank_26 : decode cX1_zoneAtRank 26 = .ok (.ireturn, 1) := by decide +kernel
theorem dX1_rankOf_0 : decode cX1_rankOf 0 = .ok (.iconst 0, 1) := by decide +kernel
theorem dX1_rankOf_1 : decode cX1_rankOf 1 = .ok (.istore_n 2, 1) := by decide +kernel
theorem dX1_rankOf_2 : decode cX1_rankOf 2 = .ok (.iconst 0, 1) := by decide +kernel
theorem dX1_rankOf_3 : decode cX1_rankOf 3 = .ok (.istore_n 3, 1) := by decide +kernel
theorem dX1_rankOf_4 : decode cX1_rankOf 4 = .ok (.iload_n 3, 1) := by decide +kernel
theorem dX1_rankOf_5 : decode cX1_rankOf 5 = .ok (.bipush 8, 2) := by decide +kernel
theorem dX1_rankOf_7 : decode cX1_rankOf 7 = .ok (.if_icmp .ge 21, 3) := by decide +kernel
theorem dX1_rankOf_10 : decode cX1_rankOf 10 = .ok (.aload_n 0, 1) := by decide +kernel
theorem dX1_rankOf_11 : decode cX1_rankOf 11 = .ok (.iload_n 3, 1) := by decide +kernel
theorem dX1_rankOf_12 : decode cX1_rankOf 12 = .ok (.iload_n 1, 1) := by decide +kernel
theorem dX1_rankOf_13 : decode cX1_rankOf 13 = .ok (.invokevirtual 70, 3) := by decide +kernel
theorem dX1_rankOf_16 : decode cX1_rankOf 16 = .ok (.ifCond .eq 6, 3) := by decide +kernel
theorem dX1_rankOf_19 : decode cX1_rankOf 19 = .ok (.iinc 2 1, 3) := by decide +kernel
theorem dX1_rankOf_22 : decode cX1_rankOf 22 = .ok (.iinc 3 1, 3) := by decide +kernel
theorem dX1_rankOf_25 : decode cX1_rankOf 25 = .ok (.goto (-21), 3) := by decide +kernel
theorem dX1_rankOf_28 : decode cX1_rankOf 28 = .ok (.iload_n 2, 1) := by decide +kernel
theorem dX1_rankOf_29 : decode cX1_rankOf 29 = .ok (.ireturn, 1) := by decide +kernel
theorem dX1_comesBefore_0 : decode cX1_comesBefore 0 = .ok (.aload_n 0, 1) := by decide +kernel
theorem dX1_comesBefore_1 : decode cX1_comesBefore 1 = .ok (.getfield 9, 3) := by decide +kernel
theorem dX1_comesBefore_4 : decode cX1_comesBefore 4 = .ok (.iload_n 1, 1) := by decide +kernel
theorem dX1_comesBefore_5 : decode cX1_comesBefore 5 = .ok (.iaload, 1) := by decide +kernel
theorem dX1_comesBefore_6 : decode cX1_comesBefore 6 = .ok (.aload_n 0, 1) := by decide +kernel
theorem dX1_comesBefore_7 : decode cX1_comesBefore 7 = .ok (.getfield 9, 3) := by decide +kernel
theorem dX1_comesBefore_10 : decode cX1_comesBefore 10 = .ok (.iload_n 2, 1) := by decide +kernel
theorem dX1_comesBefore_11 : decode cX1_comesBefore 11 = .ok (.iaload, 1) := by decide +kernel
theorem dX1_comesBefore_12 : decode cX1_comesBefore 12 = .ok (.if_icmp .eq 24, 3) := by decide +kernel
theorem dX1_comesBefore_15 : decode cX1_comesBefore 15 = .ok (.aload_n 0, 1) := by decide +kernel
theorem dX1_comesBefore_16 : decode cX1_comesBefore 16 = .ok (.getfield 9, 3) := by decide +kernel
theorem dX1_comesBefore_19 : decode cX1_comesBefore 19 = .ok (.iload_n 1, 1) := by decide +kernel
theorem dX1_comesBefore_20 : decode cX1_comesBefore 20 = .ok (.iaload, 1) := by decide +kernel
theorem dX1_comesBefore_21 : decode cX1_comesBefore 21 = .ok (.aload_n 0, 1) := by decide +kernel
theorem dX1_comesBefore_22 : decode cX1_comesBefore 22 = .ok (.getfield 9, 3) := by decide +kernel
theorem dX1_comesBefore_25 : decode cX1_comesBefore 25 = .ok (.iload_n 2, 1) := by decide +kernel
theorem dX1_comesBefore_26 : decode cX1_comesBefore 26 = .ok (.iaload, 1) := by decide +kernel
theorem dX1_comesBefore_27 : decode cX1_comesBefore 27 = .ok (.if_icmp .le 7, 3) := by decide +kernel
theorem dX1_comesBefore_30 : decode cX1_comesBefore 30 = .ok (.iconst 1, 1) := by decide +kernel
theorem dX1_comesBefore_31 : decode cX1_comesBefore 31 = .ok (.goto 4, 3) := by decide +kernel
theorem dX1_comesBefore_34 : decode cX1_comesBefore 34 = .ok (.iconst 0, 1) := by decide +kernel
theorem dX1_comesBefore_35 : decode cX1_comesBefore 35 = .ok (.ireturn, 1) := by decide +kernel
theorem dX1_comesBefore_36 : decode cX1_comesBefore 36 = .ok (.aload_n 0, 1) := by decide +kernel
theorem dX1_comesBefore_37 : decode cX1_comesBefore 37 = .ok (.getfield 15, 3) := by decide +kernel
theorem dX1_comesBefore_40 : decode cX1_comesBefore 40 = .ok (.iload_n 1, 1) := by decide +kernel
theorem dX1_comesBefore_41 : decode cX1_comesBefore 41 = .ok (.iaload, 1) := by decide +kernel
theorem dX1_comesBefore_42 : decode cX1_comesBefore 42 = .ok (.aload_n 0, 1) := by decide +kernel
theorem dX1_comesBefore_43 : decode cX1_comesBefore 43 = .ok (.getfield 15, 3) := by decide +kernel
theorem dX1_comesBefore_46 : decode cX1_comesBefore 46 = .ok (.iload_n 2, 1) := by decide +kernel
theorem dX1_comesBefore_47 : decode cX1_comesBefore 47 = .ok (.iaload, 1) := by decide +kernel
theorem dX1_comesBefore_48 : decode cX1_comesBefore 48 = .ok (.if_icmp .eq 24, 3) := by decide +kernel
theorem dX1_comesBefore_51 : decode cX1_comesBefore 51 = .ok (.aload_n 0, 1) := by decide +kernel
theorem dX1_comesBefore_52 : decode cX1_comesBefore 52 = .ok (.getfield 15, 3) := by decide +kernel
theorem dX1_comesBefore_55 : decode cX1_comesBefore 55 = .ok (.iload_n 1, 1) := by decide +kernel
theorem dX1_comesBefore_56 : decode cX1_comesBefore 56 = .ok (.iaload, 1) := by decide +kernel
theorem dX1_comesBefore_57 : decode cX1_comesBefore 57 = .ok (.aload_n 0, 1) := by decide +kernel
theorem dX1_comesBefore_58 : decode cX1_comesBefore 58 = .ok (.getfield 15, 3) := by decide +kernel
theorem dX1_comesBefore_61 : decode cX1_comesBefore 61 = .ok (.iload_n 2, 1) := by decide +kernel
theorem dX1_comesBefore_62 : decode cX1_comesBefore 62 = .ok (.iaload, 1) := by decide +kernel
theorem dX1_comesBefore_63 : decode cX1_comesBefore 63 = .ok (.if_icmp .le 7, 3) := by decide +kernel
theorem dX1_comesBefore_66 : decode cX1_comesBefore 66 = .ok (.iconst 1, 1) := by decide +kernel
theorem dX1_comesBefore_67 : decode cX1_comesBefore 67 = .ok (.goto 4, 3) := by decide +kernel
theorem dX1_comesBefore_70 : decode cX1_comesBefore 70 = .ok (.iconst 0, 1) := by decide +kernel
theorem dX1_comesBefore_71 : decode cX1_comesBefore 71 = .ok (.ireturn, 1) := by decide +kernel
theorem dX1_comesBefore_72 : decode cX1_comesBefore 72 = .ok (.iload_n 1, 1) := by decide +kernel
theorem dX1_comesBefore_73 : decode cX1_comesBefore 73 = .ok (.iload_n 2, 1) := by decide +kernel
theorem dX1_comesBefore_74 : decode cX1_comesBefore 74 = .ok (.if_icmp .ge 7, 3) := by decide +kernel
theorem dX1_comesBefore_77 : decode cX1_comesBefore 77 = .ok (.iconst 1, 1) := by decide +kernel
theorem dX1_comesBefore_78 : decode cX1_comesBefore 78 = .ok (.goto 4, 3) := by decide +kernel
theorem dX1_comesBefore_81 : decode cX1_comesBefore 81 = .ok (.iconst 0, 1) := by decide +kernel
theorem dX1_comesBefore_82 : decode cX1_comesBefore 82 = .ok (.ireturn, 1) := by decide +kernel
theorem dX2_init_0 : decode cX2_init 0 = .ok (.aload_n 0, 1) := by decide +kernel
theorem dX2_init_1 : decode cX2_init 1 = .ok (.invokespecial 3, 3) := by decide +kernel
theorem dX2_init_4 : decode cX2_init 4 = .ok (.aload_n 0, 1) := by decide +kernel
theorem dX2_init_5 : decode cX2_init 5 = .ok (.bipush 60, 2) := by decide +kernel
theorem dX2_init_7 : decode cX2_init 7 = .ok (.newarray .char, 2) := by decide +kernel
theorem dX2_init_9 : decode cX2_init 9 = .ok (.putfield 9, 3) := by decide +kernel
theorem dX2_init_12 : decode cX2_init 12 = .ok (.aload_n 0, 1) := by decide +kernel
theorem dX2_init_13 : decode cX2_init 13 = .ok (.bipush 15, 2) := by decide +kernel
theorem dX2_init_15 : decode cX2_init 15 = .ok (.anewarray 15, 3) := by decide +kernel
theorem dX2_init_18 : decode cX2_init 18 = .ok (.putfield 17, 3) := by decide +kernel
theorem dX2_init_21 : decode cX2_init 21 = .ok (.aload_n 0, 1) := by decide +kernel
theorem dX2_init_22 : decode cX2_init 22 = .ok (.bipush 15, 2) := by decide +kernel
theorem dX2_init_24 : decode cX2_init 24 = .ok (.iconst 4, 1) := by decide +kernel
theorem dX2_init_25 : decode cX2_init 25 = .ok (.multianewarray 21 2, 4) := by decide +kernel
theorem dX2_init_29 : decode cX2_init 29 = .ok (.putfield 23, 3) := by decide +kernel
theorem dX2_init_32 : decode cX2_init 32 = .ok (.return_, 1) := by decide +kernel
theorem dX2_append_0 : decode cX2_append 0 = .ok (.aload_n 0, 1) := by decide +kernel
theorem dX2_append_1 : decode cX2_append 1 = .ok (.getfield 9, 3) := by decide +kernel
theorem dX2_append_4 : decode cX2_append 4 = .ok (.aload_n 0, 1) := by decide +kernel
theorem dX2_append_5 : decode cX2_append 5 = .ok (.getfield 26, 3) := by decide +kernel
theorem dX2_append_8 : decode cX2_append 8 = .ok (.iload_n 1, 1) := by decide +kernel
theorem dX2_append_9 : decode cX2_append 9 = .ok (.castore, 1) := by decide +kernel
theorem dX2_append_10 : decode cX2_append 10 = .ok (.aload_n 0, 1) := by decide +kernel
theorem dX2_append_11 : decode cX2_append 11 = .ok (.dup, 1) := by decide +kernel
theorem dX2_append_12 : decode cX2_append 12 = .ok (.getfield 26, 3) := by decide +kernel
theorem dX2_append_15 : decode cX2_append 15 = .ok (.iconst 1, 1) := by decide +kernel
theorem dX2_append_16 : decode cX2_append 16 = .ok (.iadd, 1) := by decide +kernel
theorem dX2_append_17 : decode cX2_append 17 = .ok (.putfield 26, 3) := by decide +kernel
theorem dX2_append_20 : decode cX2_append 20 = .ok (.aload_n 0, 1) := by decide +kernel
theorem dX2_append_21 : decode cX2_append 21 = .ok (.getfield 26, 3) := by decide +kernel
theorem dX2_append_24 : decode cX2_append 24 = .ok (.ireturn, 1) := by decide +kernel
theorem dX2_clear_0 : decode cX2_clear 0 = .ok (.aload_n 0, 1) := by decide +kernel
theorem dX2_clear_1 : decode cX2_clear 1 = .ok (.iconst 0, 1) := by decide +kernel
theorem dX2_clear_2 : decode cX2_clear 2 = .ok (.putfield 26, 3) := by decide +kernel
theorem dX2_clear_5 : decode cX2_clear 5 = .ok (.return_, 1) := by decide +kernel
theorem dX2_parse_0 : decode cX2_parse 0 = .ok (.aload_n 0, 1) := by decide +kernel
theorem dX2_parse_1 : decode cX2_parse 1 = .ok (.iconst 0, 1) := by decide +kernel
theorem dX2_parse_2 : decode cX2_parse 2 = .ok (.putfield 30, 3) := by decide +kernel
theorem dX2_parse_5 : decode cX2_parse 5 = .ok (.aload_n 0, 1) := by decide +kernel
theorem dX2_parse_6 : decode cX2_parse 6 = .ok (.iconst 0, 1) := by decide +kernel
theorem dX2_parse_7 : decode cX2_parse 7 = .ok (.putfield 33, 3) := by decide +kernel
theorem dX2_parse_10 : decode cX2_parse 10 = .ok (.iconst 0, 1) := by decide +kernel
theorem dX2_parse_11 : decode cX2_parse 11 = .ok (.istore_n 1, 1) := by decide +kernel
theorem dX2_parse_12 : decode cX2_parse 12 = .ok (.iload_n 1, 1) := by decide +kernel
theorem dX2_parse_13 : decode cX2_parse 13 = .ok (.bipush 15, 2) := by decide +kernel
theorem dX2_parse_15 : decode cX2_parse 15 = .ok (.if_icmp .ge 50, 3) := by decide +kernel
theorem dX2_parse_18 : decode cX2_parse 18 = .ok (.aload_n 0, 1) := by decide +kernel
theorem dX2_parse_19 : decode cX2_parse 19 = .ok (.invokevirtual 36, 3) := by decide +kernel
theorem dX2_parse_22 : decode cX2_parse 22 = .ok (.ifCond .eq 43, 3) := by decide +kernel
theorem dX2_parse_25 : decode cX2_parse 25 = .ok (.aload_n 0, 1) := by decide +kernel
theorem dX2_parse_26 : decode cX2_parse 26 = .ok (.invokevirtual 40, 3) := by decide +kernel
theorem dX2_parse_29 : decode cX2_parse 29 = .ok (.iconst (-1), 1) := by decide +kernel
theorem dX2_parse_30 : decode cX2_parse 30 = .ok (.if_icmp .ne 5, 3) := by decide +kernel
theorem dX2_parse_33 : decode cX2_parse 33 = .ok (.iconst (-1), 1) := by decide +kernel
theorem dX2_parse_34 : decode cX2_parse 34 = .ok (.ireturn, 1) := by decide +kernel
theorem dX2_parse_35 : decode cX2_parse 35 = .ok (.aload_n 0, 1) := by decide +kernel
theorem dX2_parse_36 : decode cX2_parse 36 = .ok (.invokevirtual 40, 3) := by decide +kernel
theorem dX2_parse_39 : decode cX2_parse 39 = .ok (.bipush 59, 2) := by decide +kernel
theorem dX2_parse_41 : decode cX2_parse 41 = .ok (.if_icmp .eq 8, 3) := by decide +kernel
theorem dX2_parse_44 : decode cX2_parse 44 = .ok (.aload_n 0, 1) := by decide +kernel
theorem dX2_parse_45 : decode cX2_parse 45 = .ok (.getfield 30, 3) := by decide +kernel
theorem dX2_parse_48 : decode cX2_parse 48 = .ok (.ireturn, 1) := by decide +kernel
theorem dX2_parse_49 : decode cX2_parse 49 = .ok (.aload_n 0, 1) := by decide +kernel
theorem dX2_parse_50 : decode cX2_parse 50 = .ok (.dup, 1) := by decide +kernel
theorem dX2_parse_51 : decode cX2_parse 51 = .ok (.getfield 30, 3) := by decide +kernel
theorem dX2_parse_54 : decode cX2_parse 54 = .ok (.iconst 1, 1) := by decide +kernel
theorem dX2_parse_55 : decode cX2_parse 55 = .ok (.iadd, 1) := by decide +kernel
theorem dX2_parse_56 : decode cX2_parse 56 = .ok (.putfield 30, 3) := by decide +kernel
theorem dX2_parse_59 : decode cX2_parse 59 = .ok (.iinc 1 1, 3) := by decide +kernel
theorem dX2_parse_62 : decode cX2_parse 62 = .ok (.goto (-50), 3) := by decide +kernel
theorem dX2_parse_65 : decode cX2_parse 65 = .ok (.aload_n 0, 1) := by decide +kernel
theorem dX2_parse_66 : decode cX2_parse 66 = .ok (.getfield 30, 3) := by decide +kernel
theorem dX2_parse_69 : decode cX2_parse 69 = .ok (.ireturn, 1) := by decide +kernel
theorem dX2_peek_0 : decode cX2_peek 0 = .ok (.aload_n 0, 1) := by decide +kernel
theorem dX2_peek_1 : decode cX2_peek 1 = .ok (.getfield 30, 3) := by decide +kernel
theorem dX2_peek_4 : decode cX2_peek 4 = .ok (.aload_n 0, 1) := by decide +kernel
theorem dX2_peek_5 : decode cX2_peek 5 = .ok (.getfield 26, 3) := by decide +kernel
theorem dX2_peek_8 : decode cX2_peek 8 = .ok (.if_icmp .ge 15, 3) := by decide +kernel
theorem dX2_peek_11 : decode cX2_peek 11 = .ok (.aload_n 0, 1) := by decide +kernel
theorem dX2_peek_12 : decode cX2_peek 12 = .ok (.getfield 9, 3) := by decide +kernel
theorem dX2_peek_15 : decode cX2_peek 15 = .ok (.aload_n 0, 1) := by decide +kernel
theorem dX2_peek_16 : decode cX2_peek 16 = .ok (.getfield 30, 3) := by decide +kernel
theorem dX2_peek_19 : decode cX2_peek 19 = .ok (.caload, 1) := by decide +kernel
theorem dX2_peek_20 : decode cX2_peek 20 = .ok (.goto 4, 3) := by decide +kernel
theorem dX2_peek_23 : decode cX2_peek 23 = .ok (.iconst (-1), 1) := by decide +kernel
theorem dX2_peek_24 : decode cX2_peek 24 = .ok (.ireturn, 1) := by decide +kernel
theorem dX2_readCommand_0 : decode cX2_readCommand 0 = .ok (.aload_n 0, 1) := by decide +kernel
theorem dX2_readCommand_1 : decode cX2_readCommand 1 = .ok (.invokevirtual 44, 3) := by decide +kernel
theorem dX2_readCommand_4 : decode cX2_readCommand 4 = .ok (.astore_n 1, 1) := by decide +kernel
theorem dX2_readCommand_5 : decode cX2_readCommand 5 = .ok (.aload_n 1, 1) := by decide +kernel
theorem dX2_readCommand_6 : decode cX2_readCommand 6 = .ok (.ifnonnull 5, 3) := by decide +kernel
theorem dX2_readCommand_9 : decode cX2_readCommand 9 = .ok (.iconst 0, 1) := by decide +kernel
theorem dX2_readCommand_10 : decode cX2_readCommand 10 = .ok (.ireturn, 1) := by decide +kernel
theorem dX2_readCommand_11 : decode cX2_readCommand 11 = .ok (.aload_n 0, 1) := by decide +kernel
theorem dX2_readCommand_12 : decode cX2_readCommand 12 = .ok (.getfield 17, 3) := by decide +kernel
theorem dX2_readCommand_15 : decode cX2_readCommand 15 = .ok (.aload_n 0, 1) := by decide +kernel
theorem dX2_readCommand_16 : decode cX2_readCommand 16 = .ok (.getfield 33, 3) := by decide +kernel
theorem dX2_readCommand_19 : decode cX2_readCommand 19 = .ok (.aload_n 1, 1) := by decide +kernel
theorem dX2_readCommand_20 : decode cX2_readCommand 20 = .ok (.aastore, 1) := by decide +kernel
theorem dX2_readCommand_21 : decode cX2_readCommand 21 = .ok (.aload_n 0, 1) := by decide +kernel
theorem dX2_readCommand_22 : decode cX2_readCommand 22 = .ok (.iconst 0, 1) := by decide +kernel
theorem dX2_readCommand_23 : decode cX2_readCommand 23 = .ok (.putfield 48, 3) := by decide +kernel
theorem dX2_readCommand_26 : decode cX2_readCommand 26 = .ok (.aload_n 0, 1) := by decide +kernel
theorem dX2_readCommand_27 : decode cX2_readCommand 27 = .ok (.aload_n 1, 1) := by decide +kernel
theorem dX2_readCommand_28 : decode cX2_readCommand 28 = .ok (.getfield 51, 3) := by decide +kernel
theorem dX2_readCommand_31 : decode cX2_readCommand 31 = .ok (.invokevirtual 55, 3) := by decide +kernel
theorem dX2_readCommand_34 : decode cX2_readCommand 34 = .ok (.ifCond .ne 5, 3) := by decide +kernel
theorem dX2_readCommand_37 : decode cX2_readCommand 37 = .ok (.iconst 0, 1) := by decide +kernel
theorem dX2_readCommand_38 : decode cX2_readCommand 38 = .ok (.ireturn, 1) := by decide +kernel
theorem dX2_readCommand_39 : decode cX2_readCommand 39 = .ok (.aload_n 0, 1) := by decide +kernel
theorem dX2_readCommand_40 : decode cX2_readCommand 40 = .ok (.dup, 1) := by decide +kernel
theorem dX2_readCommand_41 : decode cX2_readCommand 41 = .ok (.getfield 33, 3) := by decide +kernel
theorem dX2_readCommand_44 : decode cX2_readCommand 44 = .ok (.iconst 1, 1) := by decide +kernel
theorem dX2_readCommand_45 : decode cX2_readCommand 45 = .ok (.iadd, 1) := by decide +kernel
theorem dX2_readCommand_46 : decode cX2_readCommand 46 = .ok (.putfield 33, 3) := by decide +kernel
theorem dX2_readCommand_49 : decode cX2_readCommand 49 = .ok (.iconst 1, 1) := by decide +kernel
theorem dX2_readCommand_50 : decode cX2_readCommand 50 = .ok (.ireturn, 1) := by decide +kernel
theorem dX2_readWord_0 : decode cX2_readWord 0 = .ok (.iconst 0, 1) := by decide +kernel
theorem dX2_readWord_1 : decode cX2_readWord 1 = .ok (.istore_n 1, 1) := by decide +kernel
theorem dX2_readWord_2 : decode cX2_readWord 2 = .ok (.getstatic 59, 3) := by decide +kernel
theorem dX2_readWord_5 : decode cX2_readWord 5 = .ok (.astore_n 2, 1) := by decide +kernel
theorem dX2_readWord_6 : decode cX2_readWord 6 = .ok (.aload_n 2, 1) := by decide +kernel
theorem dX2_readWord_7 : decode cX2_readWord 7 = .ok (.arraylength, 1) := by decide +kernel
theorem dX2_readWord_8 : decode cX2_readWord 8 = .ok (.istore_n 3, 1) := by decide +kernel
theorem dX2_readWord_9 : decode cX2_readWord 9 = .ok (.iconst 0, 1) := by decide +kernel
theorem dX2_readWord_10 : decode cX2_readWord 10 = .ok (.istore 4, 2) := by decide +kernel
theorem dX2_readWord_12 : decode cX2_readWord 12 = .ok (.iload 4, 2) := by decide +kernel
theorem dX2_readWord_14 : decode cX2_readWord 14 = .ok (.iload_n 3, 1) := by decide +kernel
theorem dX2_readWord_15 : decode cX2_readWord 15 = .ok (.if_icmp .ge 60, 3) := by decide +kernel
theorem dX2_readWord_18 : decode cX2_readWord 18 = .ok (.aload_n 2, 1) := by decide +kernel
theorem dX2_readWord_19 : decode cX2_readWord 19 = .ok (.iload 4, 2) := by decide +kernel
theorem dX2_readWord_21 : decode cX2_readWord 21 = .ok (.aaload, 1) := by decide +kernel
theorem dX2_readWord_22 : decode cX2_readWord 22 = .ok (.astore 5, 2) := by decide +kernel
theorem dX2_readWord_24 : decode cX2_readWord 24 = .ok (.aload_n 0, 1) := by decide +kernel
theorem dX2_readWord_25 : decode cX2_readWord 25 = .ok (.aload 5, 2) := by decide +kernel
theorem dX2_readWord_27 : decode cX2_readWord 27 = .ok (.getfield 62, 3) := by decide +kernel
theorem dX2_readWord_30 : decode cX2_readWord 30 = .ok (.invokevirtual 65, 3) := by decide +kernel
theorem dX2_readWord_33 : decode cX2_readWord 33 = .ok (.istore 6, 2) := by decide +kernel
theorem dX2_readWord_35 : decode cX2_readWord 35 = .ok (.iload 6, 2) := by decide +kernel
theorem dX2_readWord_37 : decode cX2_readWord 37 = .ok (.aload 5, 2) := by decide +kernel
theorem dX2_readWord_39 : decode cX2_readWord 39 = .ok (.getfield 62, 3) := by decide +kernel
theorem dX2_readWord_42 : decode cX2_readWord 42 = .ok (.invokevirtual 69, 3) := by decide +kernel
theorem dX2_readWord_45 : decode cX2_readWord 45 = .ok (.if_icmp .ne 17, 3) := by decide +kernel
theorem dX2_readWord_48 : decode cX2_readWord 48 = .ok (.aload_n 0, 1) := by decide +kernel
theorem dX2_readWord_49 : decode cX2_readWord 49 = .ok (.dup, 1) := by decide +kernel
theorem dX2_readWord_50 : decode cX2_readWord 50 = .ok (.getfield 30, 3) := by decide +kernel
theorem dX2_readWord_53 : decode cX2_readWord 53 = .ok (.iload 6, 2) := by decide +kernel
theorem dX2_readWord_55 : decode cX2_readWord 55 = .ok (.iadd, 1) := by decide +kernel
theorem dX2_readWord_56 : decode cX2_readWord 56 = .ok (.putfield 30, 3) := by decide +kernel
theorem dX2_readWord_59 : decode cX2_readWord 59 = .ok (.aload 5, 2) := by decide +kernel
theorem dX2_readWord_61 : decode cX2_readWord 61 = .ok (.areturn, 1) := by decide +kernel
theorem dX2_readWord_62 : decode cX2_readWord 62 = .ok (.iload_n 1, 1) := by decide +kernel
theorem dX2_readWord_63 : decode cX2_readWord 63 = .ok (.iload 6, 2) := by decide +kernel
theorem dX2_readWord_65 : decode cX2_readWord 65 = .ok (.invokestatic 73, 3) := by decide +kernel
theorem dX2_readWord_68 : decode cX2_readWord 68 = .ok (.istore_n 1, 1) := by decide +kernel
theorem dX2_readWord_69 : decode cX2_readWord 69 = .ok (.iinc 4 1, 3) := by decide +kernel
theorem dX2_readWord_72 : decode cX2_readWord 72 = .ok (.goto (-60), 3) := by decide +kernel
theorem dX2_readWord_75 : decode cX2_readWord 75 = .ok (.aload_n 0, 1) := by decide +kernel
theorem dX2_readWord_76 : decode cX2_readWord 76 = .ok (.dup, 1) := by decide +kernel
theorem dX2_readWord_77 : decode cX2_readWord 77 = .ok (.getfield 30, 3) := by decide +kernel
theorem dX2_readWord_80 : decode cX2_readWord 80 = .ok (.iload_n 1, 1) := by decide +kernel
theorem dX2_readWord_81 : decode cX2_readWord 81 = .ok (.iadd, 1) := by decide +kernel
theorem dX2_readWord_82 : decode cX2_readWord 82 = .ok (.putfield 30, 3) := by decide +kernel
theorem dX2_readWord_85 : decode cX2_readWord 85 = .ok (.aconst_null, 1) := by decide +kernel
theorem dX2_readWord_86 : decode cX2_readWord 86 = .ok (.areturn, 1) := by decide +kernel
theorem dX2_matchingLetters_0 : decode cX2_matchingLetters 0 = .ok (.iconst 0, 1) := by decide +kernel
theorem dX2_matchingLetters_1 : decode cX2_matchingLetters 1 = .ok (.istore_n 2, 1) := by decide +kernel
theorem dX2_matchingLetters_2 : decode cX2_matchingLetters 2 = .ok (.iload_n 2, 1) := by decide +kernel
theorem dX2_matchingLetters_3 : decode cX2_matchingLetters 3 = .ok (.aload_n 1, 1) := by decide +kernel
theorem dX2_matchingLetters_4 : decode cX2_matchingLetters 4 = .ok (.invokevirtual 69, 3) := by decide +kernel
theorem dX2_matchingLetters_7 : decode cX2_matchingLetters 7 = .ok (.if_icmp .ge 41, 3) := by decide +kernel
theorem dX2_matchingLetters_10 : decode cX2_matchingLetters 10 = .ok (.aload_n 0, 1) := by decide +kernel
theorem dX2_matchingLetters_11 : decode cX2_matchingLetters 11 = .ok (.getfield 30, 3) := by decide +kernel
theorem dX2_matchingLetters_14 : decode cX2_matchingLetters 14 = .ok (.iload_n 2, 1) := by decide +kernel
theorem dX2_matchingLetters_15 : decode cX2_matchingLetters 15 = .ok (.iadd, 1) := by decide +kernel
theorem dX2_matchingLetters_16 : decode cX2_matchingLetters 16 = .ok (.aload_n 0, 1) := by decide +kernel
theorem dX2_matchingLetters_17 : decode cX2_matchingLetters 17 = .ok (.getfield 26, 3) := by decide +kernel
theorem dX2_matchingLetters_20 : decode cX2_matchingLetters 20 = .ok (.if_icmp .ge 28, 3) := by decide +kernel
theorem dX2_matchingLetters_23 : decode cX2_matchingLetters 23 = .ok (.aload_n 0, 1) := by decide +kernel
theorem dX2_matchingLetters_24 : decode cX2_matchingLetters 24 = .ok (.getfield 9, 3) := by decide +kernel
theorem dX2_matchingLetters_27 : decode cX2_matchingLetters 27 = .ok (.aload_n 0, 1) := by decide +kernel
theorem dX2_matchingLetters_28 : decode cX2_matchingLetters 28 = .ok (.getfield 30, 3) := by decide +kernel
theorem dX2_matchingLetters_31 : decode cX2_matchingLetters 31 = .ok (.iload_n 2, 1) := by decide +kernel
theorem dX2_matchingLetters_32 : decode cX2_matchingLetters 32 = .ok (.iadd, 1) := by decide +kernel
theorem dX2_matchingLetters_33 : decode cX2_matchingLetters 33 = .ok (.caload, 1) := by decide +kernel
theorem dX2_matchingLetters_34 : decode cX2_matchingLetters 34 = .ok (.aload_n 1, 1) := by decide +kernel
theorem dX2_matchingLetters_35 : decode cX2_matchingLetters 35 = .ok (.iload_n 2, 1) := by decide +kernel
theorem dX2_matchingLetters_36 : decode cX2_matchingLetters 36 = .ok (.invokevirtual 79, 3) := by decide +kernel
theorem dX2_matchingLetters_39 : decode cX2_matchingLetters 39 = .ok (.if_icmp .ne 9, 3) := by decide +kernel
theorem dX2_matchingLetters_42 : decode cX2_matchingLetters 42 = .ok (.iinc 2 1, 3) := by decide +kernel
theorem dX2_matchingLetters_45 : decode cX2_matchingLetters 45 = .ok (.goto (-43), 3) := by decide +kernel
theorem dX2_matchingLetters_48 : decode cX2_matchingLetters 48 = .ok (.iload_n 2, 1) := by decide +kernel
theorem dX2_matchingLetters_49 : decode cX2_matchingLetters 49 = .ok (.ireturn, 1) := by decide +kernel
theorem dX2_readForm_0 : decode cX2_readForm 0 = .ok (.iconst 0, 1) := by decide +kernel
theorem dX2_readForm_1 : decode cX2_readForm 1 = .ok (.istore_n 2, 1) := by decide +kernel
theorem dX2_readForm_2 : decode cX2_readForm 2 = .ok (.iload_n 2, 1) := by decide +kernel
theorem dX2_readForm_3 : decode cX2_readForm 3 = .ok (.aload_n 1, 1) := by decide +kernel
theorem dX2_readForm_4 : decode cX2_readForm 4 = .ok (.invokevirtual 69, 3) := by decide +kernel
theorem dX2_readForm_7 : decode cX2_readForm 7 = .ok (.if_icmp .ge 47, 3) := by decide +kernel
theorem dX2_readForm_10 : decode cX2_readForm 10 = .ok (.aload_n 1, 1) := by decide +kernel
theorem dX2_readForm_11 : decode cX2_readForm 11 = .ok (.iload_n 2, 1) := by decide +kernel
theorem dX2_readForm_12 : decode cX2_readForm 12 = .ok (.invokevirtual 79, 3) := by decide +kernel
theorem dX2_readForm_15 : decode cX2_readForm 15 = .ok (.istore_n 3, 1) := by decide +kernel
theorem dX2_readForm_16 : decode cX2_readForm 16 = .ok (.iload_n 3, 1) := by decide +kernel
theorem dX2_readForm_17 : decode cX2_readForm 17 = .ok (.bipush 63, 2) := by decide +kernel
theorem dX2_readForm_19 : decode cX2_readForm 19 = .ok (.if_icmp .ne 19, 3) := by decide +kernel
theorem dX2_readForm_22 : decode cX2_readForm 22 = .ok (.aload_n 0, 1) := by decide +kernel
theorem dX2_readForm_23 : decode cX2_readForm 23 = .ok (.invokevirtual 40, 3) := by decide +kernel
theorem dX2_readForm_26 : decode cX2_readForm 26 = .ok (.bipush 32, 2) := by decide +kernel
theorem dX2_readForm_28 : decode cX2_readForm 28 = .ok (.if_icmp .eq 20, 3) := by decide +kernel
theorem dX2_readForm_31 : decode cX2_readForm 31 = .ok (.aload_n 0, 1) := by decide +kernel
theorem dX2_readForm_32 : decode cX2_readForm 32 = .ok (.iconst 1, 1) := by decide +kernel
theorem dX2_readForm_33 : decode cX2_readForm 33 = .ok (.invokevirtual 83, 3) := by decide +kernel
theorem dX2_readForm_36 : decode cX2_readForm 36 = .ok (.iconst 1, 1) := by decide +kernel
theorem dX2_readForm_37 : decode cX2_readForm 37 = .ok (.ireturn, 1) := by decide +kernel
theorem dX2_readForm_38 : decode cX2_readForm 38 = .ok (.aload_n 0, 1) := by decide +kernel
theorem dX2_readForm_39 : decode cX2_readForm 39 = .ok (.iload_n 3, 1) := by decide +kernel
theorem dX2_readForm_40 : decode cX2_readForm 40 = .ok (.invokevirtual 87, 3) := by decide +kernel
theorem dX2_readForm_43 : decode cX2_readForm 43 = .ok (.ifCond .ne 5, 3) := by decide +kernel
theorem dX2_readForm_46 : decode cX2_readForm 46 = .ok (.iconst 0, 1) := by decide +kernel
theorem dX2_readForm_47 : decode cX2_readForm 47 = .ok (.ireturn, 1) := by decide +kernel
theorem dX2_readForm_48 : decode cX2_readForm 48 = .ok (.iinc 2 1, 3) := by decide +kernel
theorem dX2_readForm_51 : decode cX2_readForm 51 = .ok (.goto (-49), 3) := by decide +kernel
theorem dX2_readForm_54 : decode cX2_readForm 54 = .ok (.iconst 1, 1) := by decide +kernel
theorem dX2_readForm_55 : decode cX2_readForm 55 = .ok (.ireturn, 1) := by decide +kernel
theorem dX2_readPart_0 : decode cX2_readPart 0 = .ok (.iload_n 1, 1) := by decide +kernel
theorem dX2_readPart_1 : decode cX2_readPart 1 = .ok (.bipush 100, 2) := by decide +kernel
theorem dX2_readPart_3 : decode cX2_readPart 3 = .ok (.if_icmp .ne 9, 3) := by decide +kernel
theorem dX2_readPart_6 : decode cX2_readPart 6 = .ok (.aload_n 0, 1) := by decide +kernel
theorem dX2_readPart_7 : decode cX2_readPart 7 = .ok (.iconst 1, 1) := by decide +kernel
theorem dX2_readPart_8 : decode cX2_readPart 8 = .ok (.invokevirtual 91, 3) := by decide +kernel
theorem dX2_readPart_11 : decode cX2_readPart 11 = .ok (.ireturn, 1) := by decide +kernel
theorem dX2_readPart_12 : decode cX2_readPart 12 = .ok (.iload_n 1, 1) := by decide +kernel
theorem dX2_readPart_13 : decode cX2_readPart 13 = .ok (.bipush 110, 2) := by decide +kernel
theorem dX2_readPart_15 : decode cX2_readPart 15 = .ok (.if_icmp .ne 9, 3) := by decide +kernel
theorem dX2_readPart_18 : decode cX2_readPart 18 = .ok (.aload_n 0, 1) := by decide +kernel
theorem dX2_readPart_19 : decode cX2_readPart 19 = .ok (.iconst 2, 1) := by decide +kernel
theorem dX2_readPart_20 : decode cX2_readPart 20 = .ok (.invokevirtual 91, 3) := by decide +kernel
theorem dX2_readPart_23 : decode cX2_readPart 23 = .ok (.ireturn, 1) := by decide +kernel
theorem dX2_readPart_24 : decode cX2_readPart 24 = .ok (.iload_n 1, 1) := by decide +kernel
theorem dX2_readPart_25 : decode cX2_readPart 25 = .ok (.bipush 115, 2) := by decide +kernel
theorem dX2_readPart_27 : decode cX2_readPart 27 = .ok (.if_icmp .ne 10, 3) := by decide +kernel
theorem dX2_readPart_30 : decode cX2_readPart 30 = .ok (.aload_n 0, 1) := by decide +kernel
theorem dX2_readPart_31 : decode cX2_readPart 31 = .ok (.invokevirtual 95, 3) := by decide +kernel
theorem dX2_readPart_34 : decode cX2_readPart 34 = .ok (.goto 7, 3) := by decide +kernel
theorem dX2_readPart_37 : decode cX2_readPart 37 = .ok (.aload_n 0, 1) := by decide +kernel
theorem dX2_readPart_38 : decode cX2_readPart 38 = .ok (.invokevirtual 98, 3) := by decide +kernel
theorem dX2_readPart_41 : decode cX2_readPart 41 = .ok (.ireturn, 1) := by decide +kernel
theorem dX2_readBlank_0 : decode cX2_readBlank 0 = .ok (.aload_n 0, 1) := by decide +kernel
theorem dX2_readBlank_1 : decode cX2_readBlank 1 = .ok (.invokevirtual 40, 3) := by decide +kernel
theorem dX2_readBlank_4 : decode cX2_readBlank 4 = .ok (.bipush 32, 2) := by decide +kernel
theorem dX2_readBlank_6 : decode cX2_readBlank 6 = .ok (.if_icmp .eq 5, 3) := by decide +kernel
theorem dX2_readBlank_9 : decode cX2_readBlank 9 = .ok (.iconst 0, 1) := by decide +kernel
theorem dX2_readBlank_10 : decode cX2_readBlank 10 = .ok (.ireturn, 1) := by decide +kernel
theorem dX2_readBlank_11 : decode cX2_readBlank 11 = .ok (.aload_n 0, 1) := by decide +kernel
theorem dX2_readBlank_12 : decode cX2_readBlank 12 = .ok (.dup, 1) := by decide +kernel
theorem dX2_readBlank_13 : decode cX2_readBlank 13 = .ok (.getfield 30, 3) := by decide +kernel
theorem dX2_readBlank_16 : decode cX2_readBlank 16 = .ok (.iconst 1, 1) := by decide +kernel
theorem dX2_readBlank_17 : decode cX2_readBlank 17 = .ok (.iadd, 1) := by decide +kernel
theorem dX2_readBlank_18 : decode cX2_readBlank 18 = .ok (.putfield 30, 3) := by decide +kernel
theorem dX2_readBlank_21 : decode cX2_readBlank 21 = .ok (.iconst 1, 1) := by decide +kernel
theorem dX2_readBlank_22 : decode cX2_readBlank 22 = .ok (.ireturn, 1) := by decide +kernel
theorem dX2_readDirection_0 : decode cX2_readDirection 0 = .ok (.aload_n 0, 1) := by decide +kernel
theorem dX2_readDirection_1 : decode cX2_readDirection 1 = .ok (.invokevirtual 40, 3) := by decide +kernel
theorem dX2_readDirection_4 : decode cX2_readDirection 4 = .ok (.istore_n 1, 1) := by decide +kernel
theorem dX2_readDirection_5 : decode cX2_readDirection 5 = .ok (.iload_n 1, 1) := by decide +kernel
theorem dX2_readDirection_6 : decode cX2_readDirection 6 = .ok (.bipush 43, 2) := by decide +kernel
theorem dX2_readDirection_8 : decode cX2_readDirection 8 = .ok (.if_icmp .eq 11, 3) := by decide +kernel
theorem dX2_readDirection_11 : decode cX2_readDirection 11 = .ok (.iload_n 1, 1) := by decide +kernel
theorem dX2_readDirection_12 : decode cX2_readDirection 12 = .ok (.bipush 45, 2) := by decide +kernel
theorem dX2_readDirection_14 : decode cX2_readDirection 14 = .ok (.if_icmp .eq 5, 3) := by decide +kernel
theorem dX2_readDirection_17 : decode cX2_readDirection 17 = .ok (.iconst 0, 1) := by decide +kernel
theorem dX2_readDirection_18 : decode cX2_readDirection 18 = .ok (.ireturn, 1) := by decide +kernel
theorem dX2_readDirection_19 : decode cX2_readDirection 19 = .ok (.aload_n 0, 1) := by decide +kernel
theorem dX2_readDirection_20 : decode cX2_readDirection 20 = .ok (.dup, 1) := by decide +kernel
theorem dX2_readDirection_21 : decode cX2_readDirection 21 = .ok (.getfield 30, 3) := by decide +kernel
theorem dX2_readDirection_24 : decode cX2_readDirection 24 = .ok (.iconst 1, 1) := by decide +kernel
theorem dX2_readDirection_25 : decode cX2_readDirection 25 = .ok (.iadd, 1) := by decide +kernel
theorem dX2_readDirection_26 : decode cX2_readDirection 26 = .ok (.putfield 30, 3) := by decide +kernel
theorem dX2_readDirection_29 : decode cX2_readDirection 29 = .ok (.aload_n 0, 1) := by decide +kernel
theorem dX2_readDirection_30 : decode cX2_readDirection 30 = .ok (.iload_n 1, 1) := by decide +kernel
theorem dX2_readDirection_31 : decode cX2_readDirection 31 = .ok (.bipush 43, 2) := by decide +kernel
theorem dX2_readDirection_33 : decode cX2_readDirection 33 = .ok (.if_icmp .ne 7, 3) := by decide +kernel
theorem dX2_readDirection_36 : decode cX2_readDirection 36 = .ok (.iconst 1, 1) := by decide +kernel
theorem dX2_readDirection_37 : decode cX2_readDirection 37 = .ok (.goto 4, 3) := by decide +kernel
theorem dX2_readDirection_40 : decode cX2_readDirection 40 = .ok (.iconst 0, 1) := by decide +kernel
theorem dX2_readDirection_41 : decode cX2_readDirection 41 = .ok (.invokevirtual 83, 3) := by decide +kernel
theorem dX2_readDirection_44 : decode cX2_readDirection 44 = .ok (.iconst 1, 1) := by decide +kernel
theorem dX2_readDirection_45 : decode cX2_readDirection 45 = .ok (.ireturn, 1) := by decide +kernel
theorem dX2_readNumber_0 : decode cX2_readNumber 0 = .ok (.iconst 0, 1) := by decide +kernel
theorem dX2_readNumber_1 : decode cX2_readNumber 1 = .ok (.istore_n 2, 1) := by decide +kernel
theorem dX2_readNumber_2 : decode cX2_readNumber 2 = .ok (.iconst 0, 1) := by decide +kernel
theorem dX2_readNumber_3 : decode cX2_readNumber 3 = .ok (.istore_n 3, 1) := by decide +kernel
theorem dX2_readNumber_4 : decode cX2_readNumber 4 = .ok (.iload_n 2, 1) := by decide +kernel
theorem dX2_readNumber_5 : decode cX2_readNumber 5 = .ok (.iload_n 1, 1) := by decide +kernel
theorem dX2_readNumber_6 : decode cX2_readNumber 6 = .ok (.if_icmp .ge 50, 3) := by decide +kernel
theorem dX2_readNumber_9 : decode cX2_readNumber 9 = .ok (.aload_n 0, 1) := by decide +kernel
theorem dX2_readNumber_10 : decode cX2_readNumber 10 = .ok (.invokevirtual 40, 3) := by decide +kernel
theorem dX2_readNumber_13 : decode cX2_readNumber 13 = .ok (.bipush 48, 2) := by decide +kernel
theorem dX2_readNumber_15 : decode cX2_readNumber 15 = .ok (.if_icmp .lt 41, 3) := by decide +kernel
theorem dX2_readNumber_18 : decode cX2_readNumber 18 = .ok (.aload_n 0, 1) := by decide +kernel
theorem dX2_readNumber_19 : decode cX2_readNumber 19 = .ok (.invokevirtual 40, 3) := by decide +kernel
theorem dX2_readNumber_22 : decode cX2_readNumber 22 = .ok (.bipush 57, 2) := by decide +kernel
theorem dX2_readNumber_24 : decode cX2_readNumber 24 = .ok (.if_icmp .gt 32, 3) := by decide +kernel
theorem dX2_readNumber_27 : decode cX2_readNumber 27 = .ok (.iload_n 3, 1) := by decide +kernel
theorem dX2_readNumber_28 : decode cX2_readNumber 28 = .ok (.bipush 10, 2) := by decide +kernel
theorem dX2_readNumber_30 : decode cX2_readNumber 30 = .ok (.imul, 1) := by decide +kernel
theorem dX2_readNumber_31 : decode cX2_readNumber 31 = .ok (.aload_n 0, 1) := by decide +kernel
theorem dX2_readNumber_32 : decode cX2_readNumber 32 = .ok (.invokevirtual 40, 3) := by decide +kernel
theorem dX2_readNumber_35 : decode cX2_readNumber 35 = .ok (.iadd, 1) := by decide +kernel
theorem dX2_readNumber_36 : decode cX2_readNumber 36 = .ok (.bipush 48, 2) := by decide +kernel
theorem dX2_readNumber_38 : decode cX2_readNumber 38 = .ok (.isub, 1) := by decide +kernel
theorem dX2_readNumber_39 : decode cX2_readNumber 39 = .ok (.istore_n 3, 1) := by decide +kernel
theorem dX2_readNumber_40 : decode cX2_readNumber 40 = .ok (.iinc 2 1, 3) := by decide +kernel
theorem dX2_readNumber_43 : decode cX2_readNumber 43 = .ok (.aload_n 0, 1) := by decide +kernel
theorem dX2_readNumber_44 : decode cX2_readNumber 44 = .ok (.dup, 1) := by decide +kernel
theorem dX2_readNumber_45 : decode cX2_readNumber 45 = .ok (.getfield 30, 3) := by decide +kernel
theorem dX2_readNumber_48 : decode cX2_readNumber 48 = .ok (.iconst 1, 1) := by decide +kernel
theorem dX2_readNumber_49 : decode cX2_readNumber 49 = .ok (.iadd, 1) := by decide +kernel
theorem dX2_readNumber_50 : decode cX2_readNumber 50 = .ok (.putfield 30, 3) := by decide +kernel
theorem dX2_readNumber_53 : decode cX2_readNumber 53 = .ok (.goto (-49), 3) := by decide +kernel
theorem dX2_readNumber_56 : decode cX2_readNumber 56 = .ok (.iload_n 2, 1) := by decide +kernel
theorem dX2_readNumber_57 : decode cX2_readNumber 57 = .ok (.ifCond .ne 5, 3) := by decide +kernel
theorem dX2_readNumber_60 : decode cX2_readNumber 60 = .ok (.iconst 0, 1) := by decide +kernel
theorem dX2_readNumber_61 : decode cX2_readNumber 61 = .ok (.ireturn, 1) := by decide +kernel
theorem dX2_readNumber_62 : decode cX2_readNumber 62 = .ok (.aload_n 0, 1) := by decide +kernel
theorem dX2_readNumber_63 : decode cX2_readNumber 63 = .ok (.iload_n 3, 1) := by decide +kernel
theorem dX2_readNumber_64 : decode cX2_readNumber 64 = .ok (.invokevirtual 83, 3) := by decide +kernel
theorem dX2_readNumber_67 : decode cX2_readNumber 67 = .ok (.iconst 1, 1) := by decide +kernel
theorem dX2_readNumber_68 : decode cX2_readNumber 68 = .ok (.ireturn, 1) := by decide +kernel
theorem dX2_addNumber_0 : decode cX2_addNumber 0 = .ok (.aload_n 0, 1) := by decide +kernel
theorem dX2_addNumber_1 : decode cX2_addNumber 1 = .ok (.getfield 48, 3) := by decide +kernel
theorem dX2_addNumber_4 : decode cX2_addNumber 4 = .ok (.iconst 4, 1) := by decide +kernel
theorem dX2_addNumber_5 : decode cX2_addNumber 5 = .ok (.if_icmp .ge 28, 3) := by decide +kernel
theorem dX2_addNumber_8 : decode cX2_addNumber 8 = .ok (.aload_n 0, 1) := by decide +kernel
theorem dX2_addNumber_9 : decode cX2_addNumber 9 = .ok (.getfield 23, 3) := by decide +kernel
theorem dX2_addNumber_12 : decode cX2_addNumber 12 = .ok (.aload_n 0, 1) := by decide +kernel
theorem dX2_addNumber_13 : decode cX2_addNumber 13 = .ok (.getfield 33, 3) := by decide +kernel
theorem dX2_addNumber_16 : decode cX2_addNumber 16 = .ok (.aaload, 1) := by decide +kernel
theorem dX2_addNumber_17 : decode cX2_addNumber 17 = .ok (.aload_n 0, 1) := by decide +kernel
theorem dX2_addNumber_18 : decode cX2_addNumber 18 = .ok (.getfield 48, 3) := by decide +kernel
theorem dX2_addNumber_21 : decode cX2_addNumber 21 = .ok (.iload_n 1, 1) := by decide +kernel
theorem dX2_addNumber_22 : decode cX2_addNumber 22 = .ok (.iastore, 1) := by decide +kernel
theorem dX2_addNumber_23 : decode cX2_addNumber 23 = .ok (.aload_n 0, 1) := by decide +kernel
theorem dX2_addNumber_24 : decode cX2_addNumber 24 = .ok (.dup, 1) := by decide +kernel
theorem dX2_addNumber_25 : decode cX2_addNumber 25 = .ok (.getfield 48, 3) := by decide +kernel
theorem dX2_addNumber_28 : decode cX2_addNumber 28 = .ok (.iconst 1, 1) := by decide +kernel
theorem dX2_addNumber_29 : decode cX2_addNumber 29 = .ok (.iadd, 1) := by decide +kernel
theorem dX2_addNumber_30 : decode cX2_addNumber 30 = .ok (.putfield 48, 3) := by decide +kernel
theorem dX2_addNumber_33 : decode cX2_addNumber 33 = .ok (.return_, 1) := by decide +kernel
theorem dX3_init_0 : decode cX3_init 0 = .ok (.aload_n 0, 1) := by decide +kernel
theorem dX3_init_1 : decode cX3_init 1 = .ok (.invokespecial 3, 3) := by decide +kernel
theorem dX3_init_4 : decode cX3_init 4 = .ok (.return_, 1) := by decide +kernel
theorem dX3_copyFrom_0 : decode cX3_copyFrom 0 = .ok (.aload_n 0, 1) := by decide +kernel
theorem dX3_copyFrom_1 : decode cX3_copyFrom 1 = .ok (.aload_n 1, 1) := by decide +kernel
theorem dX3_copyFrom_2 : decode cX3_copyFrom 2 = .ok (.getfield 9, 3) := by decide +kernel
theorem dX3_copyFrom_5 : decode cX3_copyFrom 5 = .ok (.putfield 9, 3) := by decide +kernel
theorem dX3_copyFrom_8 : decode cX3_copyFrom 8 = .ok (.aload_n 0, 1) := by decide +kernel
theorem dX3_copyFrom_9 : decode cX3_copyFrom 9 = .ok (.aload_n 1, 1) := by decide +kernel
theorem dX3_copyFrom_10 : decode cX3_copyFrom 10 = .ok (.getfield 15, 3) := by decide +kernel
theorem dX3_copyFrom_13 : decode cX3_copyFrom 13 = .ok (.putfield 15, 3) := by decide +kernel
theorem dX3_copyFrom_16 : decode cX3_copyFrom 16 = .ok (.aload_n 0, 1) := by decide +kernel
theorem dX3_copyFrom_17 : decode cX3_copyFrom 17 = .ok (.aload_n 1, 1) := by decide +kernel
theorem dX3_copyFrom_18 : decode cX3_copyFrom 18 = .ok (.getfield 19, 3) := by decide +kernel
theorem dX3_copyFrom_21 : decode cX3_copyFrom 21 = .ok (.putfield 19, 3) := by decide +kernel
theorem dX3_copyFrom_24 : decode cX3_copyFrom 24 = .ok (.aload_n 0, 1) := by decide +kernel
theorem dX3_copyFrom_25 : decode cX3_copyFrom 25 = .ok (.aload_n 1, 1) := by decide +kernel
theorem dX3_copyFrom_26 : decode cX3_copyFrom 26 = .ok (.getfield 22, 3) := by decide +kernel
theorem dX3_copyFrom_29 : decode cX3_copyFrom 29 = .ok (.putfield 22, 3) := by decide +kernel
theorem dX3_copyFrom_32 : decode cX3_copyFrom 32 = .ok (.return_, 1) := by decide +kernel
theorem dX3_shutAnew_0 : decode cX3_shutAnew 0 = .ok (.aload_n 0, 1) := by decide +kernel
theorem dX3_shutAnew_1 : decode cX3_shutAnew 1 = .ok (.iconst 0, 1) := by decide +kernel
theorem dX3_shutAnew_2 : decode cX3_shutAnew 2 = .ok (.putfield 9, 3) := by decide +kernel
theorem dX3_shutAnew_5 : decode cX3_shutAnew 5 = .ok (.aload_n 0, 1) := by decide +kernel
theorem dX3_shutAnew_6 : decode cX3_shutAnew 6 = .ok (.iconst 0, 1) := by decide +kernel
theorem dX3_shutAnew_7 : decode cX3_shutAnew 7 = .ok (.putfield 15, 3) := by decide +kernel
theorem dX3_shutAnew_10 : decode cX3_shutAnew 10 = .ok (.aload_n 0, 1) := by decide +kernel
theorem dX3_shutAnew_11 : decode cX3_shutAnew 11 = .ok (.iconst 0, 1) := by decide +kernel
theorem dX3_shutAnew_12 : decode cX3_shutAnew 12 = .ok (.putfield 19, 3) := by decide +kernel
theorem dX3_shutAnew_15 : decode cX3_shutAnew 15 = .ok (.return_, 1) := by decide +kernel
theorem dX3_swingOpen_0 : decode cX3_swingOpen 0 = .ok (.aload_n 0, 1) := by decide +kernel
theorem dX3_swingOpen_1 : decode cX3_swingOpen 1 = .ok (.iconst 1, 1) := by decide +kernel
theorem dX3_swingOpen_2 : decode cX3_swingOpen 2 = .ok (.putfield 9, 3) := by decide +kernel
theorem dX3_swingOpen_5 : decode cX3_swingOpen 5 = .ok (.aload_n 0, 1) := by decide +kernel
theorem dX3_swingOpen_6 : decode cX3_swingOpen 6 = .ok (.iconst 0, 1) := by decide +kernel
theorem dX3_swingOpen_7 : decode cX3_swingOpen 7 = .ok (.putfield 19, 3) := by decide +kernel
theorem dX3_swingOpen_10 : decode cX3_swingOpen 10 = .ok (.aload_n 0, 1) := by decide +kernel
theorem dX3_swingOpen_11 : decode cX3_swingOpen 11 = .ok (.dup, 1) := by decide +kernel
theorem dX3_swingOpen_12 : decode cX3_swingOpen 12 = .ok (.getfield 22, 3) := by decide +kernel
theorem dX3_swingOpen_15 : decode cX3_swingOpen 15 = .ok (.iconst 1, 1) := by decide +kernel
theorem dX3_swingOpen_16 : decode cX3_swingOpen 16 = .ok (.iadd, 1) := by decide +kernel
theorem dX3_swingOpen_17 : decode cX3_swingOpen 17 = .ok (.putfield 22, 3) := by decide +kernel
theorem dX3_swingOpen_20 : decode cX3_swingOpen 20 = .ok (.return_, 1) := by decide +kernel
theorem dX3_countFailure_0 : decode cX3_countFailure 0 = .ok (.aload_n 0, 1) := by decide +kernel
theorem dX3_countFailure_1 : decode cX3_countFailure 1 = .ok (.dup, 1) := by decide +kernel
theorem dX3_countFailure_2 : decode cX3_countFailure 2 = .ok (.getfield 19, 3) := by decide +kernel
theorem dX3_countFailure_5 : decode cX3_countFailure 5 = .ok (.iconst 1, 1) := by decide +kernel
theorem dX3_countFailure_6 : decode cX3_countFailure 6 = .ok (.iadd, 1) := by decide +kernel
theorem dX3_countFailure_7 : decode cX3_countFailure 7 = .ok (.putfield 19, 3) := by decide +kernel
theorem dX3_countFailure_10 : decode cX3_countFailure 10 = .ok (.aload_n 0, 1) := by decide +kernel
theorem dX3_countFailure_11 : decode cX3_countFailure 11 = .ok (.getfield 19, 3) := by decide +kernel
theorem dX3_countFailure_14 : decode cX3_countFailure 14 = .ok (.iconst 3, 1) := by decide +kernel
theorem dX3_countFailure_15 : decode cX3_countFailure 15 = .ok (.if_icmp .ne 14, 3) := by decide +kernel
theorem dX3_countFailure_18 : decode cX3_countFailure 18 = .ok (.aload_n 0, 1) := by decide +kernel
theorem dX3_countFailure_19 : decode cX3_countFailure 19 = .ok (.iconst 0, 1) := by decide +kernel
theorem dX3_countFailure_20 : decode cX3_countFailure 20 = .ok (.putfield 19, 3) := by decide +kernel
theorem dX3_countFailure_23 : decode cX3_countFailure 23 = .ok (.aload_n 0, 1) := by decide +kernel
theorem dX3_countFailure_24 : decode cX3_countFailure 24 = .ok (.bipush 6, 2) := by decide +kernel
theorem dX3_countFailure_26 : decode cX3_countFailure 26 = .ok (.putfield 15, 3) := by decide +kernel
theorem dX3_countFailure_29 : decode cX3_countFailure 29 = .ok (.return_, 1) := by decide +kernel
theorem dX3_passOneHour_0 : decode cX3_passOneHour 0 = .ok (.aload_n 0, 1) := by decide +kernel
theorem dX3_passOneHour_1 : decode cX3_passOneHour 1 = .ok (.getfield 15, 3) := by decide +kernel
theorem dX3_passOneHour_4 : decode cX3_passOneHour 4 = .ok (.ifCond .le 13, 3) := by decide +kernel
theorem dX3_passOneHour_7 : decode cX3_passOneHour 7 = .ok (.aload_n 0, 1) := by decide +kernel
theorem dX3_passOneHour_8 : decode cX3_passOneHour 8 = .ok (.dup, 1) := by decide +kernel
theorem dX3_passOneHour_9 : decode cX3_passOneHour 9 = .ok (.getfield 15, 3) := by decide +kernel
theorem dX3_passOneHour_12 : decode cX3_passOneHour 12 = .ok (.iconst 1, 1) := by decide +kernel
theorem dX3_passOneHour_13 : decode cX3_passOneHour 13 = .ok (.isub, 1) := by decide +kernel
theorem dX3_passOneHour_14 : decode cX3_passOneHour 14 = .ok (.putfield 15, 3) := by decide +kernel
theorem dX3_passOneHour_17 : decode cX3_passOneHour 17 = .ok (.return_, 1) := by decide +kernel
theorem dX4_init_0 : decode cX4_init 0 = .ok (.aload_n 0, 1) := by decide +kernel
theorem dX4_init_1 : decode cX4_init 1 = .ok (.invokespecial 3, 3) := by decide +kernel
theorem dX4_init_4 : decode cX4_init 4 = .ok (.aload_n 0, 1) := by decide +kernel
theorem dX4_init_5 : decode cX4_init 5 = .ok (.bipush 9, 2) := by decide +kernel
theorem dX4_init_7 : decode cX4_init 7 = .ok (.anewarray 11, 3) := by decide +kernel
theorem dX4_init_10 : decode cX4_init 10 = .ok (.putfield 13, 3) := by decide +kernel
theorem dX4_init_13 : decode cX4_init 13 = .ok (.iconst 0, 1) := by decide +kernel
theorem dX4_init_14 : decode cX4_init 14 = .ok (.istore_n 1, 1) := by decide +kernel
theorem dX4_init_15 : decode cX4_init 15 = .ok (.iload_n 1, 1) := by decide +kernel
theorem dX4_init_16 : decode cX4_init 16 = .ok (.bipush 9, 2) := by decide +kernel
theorem dX4_init_18 : decode cX4_init 18 = .ok (.if_icmp .ge 22, 3) := by decide +kernel
theorem dX4_init_21 : decode cX4_init 21 = .ok (.aload_n 0, 1) := by decide +kernel
theorem dX4_init_22 : decode cX4_init 22 = .ok (.getfield 13, 3) := by decide +kernel
theorem dX4_init_25 : decode cX4_init 25 = .ok (.iload_n 1, 1) := by decide +kernel
theorem dX4_init_26 : decode cX4_init 26 = .ok (.new 11, 3) := by decide +kernel
theorem dX4_init_29 : decode cX4_init 29 = .ok (.dup, 1) := by decide +kernel
theorem dX4_init_30 : decode cX4_init 30 = .ok (.invokespecial 17, 3) := by decide +kernel
theorem dX4_init_33 : decode cX4_init 33 = .ok (.aastore, 1) := by decide +kernel
theorem dX4_init_34 : decode cX4_init 34 = .ok (.iinc 1 1, 3) := by decide +kernel
theorem dX4_init_37 : decode cX4_init 37 = .ok (.goto (-22), 3) := by decide +kernel
theorem dX4_init_40 : decode cX4_init 40 = .ok (.return_, 1) := by decide +kernel
theorem dX4_prepare_0 : decode cX4_prepare 0 = .ok (.aload_n 0, 1) := by decide +kernel
theorem dX4_prepare_1 : decode cX4_prepare 1 = .ok (.getfield 13, 3) := by decide +kernel
theorem dX4_prepare_4 : decode cX4_prepare 4 = .ok (.aload_n 0, 1) := by decide +kernel
theorem dX4_prepare_5 : decode cX4_prepare 5 = .ok (.getfield 18, 3) := by decide +kernel
theorem dX4_prepare_8 : decode cX4_prepare 8 = .ok (.aaload, 1) := by decide +kernel
theorem dX4_prepare_9 : decode cX4_prepare 9 = .ok (.aload_n 1, 1) := by decide +kernel
theorem dX4_prepare_10 : decode cX4_prepare 10 = .ok (.invokevirtual 22, 3) := by decide +kernel
theorem dX4_prepare_13 : decode cX4_prepare 13 = .ok (.return_, 1) := by decide +kernel
theorem dX4_prepared_0 : decode cX4_prepared 0 = .ok (.aload_n 0, 1) := by decide +kernel
theorem dX4_prepared_1 : decode cX4_prepared 1 = .ok (.getfield 13, 3) := by decide +kernel
theorem dX4_prepared_4 : decode cX4_prepared 4 = .ok (.aload_n 0, 1) := by decide +kernel
theorem dX4_prepared_5 : decode cX4_prepared 5 = .ok (.getfield 18, 3) := by decide +kernel
theorem dX4_prepared_8 : decode cX4_prepared 8 = .ok (.aaload, 1) := by decide +kernel
theorem dX4_prepared_9 : decode cX4_prepared 9 = .ok (.areturn, 1) := by decide +kernel
theorem dX4_keep_0 : decode cX4_keep 0 = .ok (.aload_n 0, 1) := by decide +kernel
theorem dX4_keep_1 : decode cX4_keep 1 = .ok (.aload_n 0, 1) := by decide +kernel
theorem dX4_keep_2 : decode cX4_keep 2 = .ok (.getfield 18, 3) := by decide +kernel
theorem dX4_keep_5 : decode cX4_keep 5 = .ok (.iconst 1, 1) := by decide +kernel
theorem dX4_keep_6 : decode cX4_keep 6 = .ok (.iadd, 1) := by decide +kernel
theorem dX4_keep_7 : decode cX4_keep 7 = .ok (.bipush 9, 2) := by decide +kernel
theorem dX4_keep_9 : decode cX4_keep 9 = .ok (.irem, 1) := by decide +kernel
theorem dX4_keep_10 : decode cX4_keep 10 = .ok (.putfield 18, 3) := by decide +kernel
theorem dX4_keep_13 : decode cX4_keep 13 = .ok (.aload_n 0, 1) := by decide +kernel
theorem dX4_keep_14 : decode cX4_keep 14 = .ok (.aload_n 0, 1) := by decide +kernel
theorem dX4_keep_15 : decode cX4_keep 15 = .ok (.getfield 26, 3) := by decide +kernel
theorem dX4_keep_18 : decode cX4_keep 18 = .ok (.iconst 1, 1) := by decide +kernel
theorem dX4_keep_19 : decode cX4_keep 19 = .ok (.iadd, 1) := by decide +kernel
theorem dX4_keep_20 : decode cX4_keep 20 = .ok (.bipush 8, 2) := by decide +kernel
theorem dX4_keep_22 : decode cX4_keep 22 = .ok (.invokestatic 29, 3) := by decide +kernel
theorem dX4_keep_25 : decode cX4_keep 25 = .ok (.putfield 26, 3) := by decide +kernel
theorem dX4_keep_28 : decode cX4_keep 28 = .ok (.return_, 1) := by decide +kernel
theorem dX4_takeLatest_0 : decode cX4_takeLatest 0 = .ok (.aload_n 0, 1) := by decide +kernel
theorem dX4_takeLatest_1 : decode cX4_takeLatest 1 = .ok (.aload_n 0, 1) := by decide +kernel
theorem dX4_takeLatest_2 : decode cX4_takeLatest 2 = .ok (.getfield 18, 3) := by decide +kernel
theorem dX4_takeLatest_5 : decode cX4_takeLatest 5 = .ok (.bipush 9, 2) := by decide +kernel
theorem dX4_takeLatest_7 : decode cX4_takeLatest 7 = .ok (.iadd, 1) := by decide +kernel
theorem dX4_takeLatest_8 : decode cX4_takeLatest 8 = .ok (.iconst 1, 1) := by decide +kernel
theorem dX4_takeLatest_9 : decode cX4_takeLatest 9 = .ok (.isub, 1) := by decide +kernel
theorem dX4_takeLatest_10 : decode cX4_takeLatest 10 = .ok (.bipush 9, 2) := by decide +kernel
theorem dX4_takeLatest_12 : decode cX4_takeLatest 12 = .ok (.irem, 1) := by decide +kernel
theorem dX4_takeLatest_13 : decode cX4_takeLatest 13 = .ok (.putfield 18, 3) := by decide +kernel
theorem dX4_takeLatest_16 : decode cX4_takeLatest 16 = .ok (.aload_n 0, 1) := by decide +kernel
theorem dX4_takeLatest_17 : decode cX4_takeLatest 17 = .ok (.dup, 1) := by decide +kernel
theorem dX4_takeLatest_18 : decode cX4_takeLatest 18 = .ok (.getfield 26, 3) := by decide +kernel
theorem dX4_takeLatest_21 : decode cX4_takeLatest 21 = .ok (.iconst 1, 1) := by decide +kernel
theorem dX4_takeLatest_22 : decode cX4_takeLatest 22 = .ok (.isub, 1) := by decide +kernel
theorem dX4_takeLatest_23 : decode cX4_takeLatest 23 = .ok (.putfield 26, 3) := by decide +kernel
theorem dX4_takeLatest_26 : decode cX4_takeLatest 26 = .ok (.aload_n 0, 1) := by decide +kernel
theorem dX4_takeLatest_27 : decode cX4_takeLatest 27 = .ok (.getfield 13, 3) := by decide +kernel
theorem dX4_takeLatest_30 : decode cX4_takeLatest 30 = .ok (.aload_n 0, 1) := by decide +kernel
theorem dX4_takeLatest_31 : decode cX4_takeLatest 31 = .ok (.getfield 18, 3) := by decide +kernel
theorem dX4_takeLatest_34 : decode cX4_takeLatest 34 = .ok (.aaload, 1) := by decide +kernel
theorem dX4_takeLatest_35 : decode cX4_takeLatest 35 = .ok (.areturn, 1) := by decide +kernel
theorem dX4_clear_0 : decode cX4_clear 0 = .ok (.aload_n 0, 1) := by decide +kernel
theorem dX4_clear_1 : decode cX4_clear 1 = .ok (.iconst 0, 1) := by decide +kernel
theorem dX4_clear_2 : decode cX4_clear 2 = .ok (.putfield 26, 3) := by decide +kernel
theorem dX4_clear_5 : decode cX4_clear 5 = .ok (.return_, 1) := by decide +kernel
theorem dX5_init_0 : decode cX5_init 0 = .ok (.aload_n 0, 1) := by decide +kernel
theorem dX5_init_1 : decode cX5_init 1 = .ok (.invokespecial 3, 3) := by decide +kernel
theorem dX5_init_4 : decode cX5_init 4 = .ok (.aload_n 0, 1) := by decide +kernel
theorem dX5_init_5 : decode cX5_init 5 = .ok (.bipush 12, 2) := by decide +kernel
theorem dX5_init_7 : decode cX5_init 7 = .ok (.newarray .int, 2) := by decide +kernel
theorem dX5_init_9 : decode cX5_init 9 = .ok (.putfield 9, 3) := by decide +kernel
theorem dX5_init_12 : decode cX5_init 12 = .ok (.aload_n 0, 1) := by decide +kernel
theorem dX5_init_13 : decode cX5_init 13 = .ok (.bipush 12, 2) := by decide +kernel
theorem dX5_init_15 : decode cX5_init 15 = .ok (.newarray .char, 2) := by decide +kernel
theorem dX5_init_17 : decode cX5_init 17 = .ok (.putfield 15, 3) := by decide +kernel
theorem dX5_init_20 : decode cX5_init 20 = .ok (.aload_n 0, 1) := by decide +kernel
theorem dX5_init_21 : decode cX5_init 21 = .ok (.bipush 12, 2) := by decide +kernel
theorem dX5_init_23 : decode cX5_init 23 = .ok (.newarray .int, 2) := by decide +kernel
theorem dX5_init_25 : decode cX5_init 25 = .ok (.putfield 19, 3) := by decide +kernel
theorem dX5_init_28 : decode cX5_init 28 = .ok (.return_, 1) := by decide +kernel
theorem dX5_copyFrom_0 : decode cX5_copyFrom 0 = .ok (.aload_n 0, 1) := by decide +kernel
theorem dX5_copyFrom_1 : decode cX5_copyFrom 1 = .ok (.aload_n 1, 1) := by decide +kernel
theorem dX5_copyFrom_2 : decode cX5_copyFrom 2 = .ok (.getfield 22, 3) := by decide +kernel
theorem dX5_copyFrom_5 : decode cX5_copyFrom 5 = .ok (.putfield 22, 3) := by decide +kernel
theorem dX5_copyFrom_8 : decode cX5_copyFrom 8 = .ok (.aload_n 1, 1) := by decide +kernel
theorem dX5_copyFrom_9 : decode cX5_copyFrom 9 = .ok (.getfield 9, 3) := by decide +kernel
theorem dX5_copyFrom_12 : decode cX5_copyFrom 12 = .ok (.iconst 0, 1) := by decide +kernel
theorem dX5_copyFrom_13 : decode cX5_copyFrom 13 = .ok (.aload_n 0, 1) := by decide +kernel
theorem dX5_copyFrom_14 : decode cX5_copyFrom 14 = .ok (.getfield 9, 3) := by decide +kernel
theorem dX5_copyFrom_17 : decode cX5_copyFrom 17 = .ok (.iconst 0, 1) := by decide +kernel
theorem dX5_copyFrom_18 : decode cX5_copyFrom 18 = .ok (.bipush 12, 2) := by decide +kernel
theorem dX5_copyFrom_20 : decode cX5_copyFrom 20 = .ok (.invokestatic 26, 3) := by decide +kernel
theorem dX5_copyFrom_23 : decode cX5_copyFrom 23 = .ok (.aload_n 1, 1) := by decide +kernel
theorem dX5_copyFrom_24 : decode cX5_copyFrom 24 = .ok (.getfield 15, 3) := by decide +kernel
theorem dX5_copyFrom_27 : decode cX5_copyFrom 27 = .ok (.iconst 0, 1) := by decide +kernel
theorem dX5_copyFrom_28 : decode cX5_copyFrom 28 = .ok (.aload_n 0, 1) := by decide +kernel
theorem dX5_copyFrom_29 : decode cX5_copyFrom 29 = .ok (.getfield 15, 3) := by decide +kernel
theorem dX5_copyFrom_32 : decode cX5_copyFrom 32 = .ok (.iconst 0, 1) := by decide +kernel
theorem dX5_copyFrom_33 : decode cX5_copyFrom 33 = .ok (.bipush 12, 2) := by decide +kernel
theorem dX5_copyFrom_35 : decode cX5_copyFrom 35 = .ok (.invokestatic 26, 3) := by decide +kernel
theorem dX5_copyFrom_38 : decode cX5_copyFrom 38 = .ok (.aload_n 1, 1) := by decide +kernel
theorem dX5_copyFrom_39 : decode cX5_copyFrom 39 = .ok (.getfield 19, 3) := by decide +kernel
theorem dX5_copyFrom_42 : decode cX5_copyFrom 42 = .ok (.iconst 0, 1) := by decide +kernel
theorem dX5_copyFrom_43 : decode cX5_copyFrom 43 = .ok (.aload_n 0, 1) := by decide +kernel
theorem dX5_copyFrom_44 : decode cX5_copyFrom 44 = .ok (.getfield 19, 3) := by decide +kernel
theorem dX5_copyFrom_47 : decode cX5_copyFrom 47 = .ok (.iconst 0, 1) := by decide +kernel
theorem dX5_copyFrom_48 : decode cX5_copyFrom 48 = .ok (.bipush 12, 2) := by decide +kernel
theorem dX5_copyFrom_50 : decode cX5_copyFrom 50 = .ok (.invokestatic 26, 3) := by decide +kernel
theorem dX5_copyFrom_53 : decode cX5_copyFrom 53 = .ok (.return_, 1) := by decide +kernel
theorem dX5_enter_0 : decode cX5_enter 0 = .ok (.aload_n 0, 1) := by decide +kernel
theorem dX5_enter_1 : decode cX5_enter 1 = .ok (.getfield 22, 3) := by decide +kernel
theorem dX5_enter_4 : decode cX5_enter 4 = .ok (.bipush 12, 2) := by decide +kernel
theorem dX5_enter_6 : decode cX5_enter 6 = .ok (.if_icmp .ne 7, 3) := by decide +kernel
theorem dX5_enter_9 : decode cX5_enter 9 = .ok (.aload_n 0, 1) := by decide +kernel
theorem dX5_enter_10 : decode cX5_enter 10 = .ok (.invokevirtual 32, 3) := by decide +kernel
theorem dX5_enter_13 : decode cX5_enter 13 = .ok (.aload_n 0, 1) := by decide +kernel
theorem dX5_enter_14 : decode cX5_enter 14 = .ok (.getfield 9, 3) := by decide +kernel
theorem dX5_enter_17 : decode cX5_enter 17 = .ok (.aload_n 0, 1) := by decide +kernel
theorem dX5_enter_18 : decode cX5_enter 18 = .ok (.getfield 22, 3) := by decide +kernel
theorem dX5_enter_21 : decode cX5_enter 21 = .ok (.iload_n 1, 1) := by decide +kernel
theorem dX5_enter_22 : decode cX5_enter 22 = .ok (.iastore, 1) := by decide +kernel
theorem dX5_enter_23 : decode cX5_enter 23 = .ok (.aload_n 0, 1) := by decide +kernel
theorem dX5_enter_24 : decode cX5_enter 24 = .ok (.getfield 15, 3) := by decide +kernel
theorem dX5_enter_27 : decode cX5_enter 27 = .ok (.aload_n 0, 1) := by decide +kernel
theorem dX5_enter_28 : decode cX5_enter 28 = .ok (.getfield 22, 3) := by decide +kernel
theorem dX5_enter_31 : decode cX5_enter 31 = .ok (.iload_n 2, 1) := by decide +kernel
theorem dX5_enter_32 : decode cX5_enter 32 = .ok (.castore, 1) := by decide +kernel
theorem dX5_enter_33 : decode cX5_enter 33 = .ok (.aload_n 0, 1) := by decide +kernel
theorem dX5_enter_34 : decode cX5_enter 34 = .ok (.getfield 19, 3) := by decide +kernel
theorem dX5_enter_37 : decode cX5_enter 37 = .ok (.aload_n 0, 1) := by decide +kernel
theorem dX5_enter_38 : decode cX5_enter 38 = .ok (.getfield 22, 3) := by decide +kernel
theorem dX5_enter_41 : decode cX5_enter 41 = .ok (.iload_n 3, 1) := by decide +kernel
theorem dX5_enter_42 : decode cX5_enter 42 = .ok (.iastore, 1) := by decide +kernel
theorem dX5_enter_43 : decode cX5_enter 43 = .ok (.aload_n 0, 1) := by decide +kernel
theorem dX5_enter_44 : decode cX5_enter 44 = .ok (.dup, 1) := by decide +kernel
theorem dX5_enter_45 : decode cX5_enter 45 = .ok (.getfield 22, 3) := by decide +kernel
theorem dX5_enter_48 : decode cX5_enter 48 = .ok (.iconst 1, 1) := by decide +kernel
theorem dX5_enter_49 : decode cX5_enter 49 = .ok (.iadd, 1) := by decide +kernel
theorem dX5_enter_50 : decode cX5_enter 50 = .ok (.putfield 22, 3) := by decide +kernel
theorem dX5_enter_53 : decode cX5_enter 53 = .ok (.return_, 1) := by decide +kernel
theorem dX5_dropOldest_0 : decode cX5_dropOldest 0 = .ok (.aload_n 0, 1) := by decide +kernel
theorem dX5_dropOldest_1 : decode cX5_dropOldest 1 = .ok (.dup, 1) := by decide +kernel
theorem dX5_dropOldest_2 : decode cX5_dropOldest 2 = .ok (.getfield 22, 3) := by decide +kernel
theorem dX5_dropOldest_5 : decode cX5_dropOldest 5 = .ok (.iconst 1, 1) := by decide +kernel
theorem dX5_dropOldest_6 : decode cX5_dropOldest 6 = .ok (.isub, 1) := by decide +kernel
theorem dX5_dropOldest_7 : decode cX5_dropOldest 7 = .ok (.putfield 22, 3) := by decide +kernel
theorem dX5_dropOldest_10 : decode cX5_dropOldest 10 = .ok (.aload_n 0, 1) := by decide +kernel
theorem dX5_dropOldest_11 : decode cX5_dropOldest 11 = .ok (.getfield 9, 3) := by decide +kernel
theorem dX5_dropOldest_14 : decode cX5_dropOldest 14 = .ok (.iconst 1, 1) := by decide +kernel
theorem dX5_dropOldest_15 : decode cX5_dropOldest 15 = .ok (.aload_n 0, 1) := by decide +kernel
theorem dX5_dropOldest_16 : decode cX5_dropOldest 16 = .ok (.getfield 9, 3) := by decide +kernel
theorem dX5_dropOldest_19 : decode cX5_dropOldest 19 = .ok (.iconst 0, 1) := by decide +kernel
theorem dX5_dropOldest_20 : decode cX5_dropOldest 20 = .ok (.aload_n 0, 1) := by decide +kernel
theorem dX5_dropOldest_21 : decode cX5_dropOldest 21 = .ok (.getfield 22, 3) := by decide +kernel
theorem dX5_dropOldest_24 : decode cX5_dropOldest 24 = .ok (.invokestatic 26, 3) := by decide +kernel
theorem dX5_dropOldest_27 : decode cX5_dropOldest 27 = .ok (.aload_n 0, 1) := by decide +kernel
theorem dX5_dropOldest_28 : decode cX5_dropOldest 28 = .ok (.getfield 15, 3) := by decide +kernel
theorem dX5_dropOldest_31 : decode cX5_dropOldest 31 = .ok (.iconst 1, 1) := by decide +kernel
theorem dX5_dropOldest_32 : decode cX5_dropOldest 32 = .ok (.aload_n 0, 1) := by decide +kernel
theorem dX5_dropOldest_33 : decode cX5_dropOldest 33 = .ok (.getfield 15, 3) := by decide +kernel
theorem dX5_dropOldest_36 : decode cX5_dropOldest 36 = .ok (.iconst 0, 1) := by decide +kernel
theorem dX5_dropOldest_37 : decode cX5_dropOldest 37 = .ok (.aload_n 0, 1) := by decide +kernel
theorem dX5_dropOldest_38 : decode cX5_dropOldest 38 = .ok (.getfield 22, 3) := by decide +kernel
theorem dX5_dropOldest_41 : decode cX5_dropOldest 41 = .ok (.invokestatic 26, 3) := by decide +kernel
theorem dX5_dropOldest_44 : decode cX5_dropOldest 44 = .ok (.aload_n 0, 1) := by decide +kernel
theorem dX5_dropOldest_45 : decode cX5_dropOldest 45 = .ok (.getfield 19, 3) := by decide +kernel
theorem dX5_dropOldest_48 : decode cX5_dropOldest 48 = .ok (.iconst 1, 1) := by decide +kernel
theorem dX5_dropOldest_49 : decode cX5_dropOldest 49 = .ok (.aload_n 0, 1) := by decide +kernel
theorem dX5_dropOldest_50 : decode cX5_dropOldest 50 = .ok (.getfield 19, 3) := by decide +kernel
theorem dX5_dropOldest_53 : decode cX5_dropOldest 53 = .ok (.iconst 0, 1) := by decide +kernel
theorem dX5_dropOldest_54 : decode cX5_dropOldest 54 = .ok (.aload_n 0, 1) := by decide +kernel
theorem dX5_dropOldest_55 : decode cX5_dropOldest 55 = .ok (.getfield 22, 3) := by decide +kernel
theorem dX5_dropOldest_58 : decode cX5_dropOldest 58 = .ok (.invokestatic 26, 3) := by decide +kernel
theorem dX5_dropOldest_61 : decode cX5_dropOldest 61 = .ok (.return_, 1) := by decide +kernel
theorem dX6_init_0 : decode cX6_init 0 = .ok (.aload_n 0, 1) := by decide +kernel
theorem dX6_init_1 : decode cX6_init 1 = .ok (.invokespecial 3, 3) := by decide +kernel
theorem dX6_init_4 : decode cX6_init 4 = .ok (.aload_n 0, 1) := by decide +kernel
theorem dX6_init_5 : decode cX6_init 5 = .ok (.bipush 8, 2) := by decide +kernel
theorem dX6_init_7 : decode cX6_init 7 = .ok (.newarray .int, 2) := by decide +kernel
theorem dX6_init_9 : decode cX6_init 9 = .ok (.putfield 9, 3) := by decide +kernel
theorem dX6_init_12 : decode cX6_init 12 = .ok (.aload_n 0, 1) := by decide +kernel
theorem dX6_init_13 : decode cX6_init 13 = .ok (.iconst 3, 1) := by decide +kernel
theorem dX6_init_14 : decode cX6_init 14 = .ok (.newarray .int, 2) := by decide +kernel
theorem dX6_init_16 : decode cX6_init 16 = .ok (.putfield 15, 3) := by decide +kernel
theorem dX6_init_19 : decode cX6_init 19 = .ok (.aload_n 0, 1) := by decide +kernel
theorem dX6_init_20 : decode cX6_init 20 = .ok (.bipush 8, 2) := by decide +kernel
theorem dX6_init_22 : decode cX6_init 22 = .ok (.newarray .int, 2) := by decide +kernel
theorem dX6_init_24 : decode cX6_init 24 = .ok (.putfield 18, 3) := by decide +kernel
theorem dX6_init_27 : decode cX6_init 27 = .ok (.return_, 1) := by decide +kernel
theorem dX6_copyFrom_0 : decode cX6_copyFrom 0 = .ok (.aload_n 0, 1) := by decide +kernel
theorem dX6_copyFrom_1 : decode cX6_copyFrom 1 = .ok (.aload_n 1, 1) := by decide +kernel
theorem dX6_copyFrom_2 : decode cX6_copyFrom 2 = .ok (.getfield 21, 3) := by decide +kernel
theorem dX6_copyFrom_5 : decode cX6_copyFrom 5 = .ok (.putfield 21, 3) := by decide +kernel
theorem dX6_copyFrom_8 : decode cX6_copyFrom 8 = .ok (.aload_n 1, 1) := by decide +kernel
theorem dX6_copyFrom_9 : decode cX6_copyFrom 9 = .ok (.getfield 9, 3) := by decide +kernel
theorem dX6_copyFrom_12 : decode cX6_copyFrom 12 = .ok (.iconst 0, 1) := by decide +kernel
theorem dX6_copyFrom_13 : decode cX6_copyFrom 13 = .ok (.aload_n 0, 1) := by decide +kernel
theorem dX6_copyFrom_14 : decode cX6_copyFrom 14 = .ok (.getfield 9, 3) := by decide +kernel
theorem dX6_copyFrom_17 : decode cX6_copyFrom 17 = .ok (.iconst 0, 1) := by decide +kernel
theorem dX6_copyFrom_18 : decode cX6_copyFrom 18 = .ok (.bipush 8, 2) := by decide +kernel
theorem dX6_copyFrom_20 : decode cX6_copyFrom 20 = .ok (.invokestatic 25, 3) := by decide +kernel
theorem dX6_copyFrom_23 : decode cX6_copyFrom 23 = .ok (.aload_n 0, 1) := by decide +kernel
theorem dX6_copyFrom_24 : decode cX6_copyFrom 24 = .ok (.aload_n 1, 1) := by decide +kernel
theorem dX6_copyFrom_25 : decode cX6_copyFrom 25 = .ok (.getfield 31, 3) := by decide +kernel
theorem dX6_copyFrom_28 : decode cX6_copyFrom 28 = .ok (.putfield 31, 3) := by decide +kernel
theorem dX6_copyFrom_31 : decode cX6_copyFrom 31 = .ok (.aload_n 0, 1) := by decide +kernel
theorem dX6_copyFrom_32 : decode cX6_copyFrom 32 = .ok (.aload_n 1, 1) := by decide +kernel
theorem dX6_copyFrom_33 : decode cX6_copyFrom 33 = .ok (.getfield 35, 3) := by decide +kernel
theorem dX6_copyFrom_36 : decode cX6_copyFrom 36 = .ok (.putfield 35, 3) := by decide +kernel
theorem dX6_copyFrom_39 : decode cX6_copyFrom 39 = .ok (.aload_n 1, 1) := by decide +kernel
theorem dX6_copyFrom_40 : decode cX6_copyFrom 40 = .ok (.getfield 15, 3) := by decide +kernel
theorem dX6_copyFrom_43 : decode cX6_copyFrom 43 = .ok (.iconst 0, 1) := by decide +kernel
theorem dX6_copyFrom_44 : decode cX6_copyFrom 44 = .ok (.aload_n 0, 1) := by decide +kernel
theorem dX6_copyFrom_45 : decode cX6_copyFrom 45 = .ok (.getfield 15, 3) := by decide +kernel
theorem dX6_copyFrom_48 : decode cX6_copyFrom 48 = .ok (.iconst 0, 1) := by decide +kernel
theorem dX6_copyFrom_49 : decode cX6_copyFrom 49 = .ok (.iconst 3, 1) := by decide +kernel
theorem dX6_copyFrom_50 : decode cX6_copyFrom 50 = .ok (.invokestatic 25, 3) := by decide +kernel
theorem dX6_copyFrom_53 : decode cX6_copyFrom 53 = .ok (.aload_n 0, 1) := by decide +kernel
theorem dX6_copyFrom_54 : decode cX6_copyFrom 54 = .ok (.aload_n 1, 1) := by decide +kernel
theorem dX6_copyFrom_55 : decode cX6_copyFrom 55 = .ok (.getfield 38, 3) := by decide +kernel
theorem dX6_copyFrom_58 : decode cX6_copyFrom 58 = .ok (.putfield 38, 3) := by decide +kernel
theorem dX6_copyFrom_61 : decode cX6_copyFrom 61 = .ok (.aload_n 1, 1) := by decide +kernel
theorem dX6_copyFrom_62 : decode cX6_copyFrom 62 = .ok (.getfield 18, 3) := by decide +kernel
theorem dX6_copyFrom_65 : decode cX6_copyFrom 65 = .ok (.iconst 0, 1) := by decide +kernel
theorem dX6_copyFrom_66 : decode cX6_copyFrom 66 = .ok (.aload_n 0, 1) := by decide +kernel
theorem dX6_copyFrom_67 : decode cX6_copyFrom 67 = .ok (.getfield 18, 3) := by decide +kernel
theorem dX6_copyFrom_70 : decode cX6_copyFrom 70 = .ok (.iconst 0, 1) := by decide +kernel
theorem dX6_copyFrom_71 : decode cX6_copyFrom 71 = .ok (.bipush 8, 2) := by decide +kernel
theorem dX6_copyFrom_73 : decode cX6_copyFrom 73 = .ok (.invokestatic 25, 3) := by decide +kernel
theorem dX6_copyFrom_76 : decode cX6_copyFrom 76 = .ok (.return_, 1) := by decide +kernel
theorem dX6_positionOf_0 : decode cX6_positionOf 0 = .ok (.iload_n 0, 1) := by decide +kernel
theorem dX6_positionOf_1 : decode cX6_positionOf 1 = .ok (.iconst 1, 1) := by decide +kernel
theorem dX6_positionOf_2 : decode cX6_positionOf 2 = .ok (.iadd, 1) := by decide +kernel
theorem dX6_positionOf_3 : decode cX6_positionOf 3 = .ok (.ireturn, 1) := by decide +kernel
theorem dX6_isResidue_0 : decode cX6_isResidue 0 = .ok (.iload_n 0, 1) := by decide +kernel
theorem dX6_isResidue_1 : decode cX6_isResidue 1 = .ok (.ifCond .lt 13, 3) := by decide +kernel
theorem dX6_isResidue_4 : decode cX6_isResidue 4 = .ok (.iload_n 0, 1) := by decide +kernel
theorem dX6_isResidue_5 : decode cX6_isResidue 5 = .ok (.bipush 97, 2) := by decide +kernel
theorem dX6_isResidue_7 : decode cX6_isResidue 7 = .ok (.if_icmp .ge 7, 3) := by decide +kernel
theorem dX6_isResidue_10 : decode cX6_isResidue 10 = .ok (.iconst 1, 1) := by decide +kernel
theorem dX6_isResidue_11 : decode cX6_isResidue 11 = .ok (.goto 4, 3) := by decide +kernel
theorem dX6_isResidue_14 : decode cX6_isResidue 14 = .ok (.iconst 0, 1) := by decide +kernel
theorem dX6_isResidue_15 : decode cX6_isResidue 15 = .ok (.ireturn, 1) := by decide +kernel
theorem dX6_hasHolder_0 : decode cX6_hasHolder 0 = .ok (.iload_n 1, 1) := by decide +kernel
theorem dX6_hasHolder_1 : decode cX6_hasHolder 1 = .ok (.ifCond .lt 15, 3) := by decide +kernel
theorem dX6_hasHolder_4 : decode cX6_hasHolder 4 = .ok (.iload_n 1, 1) := by decide +kernel
theorem dX6_hasHolder_5 : decode cX6_hasHolder 5 = .ok (.aload_n 0, 1) := by decide +kernel
theorem dX6_hasHolder_6 : decode cX6_hasHolder 6 = .ok (.getfield 21, 3) := by decide +kernel
theorem dX6_hasHolder_9 : decode cX6_hasHolder 9 = .ok (.if_icmp .ge 7, 3) := by decide +kernel
theorem dX6_hasHolder_12 : decode cX6_hasHolder 12 = .ok (.iconst 1, 1) := by decide +kernel
theorem dX6_hasHolder_13 : decode cX6_hasHolder 13 = .ok (.goto 4, 3) := by decide +kernel
theorem dX6_hasHolder_16 : decode cX6_hasHolder 16 = .ok (.iconst 0, 1) := by decide +kernel
theorem dX6_hasHolder_17 : decode cX6_hasHolder 17 = .ok (.ireturn, 1) := by decide +kernel
theorem dX6_areEnough_0 : decode cX6_areEnough 0 = .ok (.aload_n 0, 1) := by decide +kernel
theorem dX6_areEnough_1 : decode cX6_areEnough 1 = .ok (.getfield 31, 3) := by decide +kernel
theorem dX6_areEnough_4 : decode cX6_areEnough 4 = .ok (.ifCond .eq 18, 3) := by decide +kernel
theorem dX6_areEnough_7 : decode cX6_areEnough 7 = .ok (.aload_n 0, 1) := by decide +kernel
theorem dX6_areEnough_8 : decode cX6_areEnough 8 = .ok (.getfield 38, 3) := by decide +kernel
theorem dX6_areEnough_11 : decode cX6_areEnough 11 = .ok (.aload_n 0, 1) := by decide +kernel
theorem dX6_areEnough_12 : decode cX6_areEnough 12 = .ok (.getfield 35, 3) := by decide +kernel
theorem dX6_areEnough_15 : decode cX6_areEnough 15 = .ok (.if_icmp .lt 7, 3) := by decide +kernel
theorem dX6_areEnough_18 : decode cX6_areEnough 18 = .ok (.iconst 1, 1) := by decide +kernel
theorem dX6_areEnough_19 : decode cX6_areEnough 19 = .ok (.goto 4, 3) := by decide +kernel
theorem dX6_areEnough_22 : decode cX6_areEnough 22 = .ok (.iconst 0, 1) := by decide +kernel
theorem dX6_areEnough_23 : decode cX6_areEnough 23 = .ok (.ireturn, 1) := by decide +kernel
theorem dX6_valueOn_0 : decode cX6_valueOn 0 = .ok (.iconst 0, 1) := by decide +kernel
theorem dX6_valueOn_1 : decode cX6_valueOn 1 = .ok (.istore_n 2, 1) := by decide +kernel
theorem dX6_valueOn_2 : decode cX6_valueOn 2 = .ok (.aload_n 0, 1) := by decide +kernel
theorem dX6_valueOn_3 : decode cX6_valueOn 3 = .ok (.arraylength, 1) := by decide +kernel
theorem dX6_valueOn_4 : decode cX6_valueOn 4 = .ok (.iconst 1, 1) := by decide +kernel
theorem dX6_valueOn_5 : decode cX6_valueOn 5 = .ok (.isub, 1) := by decide +kernel
theorem dX6_valueOn_6 : decode cX6_valueOn 6 = .ok (.istore_n 3, 1) := by decide +kernel
theorem dX6_valueOn_7 : decode cX6_valueOn 7 = .ok (.iload_n 3, 1) := by decide +kernel
theorem dX6_valueOn_8 : decode cX6_valueOn 8 = .ok (.ifCond .lt 20, 3) := by decide +kernel
theorem dX6_valueOn_11 : decode cX6_valueOn 11 = .ok (.iload_n 2, 1) := by decide +kernel
theorem dX6_valueOn_12 : decode cX6_valueOn 12 = .ok (.iload_n 1, 1) := by decide +kernel
theorem dX6_valueOn_13 : decode cX6_valueOn 13 = .ok (.imul, 1) := by decide +kernel
theorem dX6_valueOn_14 : decode cX6_valueOn 14 = .ok (.aload_n 0, 1) := by decide +kernel
theorem dX6_valueOn_15 : decode cX6_valueOn 15 = .ok (.iload_n 3, 1) := by decide +kernel
theorem dX6_valueOn_16 : decode cX6_valueOn 16 = .ok (.iaload, 1) := by decide +kernel
theorem dX6_valueOn_17 : decode cX6_valueOn 17 = .ok (.iadd, 1) := by decide +kernel
theorem dX6_valueOn_18 : decode cX6_valueOn 18 = .ok (.bipush 97, 2) := by decide +kernel
theorem dX6_valueOn_20 : decode cX6_valueOn 20 = .ok (.irem, 1) := by decide +kernel
theorem dX6_valueOn_21 : decode cX6_valueOn 21 = .ok (.istore_n 2, 1) := by decide +kernel
theorem dX6_valueOn_22 : decode cX6_valueOn 22 = .ok (.iinc 3 (-1), 3) := by decide +kernel
theorem dX6_valueOn_25 : decode cX6_valueOn 25 = .ok (.goto (-18), 3) := by decide +kernel
theorem dX6_valueOn_28 : decode cX6_valueOn 28 = .ok (.iload_n 2, 1) := by decide +kernel
theorem dX6_valueOn_29 : decode cX6_valueOn 29 = .ok (.ireturn, 1) := by decide +kernel
theorem dX6_correctShare_0 : decode cX6_correctShare 0 = .ok (.aload_n 0, 1) := by decide +kernel
theorem dX6_correctShare_1 : decode cX6_correctShare 1 = .ok (.getfield 15, 3) := by decide +kernel
theorem dX6_correctShare_4 : decode cX6_correctShare 4 = .ok (.iload_n 1, 1) := by decide +kernel
theorem dX6_correctShare_5 : decode cX6_correctShare 5 = .ok (.invokestatic 41, 3) := by decide +kernel
theorem dX6_correctShare_8 : decode cX6_correctShare 8 = .ok (.invokestatic 45, 3) := by decide +kernel
theorem dX6_correctShare_11 : decode cX6_correctShare 11 = .ok (.ireturn, 1) := by decide +kernel
theorem dX6_placeOf_0 : decode cX6_placeOf 0 = .ok (.iconst 0, 1) := by decide +kernel
theorem dX6_placeOf_1 : decode cX6_placeOf 1 = .ok (.istore_n 2, 1) := by decide +kernel
theorem dX6_placeOf_2 : decode cX6_placeOf 2 = .ok (.iload_n 2, 1) := by decide +kernel
theorem dX6_placeOf_3 : decode cX6_placeOf 3 = .ok (.aload_n 0, 1) := by decide +kernel
theorem dX6_placeOf_4 : decode cX6_placeOf 4 = .ok (.getfield 38, 3) := by decide +kernel
theorem dX6_placeOf_7 : decode cX6_placeOf 7 = .ok (.if_icmp .ge 21, 3) := by decide +kernel
theorem dX6_placeOf_10 : decode cX6_placeOf 10 = .ok (.aload_n 0, 1) := by decide +kernel
theorem dX6_placeOf_11 : decode cX6_placeOf 11 = .ok (.getfield 18, 3) := by decide +kernel
theorem dX6_placeOf_14 : decode cX6_placeOf 14 = .ok (.iload_n 2, 1) := by decide +kernel
theorem dX6_placeOf_15 : decode cX6_placeOf 15 = .ok (.iaload, 1) := by decide +kernel
theorem dX6_placeOf_16 : decode cX6_placeOf 16 = .ok (.iload_n 1, 1) := by decide +kernel
theorem dX6_placeOf_17 : decode cX6_placeOf 17 = .ok (.if_icmp .ne 5, 3) := by decide +kernel
theorem dX6_placeOf_20 : decode cX6_placeOf 20 = .ok (.iload_n 2, 1) := by decide +kernel
theorem dX6_placeOf_21 : decode cX6_placeOf 21 = .ok (.ireturn, 1) := by decide +kernel
theorem dX6_placeOf_22 : decode cX6_placeOf 22 = .ok (.iinc 2 1, 3) := by decide +kernel
theorem dX6_placeOf_25 : decode cX6_placeOf 25 = .ok (.goto (-23), 3) := by decide +kernel
theorem dX6_placeOf_28 : decode cX6_placeOf 28 = .ok (.iconst (-1), 1) := by decide +kernel
theorem dX6_placeOf_29 : decode cX6_placeOf 29 = .ok (.ireturn, 1) := by decide +kernel
theorem dX6_join_0 : decode cX6_join 0 = .ok (.aload_n 0, 1) := by decide +kernel
theorem dX6_join_1 : decode cX6_join 1 = .ok (.getfield 21, 3) := by decide +kernel
theorem dX6_join_4 : decode cX6_join 4 = .ok (.istore_n 1, 1) := by decide +kernel
theorem dX6_join_5 : decode cX6_join 5 = .ok (.aload_n 0, 1) := by decide +kernel
theorem dX6_join_6 : decode cX6_join 6 = .ok (.dup, 1) := by decide +kernel
theorem dX6_join_7 : decode cX6_join 7 = .ok (.getfield 21, 3) := by decide +kernel
theorem dX6_join_10 : decode cX6_join 10 = .ok (.iconst 1, 1) := by decide +kernel
theorem dX6_join_11 : decode cX6_join 11 = .ok (.iadd, 1) := by decide +kernel
theorem dX6_join_12 : decode cX6_join 12 = .ok (.putfield 21, 3) := by decide +kernel
theorem dX6_join_15 : decode cX6_join 15 = .ok (.aload_n 0, 1) := by decide +kernel
theorem dX6_join_16 : decode cX6_join 16 = .ok (.getfield 9, 3) := by decide +kernel
theorem dX6_join_19 : decode cX6_join 19 = .ok (.iload_n 1, 1) := by decide +kernel
theorem dX6_join_20 : decode cX6_join 20 = .ok (.aload_n 0, 1) := by decide +kernel
theorem dX6_join_21 : decode cX6_join 21 = .ok (.iload_n 1, 1) := by decide +kernel
theorem dX6_join_22 : decode cX6_join 22 = .ok (.invokevirtual 49, 3) := by decide +kernel
theorem dX6_join_25 : decode cX6_join 25 = .ok (.iastore, 1) := by decide +kernel
theorem dX6_join_26 : decode cX6_join 26 = .ok (.iload_n 1, 1) := by decide +kernel
theorem dX6_join_27 : decode cX6_join 27 = .ok (.ireturn, 1) := by decide +kernel
theorem dX6_sealWith_0 : decode cX6_sealWith 0 = .ok (.aload_n 0, 1) := by decide +kernel
theorem dX6_sealWith_1 : decode cX6_sealWith 1 = .ok (.iconst 1, 1) := by decide +kernel
theorem dX6_sealWith_2 : decode cX6_sealWith 2 = .ok (.putfield 31, 3) := by decide +kernel
theorem dX6_sealWith_5 : decode cX6_sealWith 5 = .ok (.aload_n 0, 1) := by decide +kernel
theorem dX6_sealWith_6 : decode cX6_sealWith 6 = .ok (.iload 4, 2) := by decide +kernel
theorem dX6_sealWith_8 : decode cX6_sealWith 8 = .ok (.putfield 35, 3) := by decide +kernel
theorem dX6_sealWith_11 : decode cX6_sealWith 11 = .ok (.aload_n 0, 1) := by decide +kernel
theorem dX6_sealWith_12 : decode cX6_sealWith 12 = .ok (.getfield 15, 3) := by decide +kernel
theorem dX6_sealWith_15 : decode cX6_sealWith 15 = .ok (.iconst 0, 1) := by decide +kernel
theorem dX6_sealWith_16 : decode cX6_sealWith 16 = .ok (.iload_n 1, 1) := by decide +kernel
theorem dX6_sealWith_17 : decode cX6_sealWith 17 = .ok (.iastore, 1) := by decide +kernel
theorem dX6_sealWith_18 : decode cX6_sealWith 18 = .ok (.aload_n 0, 1) := by decide +kernel
theorem dX6_sealWith_19 : decode cX6_sealWith 19 = .ok (.getfield 15, 3) := by decide +kernel
theorem dX6_sealWith_22 : decode cX6_sealWith 22 = .ok (.iconst 1, 1) := by decide +kernel
theorem dX6_sealWith_23 : decode cX6_sealWith 23 = .ok (.iload 4, 2) := by decide +kernel
theorem dX6_sealWith_25 : decode cX6_sealWith 25 = .ok (.iconst 1, 1) := by decide +kernel
theorem dX6_sealWith_26 : decode cX6_sealWith 26 = .ok (.if_icmp .ne 7, 3) := by decide +kernel
theorem dX6_sealWith_29 : decode cX6_sealWith 29 = .ok (.iconst 0, 1) := by decide +kernel
theorem dX6_sealWith_30 : decode cX6_sealWith 30 = .ok (.goto 4, 3) := by decide +kernel
theorem dX6_sealWith_33 : decode cX6_sealWith 33 = .ok (.iload_n 2, 1) := by decide +kernel
theorem dX6_sealWith_34 : decode cX6_sealWith 34 = .ok (.iastore, 1) := by decide +kernel
theorem dX6_sealWith_35 : decode cX6_sealWith 35 = .ok (.aload_n 0, 1) := by decide +kernel
theorem dX6_sealWith_36 : decode cX6_sealWith 36 = .ok (.getfield 15, 3) := by decide +kernel
theorem dX6_sealWith_39 : decode cX6_sealWith 39 = .ok (.iconst 2, 1) := by decide +kernel
theorem dX6_sealWith_40 : decode cX6_sealWith 40 = .ok (.iload 4, 2) := by decide +kernel
theorem dX6_sealWith_42 : decode cX6_sealWith 42 = .ok (.iconst 3, 1) := by decide +kernel
theorem dX6_sealWith_43 : decode cX6_sealWith 43 = .ok (.if_icmp .ge 7, 3) := by decide +kernel
theorem dX6_sealWith_46 : decode cX6_sealWith 46 = .ok (.iconst 0, 1) := by decide +kernel
theorem dX6_sealWith_47 : decode cX6_sealWith 47 = .ok (.goto 4, 3) := by decide +kernel
theorem dX6_sealWith_50 : decode cX6_sealWith 50 = .ok (.iload_n 3, 1) := by decide +kernel
theorem dX6_sealWith_51 : decode cX6_sealWith 51 = .ok (.iastore, 1) := by decide +kernel
theorem dX6_sealWith_52 : decode cX6_sealWith 52 = .ok (.aload_n 0, 1) := by decide +kernel
theorem dX6_sealWith_53 : decode cX6_sealWith 53 = .ok (.iconst 0, 1) := by decide +kernel
theorem dX6_sealWith_54 : decode cX6_sealWith 54 = .ok (.putfield 38, 3) := by decide +kernel
theorem dX6_sealWith_57 : decode cX6_sealWith 57 = .ok (.iconst 0, 1) := by decide +kernel
theorem dX6_sealWith_58 : decode cX6_sealWith 58 = .ok (.istore 5, 2) := by decide +kernel
theorem dX6_sealWith_60 : decode cX6_sealWith 60 = .ok (.iload 5, 2) := by decide +kernel
theorem dX6_sealWith_62 : decode cX6_sealWith 62 = .ok (.aload_n 0, 1) := by decide +kernel
theorem dX6_sealWith_63 : decode cX6_sealWith 63 = .ok (.getfield 21, 3) := by decide +kernel
theorem dX6_sealWith_66 : decode cX6_sealWith 66 = .ok (.if_icmp .ge 22, 3) := by decide +kernel
theorem dX6_sealWith_69 : decode cX6_sealWith 69 = .ok (.aload_n 0, 1) := by decide +kernel
theorem dX6_sealWith_70 : decode cX6_sealWith 70 = .ok (.getfield 9, 3) := by decide +kernel
theorem dX6_sealWith_73 : decode cX6_sealWith 73 = .ok (.iload 5, 2) := by decide +kernel
theorem dX6_sealWith_75 : decode cX6_sealWith 75 = .ok (.aload_n 0, 1) := by decide +kernel
theorem dX6_sealWith_76 : decode cX6_sealWith 76 = .ok (.iload 5, 2) := by decide +kernel
theorem dX6_sealWith_78 : decode cX6_sealWith 78 = .ok (.invokevirtual 49, 3) := by decide +kernel
theorem dX6_sealWith_81 : decode cX6_sealWith 81 = .ok (.iastore, 1) := by decide +kernel
theorem dX6_sealWith_82 : decode cX6_sealWith 82 = .ok (.iinc 5 1, 3) := by decide +kernel
theorem dX6_sealWith_85 : decode cX6_sealWith 85 = .ok (.goto (-25), 3) := by decide +kernel
theorem dX6_sealWith_88 : decode cX6_sealWith 88 = .ok (.return_, 1) := by decide +kernel
theorem dX6_show_0 : decode cX6_show 0 = .ok (.aload_n 0, 1) := by decide +kernel
theorem dX6_show_1 : decode cX6_show 1 = .ok (.getfield 18, 3) := by decide +kernel
theorem dX6_show_4 : decode cX6_show 4 = .ok (.aload_n 0, 1) := by decide +kernel
theorem dX6_show_5 : decode cX6_show 5 = .ok (.getfield 38, 3) := by decide +kernel
theorem dX6_show_8 : decode cX6_show 8 = .ok (.iload_n 1, 1) := by decide +kernel
theorem dX6_show_9 : decode cX6_show 9 = .ok (.iastore, 1) := by decide +kernel
theorem dX6_show_10 : decode cX6_show 10 = .ok (.aload_n 0, 1) := by decide +kernel
theorem dX6_show_11 : decode cX6_show 11 = .ok (.dup, 1) := by decide +kernel
theorem dX6_show_12 : decode cX6_show 12 = .ok (.getfield 38, 3) := by decide +kernel
theorem dX6_show_15 : decode cX6_show 15 = .ok (.iconst 1, 1) := by decide +kernel
theorem dX6_show_16 : decode cX6_show 16 = .ok (.iadd, 1) := by decide +kernel
theorem dX6_show_17 : decode cX6_show 17 = .ok (.putfield 38, 3) := by decide +kernel
theorem dX6_show_20 : decode cX6_show 20 = .ok (.aload_n 0, 1) := by decide +kernel
theorem dX6_show_21 : decode cX6_show 21 = .ok (.getfield 38, 3) := by decide +kernel
theorem dX6_show_24 : decode cX6_show 24 = .ok (.ireturn, 1) := by decide +kernel
theorem dX6_hide_0 : decode cX6_hide 0 = .ok (.aload_n 0, 1) := by decide +kernel
theorem dX6_hide_1 : decode cX6_hide 1 = .ok (.dup, 1) := by decide +kernel
theorem dX6_hide_2 : decode cX6_hide 2 = .ok (.getfield 38, 3) := by decide +kernel
theorem dX6_hide_5 : decode cX6_hide 5 = .ok (.iconst 1, 1) := by decide +kernel
theorem dX6_hide_6 : decode cX6_hide 6 = .ok (.isub, 1) := by decide +kernel
theorem dX6_hide_7 : decode cX6_hide 7 = .ok (.putfield 38, 3) := by decide +kernel
theorem dX6_hide_10 : decode cX6_hide 10 = .ok (.iload_n 1, 1) := by decide +kernel
theorem dX6_hide_11 : decode cX6_hide 11 = .ok (.istore_n 2, 1) := by decide +kernel
theorem dX6_hide_12 : decode cX6_hide 12 = .ok (.iload_n 2, 1) := by decide +kernel
theorem dX6_hide_13 : decode cX6_hide 13 = .ok (.aload_n 0, 1) := by decide +kernel
theorem dX6_hide_14 : decode cX6_hide 14 = .ok (.getfield 38, 3) := by decide +kernel
theorem dX6_hide_17 : decode cX6_hide 17 = .ok (.if_icmp .ge 23, 3) := by decide +kernel
theorem dX6_hide_20 : decode cX6_hide 20 = .ok (.aload_n 0, 1) := by decide +kernel
theorem dX6_hide_21 : decode cX6_hide 21 = .ok (.getfield 18, 3) := by decide +kernel
theorem dX6_hide_24 : decode cX6_hide 24 = .ok (.iload_n 2, 1) := by decide +kernel
theorem dX6_hide_25 : decode cX6_hide 25 = .ok (.aload_n 0, 1) := by decide +kernel
theorem dX6_hide_26 : decode cX6_hide 26 = .ok (.getfield 18, 3) := by decide +kernel
theorem dX6_hide_29 : decode cX6_hide 29 = .ok (.iload_n 2, 1) := by decide +kernel
theorem dX6_hide_30 : decode cX6_hide 30 = .ok (.iconst 1, 1) := by decide +kernel
theorem dX6_hide_31 : decode cX6_hide 31 = .ok (.iadd, 1) := by decide +kernel
theorem dX6_hide_32 : decode cX6_hide 32 = .ok (.iaload, 1) := by decide +kernel
theorem dX6_hide_33 : decode cX6_hide 33 = .ok (.iastore, 1) := by decide +kernel
theorem dX6_hide_34 : decode cX6_hide 34 = .ok (.iinc 2 1, 3) := by decide +kernel
theorem dX6_hide_37 : decode cX6_hide 37 = .ok (.goto (-25), 3) := by decide +kernel
theorem dX6_hide_40 : decode cX6_hide 40 = .ok (.aload_n 0, 1) := by decide +kernel
theorem dX6_hide_41 : decode cX6_hide 41 = .ok (.getfield 38, 3) := by decide +kernel
theorem dX6_hide_44 : decode cX6_hide 44 = .ok (.ireturn, 1) := by decide +kernel
theorem dX6_toldAt_0 : decode cX6_toldAt 0 = .ok (.aload_n 0, 1) := by decide +kernel
theorem dX6_toldAt_1 : decode cX6_toldAt 1 = .ok (.aload_n 0, 1) := by decide +kernel
theorem dX6_toldAt_2 : decode cX6_toldAt 2 = .ok (.getfield 18, 3) := by decide +kernel
theorem dX6_toldAt_5 : decode cX6_toldAt 5 = .ok (.iload_n 1, 1) := by decide +kernel
theorem dX6_toldAt_6 : decode cX6_toldAt 6 = .ok (.invokevirtual 52, 3) := by decide +kernel
theorem dX6_toldAt_9 : decode cX6_toldAt 9 = .ok (.ireturn, 1) := by decide +kernel
theorem dX6_allAgree_0 : decode cX6_allAgree 0 = .ok (.aload_n 0, 1) := by decide +kernel
theorem dX6_allAgree_1 : decode cX6_allAgree 1 = .ok (.aload_n 0, 1) := by decide +kernel
theorem dX6_allAgree_2 : decode cX6_allAgree 2 = .ok (.getfield 18, 3) := by decide +kernel
theorem dX6_allAgree_5 : decode cX6_allAgree 5 = .ok (.aload_n 0, 1) := by decide +kernel
theorem dX6_allAgree_6 : decode cX6_allAgree 6 = .ok (.getfield 38, 3) := by decide +kernel
theorem dX6_allAgree_9 : decode cX6_allAgree 9 = .ok (.invokevirtual 55, 3) := by decide +kernel
theorem dX6_allAgree_12 : decode cX6_allAgree 12 = .ok (.ireturn, 1) := by decide +kernel
theorem dX6_tellTheSecret_0 : decode cX6_tellTheSecret 0 = .ok (.aload_n 0, 1) := by decide +kernel
theorem dX6_tellTheSecret_1 : decode cX6_tellTheSecret 1 = .ok (.aload_n 0, 1) := by decide +kernel
theorem dX6_tellTheSecret_2 : decode cX6_tellTheSecret 2 = .ok (.getfield 18, 3) := by decide +kernel
theorem dX6_tellTheSecret_5 : decode cX6_tellTheSecret 5 = .ok (.aload_n 0, 1) := by decide +kernel
theorem dX6_tellTheSecret_6 : decode cX6_tellTheSecret 6 = .ok (.getfield 38, 3) := by decide +kernel
theorem dX6_tellTheSecret_9 : decode cX6_tellTheSecret 9 = .ok (.invokevirtual 55, 3) := by decide +kernel
theorem dX6_tellTheSecret_12 : decode cX6_tellTheSecret 12 = .ok (.ifCond .eq 21, 3) := by decide +kernel
theorem dX6_tellTheSecret_15 : decode cX6_tellTheSecret 15 = .ok (.aload_n 0, 1) := by decide +kernel
theorem dX6_tellTheSecret_16 : decode cX6_tellTheSecret 16 = .ok (.iconst 0, 1) := by decide +kernel
theorem dX6_tellTheSecret_17 : decode cX6_tellTheSecret 17 = .ok (.invokevirtual 59, 3) := by decide +kernel
theorem dX6_tellTheSecret_20 : decode cX6_tellTheSecret 20 = .ok (.aload_n 0, 1) := by decide +kernel
theorem dX6_tellTheSecret_21 : decode cX6_tellTheSecret 21 = .ok (.getfield 15, 3) := by decide +kernel
theorem dX6_tellTheSecret_24 : decode cX6_tellTheSecret 24 = .ok (.iconst 0, 1) := by decide +kernel
theorem dX6_tellTheSecret_25 : decode cX6_tellTheSecret 25 = .ok (.iaload, 1) := by decide +kernel
theorem dX6_tellTheSecret_26 : decode cX6_tellTheSecret 26 = .ok (.if_icmp .ne 7, 3) := by decide +kernel
theorem dX6_tellTheSecret_29 : decode cX6_tellTheSecret 29 = .ok (.iconst 1, 1) := by decide +kernel
theorem dX6_tellTheSecret_30 : decode cX6_tellTheSecret 30 = .ok (.goto 4, 3) := by decide +kernel
theorem dX6_tellTheSecret_33 : decode cX6_tellTheSecret 33 = .ok (.iconst 0, 1) := by decide +kernel
theorem dX6_tellTheSecret_34 : decode cX6_tellTheSecret 34 = .ok (.ireturn, 1) := by decide +kernel
theorem dX6_isOneCurve_0 : decode cX6_isOneCurve 0 = .ok (.aload_n 0, 1) := by decide +kernel
theorem dX6_isOneCurve_1 : decode cX6_isOneCurve 1 = .ok (.getfield 35, 3) := by decide +kernel
theorem dX6_isOneCurve_4 : decode cX6_isOneCurve 4 = .ok (.istore_n 3, 1) := by decide +kernel
theorem dX6_isOneCurve_5 : decode cX6_isOneCurve 5 = .ok (.iload_n 3, 1) := by decide +kernel
theorem dX6_isOneCurve_6 : decode cX6_isOneCurve 6 = .ok (.iload_n 2, 1) := by decide +kernel
theorem dX6_isOneCurve_7 : decode cX6_isOneCurve 7 = .ok (.if_icmp .ge 36, 3) := by decide +kernel
theorem dX6_isOneCurve_10 : decode cX6_isOneCurve 10 = .ok (.aload_n 1, 1) := by decide +kernel
theorem dX6_isOneCurve_11 : decode cX6_isOneCurve 11 = .ok (.iload_n 3, 1) := by decide +kernel
theorem dX6_isOneCurve_12 : decode cX6_isOneCurve 12 = .ok (.iaload, 1) := by decide +kernel
theorem dX6_isOneCurve_13 : decode cX6_isOneCurve 13 = .ok (.istore 4, 2) := by decide +kernel
theorem dX6_isOneCurve_15 : decode cX6_isOneCurve 15 = .ok (.aload_n 0, 1) := by decide +kernel
theorem dX6_isOneCurve_16 : decode cX6_isOneCurve 16 = .ok (.getfield 9, 3) := by decide +kernel
theorem dX6_isOneCurve_19 : decode cX6_isOneCurve 19 = .ok (.iload 4, 2) := by decide +kernel
theorem dX6_isOneCurve_21 : decode cX6_isOneCurve 21 = .ok (.iaload, 1) := by decide +kernel
theorem dX6_isOneCurve_22 : decode cX6_isOneCurve 22 = .ok (.aload_n 0, 1) := by decide +kernel
theorem dX6_isOneCurve_23 : decode cX6_isOneCurve 23 = .ok (.aload_n 1, 1) := by decide +kernel
theorem dX6_isOneCurve_24 : decode cX6_isOneCurve 24 = .ok (.iload 4, 2) := by decide +kernel
theorem dX6_isOneCurve_26 : decode cX6_isOneCurve 26 = .ok (.invokestatic 41, 3) := by decide +kernel
theorem dX6_isOneCurve_29 : decode cX6_isOneCurve 29 = .ok (.invokevirtual 52, 3) := by decide +kernel
theorem dX6_isOneCurve_32 : decode cX6_isOneCurve 32 = .ok (.if_icmp .eq 5, 3) := by decide +kernel
theorem dX6_isOneCurve_35 : decode cX6_isOneCurve 35 = .ok (.iconst 0, 1) := by decide +kernel
theorem dX6_isOneCurve_36 : decode cX6_isOneCurve 36 = .ok (.ireturn, 1) := by decide +kernel
theorem dX6_isOneCurve_37 : decode cX6_isOneCurve 37 = .ok (.iinc 3 1, 3) := by decide +kernel
theorem dX6_isOneCurve_40 : decode cX6_isOneCurve 40 = .ok (.goto (-35), 3) := by decide +kernel
theorem dX6_isOneCurve_43 : decode cX6_isOneCurve 43 = .ok (.iconst 1, 1) := by decide +kernel
theorem dX6_isOneCurve_44 : decode cX6_isOneCurve 44 = .ok (.ireturn, 1) := by decide +kernel
theorem dX6_valueThrough_0 : decode cX6_valueThrough 0 = .ok (.iconst 0, 1) := by decide +kernel
theorem dX6_valueThrough_1 : decode cX6_valueThrough 1 = .ok (.istore_n 3, 1) := by decide +kernel
theorem dX6_valueThrough_2 : decode cX6_valueThrough 2 = .ok (.iconst 0, 1) := by decide +kernel
theorem dX6_valueThrough_3 : decode cX6_valueThrough 3 = .ok (.istore 4, 2) := by decide +kernel
theorem dX6_valueThrough_5 : decode cX6_valueThrough 5 = .ok (.iload 4, 2) := by decide +kernel
theorem dX6_valueThrough_7 : decode cX6_valueThrough 7 = .ok (.aload_n 0, 1) := by decide +kernel
theorem dX6_valueThrough_8 : decode cX6_valueThrough 8 = .ok (.getfield 35, 3) := by decide +kernel
theorem dX6_valueThrough_11 : decode cX6_valueThrough 11 = .ok (.if_icmp .ge 30, 3) := by decide +kernel
theorem dX6_valueThrough_14 : decode cX6_valueThrough 14 = .ok (.iload_n 3, 1) := by decide +kernel
theorem dX6_valueThrough_15 : decode cX6_valueThrough 15 = .ok (.aload_n 0, 1) := by decide +kernel
theorem dX6_valueThrough_16 : decode cX6_valueThrough 16 = .ok (.getfield 9, 3) := by decide +kernel
theorem dX6_valueThrough_19 : decode cX6_valueThrough 19 = .ok (.aload_n 1, 1) := by decide +kernel
theorem dX6_valueThrough_20 : decode cX6_valueThrough 20 = .ok (.iload 4, 2) := by decide +kernel
theorem dX6_valueThrough_22 : decode cX6_valueThrough 22 = .ok (.iaload, 1) := by decide +kernel
theorem dX6_valueThrough_23 : decode cX6_valueThrough 23 = .ok (.iaload, 1) := by decide +kernel
theorem dX6_valueThrough_24 : decode cX6_valueThrough 24 = .ok (.aload_n 0, 1) := by decide +kernel
theorem dX6_valueThrough_25 : decode cX6_valueThrough 25 = .ok (.aload_n 1, 1) := by decide +kernel
theorem dX6_valueThrough_26 : decode cX6_valueThrough 26 = .ok (.iload 4, 2) := by decide +kernel
theorem dX6_valueThrough_28 : decode cX6_valueThrough 28 = .ok (.iload_n 2, 1) := by decide +kernel
theorem dX6_valueThrough_29 : decode cX6_valueThrough 29 = .ok (.invokevirtual 62, 3) := by decide +kernel
theorem dX6_valueThrough_32 : decode cX6_valueThrough 32 = .ok (.imul, 1) := by decide +kernel
theorem dX6_valueThrough_33 : decode cX6_valueThrough 33 = .ok (.iadd, 1) := by decide +kernel
theorem dX6_valueThrough_34 : decode cX6_valueThrough 34 = .ok (.istore_n 3, 1) := by decide +kernel
theorem dX6_valueThrough_35 : decode cX6_valueThrough 35 = .ok (.iinc 4 1, 3) := by decide +kernel
theorem dX6_valueThrough_38 : decode cX6_valueThrough 38 = .ok (.goto (-33), 3) := by decide +kernel
theorem dX6_valueThrough_41 : decode cX6_valueThrough 41 = .ok (.iload_n 3, 1) := by decide +kernel
theorem dX6_valueThrough_42 : decode cX6_valueThrough 42 = .ok (.bipush 97, 2) := by decide +kernel
theorem dX6_valueThrough_44 : decode cX6_valueThrough 44 = .ok (.irem, 1) := by decide +kernel
theorem dX6_valueThrough_45 : decode cX6_valueThrough 45 = .ok (.ireturn, 1) := by decide +kernel
theorem dX6_quotientsOf_0 : decode cX6_quotientsOf 0 = .ok (.iload_n 3, 1) := by decide +kernel
theorem dX6_quotientsOf_1 : decode cX6_quotientsOf 1 = .ok (.iconst 1, 1) := by decide +kernel
theorem dX6_quotientsOf_2 : decode cX6_quotientsOf 2 = .ok (.isub, 1) := by decide +kernel
theorem dX6_quotientsOf_3 : decode cX6_quotientsOf 3 = .ok (.istore 4, 2) := by decide +kernel
theorem dX6_quotientsOf_5 : decode cX6_quotientsOf 5 = .ok (.iconst 1, 1) := by decide +kernel
theorem dX6_quotientsOf_6 : decode cX6_quotientsOf 6 = .ok (.istore 5, 2) := by decide +kernel
theorem dX6_quotientsOf_8 : decode cX6_quotientsOf 8 = .ok (.iconst 1, 1) := by decide +kernel
theorem dX6_quotientsOf_9 : decode cX6_quotientsOf 9 = .ok (.istore 6, 2) := by decide +kernel
theorem dX6_quotientsOf_11 : decode cX6_quotientsOf 11 = .ok (.iconst 0, 1) := by decide +kernel
theorem dX6_quotientsOf_12 : decode cX6_quotientsOf 12 = .ok (.istore 7, 2) := by decide +kernel
theorem dX6_quotientsOf_14 : decode cX6_quotientsOf 14 = .ok (.iload 7, 2) := by decide +kernel
theorem dX6_quotientsOf_16 : decode cX6_quotientsOf 16 = .ok (.aload_n 0, 1) := by decide +kernel
theorem dX6_quotientsOf_17 : decode cX6_quotientsOf 17 = .ok (.getfield 35, 3) := by decide +kernel
theorem dX6_quotientsOf_20 : decode cX6_quotientsOf 20 = .ok (.if_icmp .ge 52, 3) := by decide +kernel
theorem dX6_quotientsOf_23 : decode cX6_quotientsOf 23 = .ok (.iload 7, 2) := by decide +kernel
theorem dX6_quotientsOf_25 : decode cX6_quotientsOf 25 = .ok (.iload_n 2, 1) := by decide +kernel
theorem dX6_quotientsOf_26 : decode cX6_quotientsOf 26 = .ok (.if_icmp .eq 40, 3) := by decide +kernel
theorem dX6_quotientsOf_29 : decode cX6_quotientsOf 29 = .ok (.iload 5, 2) := by decide +kernel
theorem dX6_quotientsOf_31 : decode cX6_quotientsOf 31 = .ok (.iload 4, 2) := by decide +kernel
theorem dX6_quotientsOf_33 : decode cX6_quotientsOf 33 = .ok (.aload_n 1, 1) := by decide +kernel
theorem dX6_quotientsOf_34 : decode cX6_quotientsOf 34 = .ok (.iload 7, 2) := by decide +kernel
theorem dX6_quotientsOf_36 : decode cX6_quotientsOf 36 = .ok (.iaload, 1) := by decide +kernel
theorem dX6_quotientsOf_37 : decode cX6_quotientsOf 37 = .ok (.isub, 1) := by decide +kernel
theorem dX6_quotientsOf_38 : decode cX6_quotientsOf 38 = .ok (.bipush 97, 2) := by decide +kernel
theorem dX6_quotientsOf_40 : decode cX6_quotientsOf 40 = .ok (.iadd, 1) := by decide +kernel
theorem dX6_quotientsOf_41 : decode cX6_quotientsOf 41 = .ok (.imul, 1) := by decide +kernel
theorem dX6_quotientsOf_42 : decode cX6_quotientsOf 42 = .ok (.bipush 97, 2) := by decide +kernel
theorem dX6_quotientsOf_44 : decode cX6_quotientsOf 44 = .ok (.irem, 1) := by decide +kernel
theorem dX6_quotientsOf_45 : decode cX6_quotientsOf 45 = .ok (.istore 5, 2) := by decide +kernel
theorem dX6_quotientsOf_47 : decode cX6_quotientsOf 47 = .ok (.iload 6, 2) := by decide +kernel
theorem dX6_quotientsOf_49 : decode cX6_quotientsOf 49 = .ok (.aload_n 1, 1) := by decide +kernel
theorem dX6_quotientsOf_50 : decode cX6_quotientsOf 50 = .ok (.iload_n 2, 1) := by decide +kernel
theorem dX6_quotientsOf_51 : decode cX6_quotientsOf 51 = .ok (.iaload, 1) := by decide +kernel
theorem dX6_quotientsOf_52 : decode cX6_quotientsOf 52 = .ok (.aload_n 1, 1) := by decide +kernel
theorem dX6_quotientsOf_53 : decode cX6_quotientsOf 53 = .ok (.iload 7, 2) := by decide +kernel
theorem dX6_quotientsOf_55 : decode cX6_quotientsOf 55 = .ok (.iaload, 1) := by decide +kernel
theorem dX6_quotientsOf_56 : decode cX6_quotientsOf 56 = .ok (.isub, 1) := by decide +kernel
theorem dX6_quotientsOf_57 : decode cX6_quotientsOf 57 = .ok (.bipush 97, 2) := by decide +kernel
theorem dX6_quotientsOf_59 : decode cX6_quotientsOf 59 = .ok (.iadd, 1) := by decide +kernel
theorem dX6_quotientsOf_60 : decode cX6_quotientsOf 60 = .ok (.imul, 1) := by decide +kernel
theorem dX6_quotientsOf_61 : decode cX6_quotientsOf 61 = .ok (.bipush 97, 2) := by decide +kernel
theorem dX6_quotientsOf_63 : decode cX6_quotientsOf 63 = .ok (.irem, 1) := by decide +kernel
theorem dX6_quotientsOf_64 : decode cX6_quotientsOf 64 = .ok (.istore 6, 2) := by decide +kernel
theorem dX6_quotientsOf_66 : decode cX6_quotientsOf 66 = .ok (.iinc 7 1, 3) := by decide +kernel
theorem dX6_quotientsOf_69 : decode cX6_quotientsOf 69 = .ok (.goto (-55), 3) := by decide +kernel
theorem dX6_quotientsOf_72 : decode cX6_quotientsOf 72 = .ok (.iload 5, 2) := by decide +kernel
theorem dX6_quotientsOf_74 : decode cX6_quotientsOf 74 = .ok (.getstatic 66, 3) := by decide +kernel
theorem dX6_quotientsOf_77 : decode cX6_quotientsOf 77 = .ok (.iload 6, 2) := by decide +kernel
theorem dX6_quotientsOf_79 : decode cX6_quotientsOf 79 = .ok (.iaload, 1) := by decide +kernel
theorem dX6_quotientsOf_80 : decode cX6_quotientsOf 80 = .ok (.imul, 1) := by decide +kernel
theorem dX6_quotientsOf_81 : decode cX6_quotientsOf 81 = .ok (.bipush 97, 2) := by decide +kernel
theorem dX6_quotientsOf_83 : decode cX6_quotientsOf 83 = .ok (.irem, 1) := by decide +kernel
theorem dX6_quotientsOf_84 : decode cX6_quotientsOf 84 = .ok (.ireturn, 1) := by decide +kernel
theorem dX7_init_0 : decode cX7_init 0 = .ok (.aload_n 0, 1) := by decide +kernel
theorem dX7_init_1 : decode cX7_init 1 = .ok (.invokespecial 3, 3) := by decide +kernel
theorem dX7_init_4 : decode cX7_init 4 = .ok (.aload_n 0, 1) := by decide +kernel
theorem dX7_init_5 : decode cX7_init 5 = .ok (.sipush 200, 3) := by decide +kernel
theorem dX7_init_8 : decode cX7_init 8 = .ok (.newarray .char, 2) := by decide +kernel
theorem dX7_init_10 : decode cX7_init 10 = .ok (.putfield 9, 3) := by decide +kernel
theorem dX7_init_13 : decode cX7_init 13 = .ok (.return_, 1) := by decide +kernel
theorem dX8_init_0 : decode cX8_init 0 = .ok (.aload_n 0, 1) := by decide +kernel
theorem dX8_init_1 : decode cX8_init 1 = .ok (.invokespecial 3, 3) := by decide +kernel
theorem dX8_init_4 : decode cX8_init 4 = .ok (.aload_n 0, 1) := by decide +kernel
theorem dX8_init_5 : decode cX8_init 5 = .ok (.iconst 3, 1) := by decide +kernel
theorem dX8_init_6 : decode cX8_init 6 = .ok (.iconst 4, 1) := by decide +kernel
theorem dX8_init_7 : decode cX8_init 7 = .ok (.multianewarray 9 2, 4) := by decide +kernel
theorem dX8_init_11 : decode cX8_init 11 = .ok (.putfield 11, 3) := by decide +kernel
theorem dX8_init_14 : decode cX8_init 14 = .ok (.aload_n 0, 1) := by decide +kernel
theorem dX8_init_15 : decode cX8_init 15 = .ok (.iconst 3, 1) := by decide +kernel
theorem dX8_init_16 : decode cX8_init 16 = .ok (.newarray .int, 2) := by decide +kernel
theorem dX8_init_18 : decode cX8_init 18 = .ok (.putfield 16, 3) := by decide +kernel
theorem dX8_init_21 : decode cX8_init 21 = .ok (.aload_n 0, 1) := by decide +kernel
theorem dX8_init_22 : decode cX8_init 22 = .ok (.bipush 8, 2) := by decide +kernel
theorem dX8_init_24 : decode cX8_init 24 = .ok (.newarray .int, 2) := by decide +kernel
theorem dX8_init_26 : decode cX8_init 26 = .ok (.putfield 20, 3) := by decide +kernel
theorem dX8_init_29 : decode cX8_init 29 = .ok (.return_, 1) := by decide +kernel
theorem dX8_secretOf_0 : decode cX8_secretOf 0 = .ok (.aload_n 0, 1) := by decide +kernel
theorem dX8_secretOf_1 : decode cX8_secretOf 1 = .ok (.aload_n 1, 1) := by decide +kernel
theorem dX8_secretOf_2 : decode cX8_secretOf 2 = .ok (.aload_n 1, 1) := by decide +kernel
theorem dX8_secretOf_3 : decode cX8_secretOf 3 = .ok (.getfield 23, 3) := by decide +kernel
theorem dX8_secretOf_6 : decode cX8_secretOf 6 = .ok (.invokevirtual 28, 3) := by decide +kernel
theorem dX8_secretOf_9 : decode cX8_secretOf 9 = .ok (.aload_n 0, 1) := by decide +kernel
theorem dX8_secretOf_10 : decode cX8_secretOf 10 = .ok (.getfield 16, 3) := by decide +kernel
theorem dX8_secretOf_13 : decode cX8_secretOf 13 = .ok (.iconst 0, 1) := by decide +kernel
theorem dX8_secretOf_14 : decode cX8_secretOf 14 = .ok (.iaload, 1) := by decide +kernel
theorem dX8_secretOf_15 : decode cX8_secretOf 15 = .ok (.ireturn, 1) := by decide +kernel
theorem dX8_mostOnCurves_0 : decode cX8_mostOnCurves 0 = .ok (.iconst 0, 1) := by decide +kernel
theorem dX8_mostOnCurves_1 : decode cX8_mostOnCurves 1 = .ok (.istore_n 2, 1) := by decide +kernel
theorem dX8_mostOnCurves_2 : decode cX8_mostOnCurves 2 = .ok (.iconst 1, 1) := by decide +kernel
theorem dX8_mostOnCurves_3 : decode cX8_mostOnCurves 3 = .ok (.istore_n 3, 1) := by decide +kernel
theorem dX8_mostOnCurves_4 : decode cX8_mostOnCurves 4 = .ok (.iload_n 3, 1) := by decide +kernel
theorem dX8_mostOnCurves_5 : decode cX8_mostOnCurves 5 = .ok (.iconst 1, 1) := by decide +kernel
theorem dX8_mostOnCurves_6 : decode cX8_mostOnCurves 6 = .ok (.aload_n 1, 1) := by decide +kernel
theorem dX8_mostOnCurves_7 : decode cX8_mostOnCurves 7 = .ok (.getfield 32, 3) := by decide +kernel
theorem dX8_mostOnCurves_10 : decode cX8_mostOnCurves 10 = .ok (.ishl, 1) := by decide +kernel
theorem dX8_mostOnCurves_11 : decode cX8_mostOnCurves 11 = .ok (.if_icmp .ge 45, 3) := by decide +kernel
theorem dX8_mostOnCurves_14 : decode cX8_mostOnCurves 14 = .ok (.iload_n 3, 1) := by decide +kernel
theorem dX8_mostOnCurves_15 : decode cX8_mostOnCurves 15 = .ok (.invokestatic 36, 3) := by decide +kernel
theorem dX8_mostOnCurves_18 : decode cX8_mostOnCurves 18 = .ok (.aload_n 1, 1) := by decide +kernel
theorem dX8_mostOnCurves_19 : decode cX8_mostOnCurves 19 = .ok (.getfield 42, 3) := by decide +kernel
theorem dX8_mostOnCurves_22 : decode cX8_mostOnCurves 22 = .ok (.if_icmp .ne 28, 3) := by decide +kernel
theorem dX8_mostOnCurves_25 : decode cX8_mostOnCurves 25 = .ok (.aload_n 0, 1) := by decide +kernel
theorem dX8_mostOnCurves_26 : decode cX8_mostOnCurves 26 = .ok (.aload_n 1, 1) := by decide +kernel
theorem dX8_mostOnCurves_27 : decode cX8_mostOnCurves 27 = .ok (.iload_n 3, 1) := by decide +kernel
theorem dX8_mostOnCurves_28 : decode cX8_mostOnCurves 28 = .ok (.invokevirtual 45, 3) := by decide +kernel
theorem dX8_mostOnCurves_31 : decode cX8_mostOnCurves 31 = .ok (.aload_n 0, 1) := by decide +kernel
theorem dX8_mostOnCurves_32 : decode cX8_mostOnCurves 32 = .ok (.aload_n 1, 1) := by decide +kernel
theorem dX8_mostOnCurves_33 : decode cX8_mostOnCurves 33 = .ok (.aload_n 0, 1) := by decide +kernel
theorem dX8_mostOnCurves_34 : decode cX8_mostOnCurves 34 = .ok (.getfield 20, 3) := by decide +kernel
theorem dX8_mostOnCurves_37 : decode cX8_mostOnCurves 37 = .ok (.invokevirtual 28, 3) := by decide +kernel
theorem dX8_mostOnCurves_40 : decode cX8_mostOnCurves 40 = .ok (.iload_n 2, 1) := by decide +kernel
theorem dX8_mostOnCurves_41 : decode cX8_mostOnCurves 41 = .ok (.aload_n 0, 1) := by decide +kernel
theorem dX8_mostOnCurves_42 : decode cX8_mostOnCurves 42 = .ok (.aload_n 1, 1) := by decide +kernel
theorem dX8_mostOnCurves_43 : decode cX8_mostOnCurves 43 = .ok (.invokevirtual 49, 3) := by decide +kernel
theorem dX8_mostOnCurves_46 : decode cX8_mostOnCurves 46 = .ok (.invokestatic 53, 3) := by decide +kernel
theorem dX8_mostOnCurves_49 : decode cX8_mostOnCurves 49 = .ok (.istore_n 2, 1) := by decide +kernel
theorem dX8_mostOnCurves_50 : decode cX8_mostOnCurves 50 = .ok (.iinc 3 1, 3) := by decide +kernel
theorem dX8_mostOnCurves_53 : decode cX8_mostOnCurves 53 = .ok (.goto (-49), 3) := by decide +kernel
theorem dX8_mostOnCurves_56 : decode cX8_mostOnCurves 56 = .ok (.iload_n 2, 1) := by decide +kernel
theorem dX8_mostOnCurves_57 : decode cX8_mostOnCurves 57 = .ok (.ireturn, 1) := by decide +kernel
theorem dX8_mostInSets_0 : decode cX8_mostInSets 0 = .ok (.iconst 0, 1) := by decide +kernel
theorem dX8_mostInSets_1 : decode cX8_mostInSets 1 = .ok (.istore_n 2, 1) := by decide +kernel
theorem dX8_mostInSets_2 : decode cX8_mostInSets 2 = .ok (.iconst 1, 1) := by decide +kernel
theorem dX8_mostInSets_3 : decode cX8_mostInSets 3 = .ok (.istore_n 3, 1) := by decide +kernel
theorem dX8_mostInSets_4 : decode cX8_mostInSets 4 = .ok (.iload_n 3, 1) := by decide +kernel
theorem dX8_mostInSets_5 : decode cX8_mostInSets 5 = .ok (.iconst 1, 1) := by decide +kernel
theorem dX8_mostInSets_6 : decode cX8_mostInSets 6 = .ok (.aload_n 1, 1) := by decide +kernel
theorem dX8_mostInSets_7 : decode cX8_mostInSets 7 = .ok (.getfield 32, 3) := by decide +kernel
theorem dX8_mostInSets_10 : decode cX8_mostInSets 10 = .ok (.ishl, 1) := by decide +kernel
theorem dX8_mostInSets_11 : decode cX8_mostInSets 11 = .ok (.if_icmp .ge 43, 3) := by decide +kernel
theorem dX8_mostInSets_14 : decode cX8_mostInSets 14 = .ok (.iload_n 3, 1) := by decide +kernel
theorem dX8_mostInSets_15 : decode cX8_mostInSets 15 = .ok (.invokestatic 36, 3) := by decide +kernel
theorem dX8_mostInSets_18 : decode cX8_mostInSets 18 = .ok (.istore 4, 2) := by decide +kernel
theorem dX8_mostInSets_20 : decode cX8_mostInSets 20 = .ok (.iload 4, 2) := by decide +kernel
theorem dX8_mostInSets_22 : decode cX8_mostInSets 22 = .ok (.iload_n 2, 1) := by decide +kernel
theorem dX8_mostInSets_23 : decode cX8_mostInSets 23 = .ok (.if_icmp .le 25, 3) := by decide +kernel
theorem dX8_mostInSets_26 : decode cX8_mostInSets 26 = .ok (.aload_n 0, 1) := by decide +kernel
theorem dX8_mostInSets_27 : decode cX8_mostInSets 27 = .ok (.aload_n 1, 1) := by decide +kernel
theorem dX8_mostInSets_28 : decode cX8_mostInSets 28 = .ok (.iload_n 3, 1) := by decide +kernel
theorem dX8_mostInSets_29 : decode cX8_mostInSets 29 = .ok (.invokevirtual 45, 3) := by decide +kernel
theorem dX8_mostInSets_32 : decode cX8_mostInSets 32 = .ok (.aload_n 1, 1) := by decide +kernel
theorem dX8_mostInSets_33 : decode cX8_mostInSets 33 = .ok (.aload_n 0, 1) := by decide +kernel
theorem dX8_mostInSets_34 : decode cX8_mostInSets 34 = .ok (.getfield 20, 3) := by decide +kernel
theorem dX8_mostInSets_37 : decode cX8_mostInSets 37 = .ok (.iload 4, 2) := by decide +kernel
theorem dX8_mostInSets_39 : decode cX8_mostInSets 39 = .ok (.invokevirtual 59, 3) := by decide +kernel
theorem dX8_mostInSets_42 : decode cX8_mostInSets 42 = .ok (.ifCond .eq 6, 3) := by decide +kernel
theorem dX8_mostInSets_45 : decode cX8_mostInSets 45 = .ok (.iload 4, 2) := by decide +kernel
theorem dX8_mostInSets_47 : decode cX8_mostInSets 47 = .ok (.istore_n 2, 1) := by decide +kernel
theorem dX8_mostInSets_48 : decode cX8_mostInSets 48 = .ok (.iinc 3 1, 3) := by decide +kernel
theorem dX8_mostInSets_51 : decode cX8_mostInSets 51 = .ok (.goto (-47), 3) := by decide +kernel
theorem dX8_mostInSets_54 : decode cX8_mostInSets 54 = .ok (.iload_n 2, 1) := by decide +kernel
theorem dX8_mostInSets_55 : decode cX8_mostInSets 55 = .ok (.ireturn, 1) := by decide +kernel
theorem dX8_choose_0 : decode cX8_choose 0 = .ok (.iconst 0, 1) := by decide +kernel
theorem dX8_choose_1 : decode cX8_choose 1 = .ok (.istore_n 3, 1) := by decide +kernel
theorem dX8_choose_2 : decode cX8_choose 2 = .ok (.iconst 0, 1) := by decide +kernel
theorem dX8_choose_3 : decode cX8_choose 3 = .ok (.istore 4, 2) := by decide +kernel
theorem dX8_choose_5 : decode cX8_choose 5 = .ok (.iload 4, 2) := by decide +kernel
theorem dX8_choose_7 : decode cX8_choose 7 = .ok (.aload_n 1, 1) := by decide +kernel
theorem dX8_choose_8 : decode cX8_choose 8 = .ok (.getfield 32, 3) := by decide +kernel
theorem dX8_choose_11 : decode cX8_choose 11 = .ok (.if_icmp .ge 35, 3) := by decide +kernel
theorem dX8_choose_14 : decode cX8_choose 14 = .ok (.iload_n 2, 1) := by decide +kernel
theorem dX8_choose_15 : decode cX8_choose 15 = .ok (.iload 4, 2) := by decide +kernel
theorem dX8_choose_17 : decode cX8_choose 17 = .ok (.ishr, 1) := by decide +kernel
theorem dX8_choose_18 : decode cX8_choose 18 = .ok (.iconst 1, 1) := by decide +kernel
theorem dX8_choose_19 : decode cX8_choose 19 = .ok (.iand, 1) := by decide +kernel
theorem dX8_choose_20 : decode cX8_choose 20 = .ok (.iconst 1, 1) := by decide +kernel
theorem dX8_choose_21 : decode cX8_choose 21 = .ok (.if_icmp .ne 19, 3) := by decide +kernel
theorem dX8_choose_24 : decode cX8_choose 24 = .ok (.aload_n 0, 1) := by decide +kernel
theorem dX8_choose_25 : decode cX8_choose 25 = .ok (.getfield 20, 3) := by decide +kernel
theorem dX8_choose_28 : decode cX8_choose 28 = .ok (.iload_n 3, 1) := by decide +kernel
theorem dX8_choose_29 : decode cX8_choose 29 = .ok (.aload_n 1, 1) := by decide +kernel
theorem dX8_choose_30 : decode cX8_choose 30 = .ok (.getfield 23, 3) := by decide +kernel
theorem dX8_choose_33 : decode cX8_choose 33 = .ok (.iload 4, 2) := by decide +kernel
theorem dX8_choose_35 : decode cX8_choose 35 = .ok (.iaload, 1) := by decide +kernel
theorem dX8_choose_36 : decode cX8_choose 36 = .ok (.iastore, 1) := by decide +kernel
theorem dX8_choose_37 : decode cX8_choose 37 = .ok (.iinc 3 1, 3) := by decide +kernel
theorem dX8_choose_40 : decode cX8_choose 40 = .ok (.iinc 4 1, 3) := by decide +kernel
theorem dX8_choose_43 : decode cX8_choose 43 = .ok (.goto (-38), 3) := by decide +kernel
theorem dX8_choose_46 : decode cX8_choose 46 = .ok (.return_, 1) := by decide +kernel
theorem dX8_countOnCurve_0 : decode cX8_countOnCurve 0 = .ok (.iconst 0, 1) := by decide +kernel
theorem dX8_countOnCurve_1 : decode cX8_countOnCurve 1 = .ok (.istore_n 2, 1) := by decide +kernel
theorem dX8_countOnCurve_2 : decode cX8_countOnCurve 2 = .ok (.iconst 0, 1) := by decide +kernel
theorem dX8_countOnCurve_3 : decode cX8_countOnCurve 3 = .ok (.istore_n 3, 1) := by decide +kernel
theorem dX8_countOnCurve_4 : decode cX8_countOnCurve 4 = .ok (.iload_n 3, 1) := by decide +kernel
theorem dX8_countOnCurve_5 : decode cX8_countOnCurve 5 = .ok (.aload_n 1, 1) := by decide +kernel
theorem dX8_countOnCurve_6 : decode cX8_countOnCurve 6 = .ok (.getfield 32, 3) := by decide +kernel
theorem dX8_countOnCurve_9 : decode cX8_countOnCurve 9 = .ok (.if_icmp .ge 42, 3) := by decide +kernel
theorem dX8_countOnCurve_12 : decode cX8_countOnCurve 12 = .ok (.aload_n 1, 1) := by decide +kernel
theorem dX8_countOnCurve_13 : decode cX8_countOnCurve 13 = .ok (.getfield 23, 3) := by decide +kernel
theorem dX8_countOnCurve_16 : decode cX8_countOnCurve 16 = .ok (.iload_n 3, 1) := by decide +kernel
theorem dX8_countOnCurve_17 : decode cX8_countOnCurve 17 = .ok (.iaload, 1) := by decide +kernel
theorem dX8_countOnCurve_18 : decode cX8_countOnCurve 18 = .ok (.istore 4, 2) := by decide +kernel
theorem dX8_countOnCurve_20 : decode cX8_countOnCurve 20 = .ok (.aload_n 1, 1) := by decide +kernel
theorem dX8_countOnCurve_21 : decode cX8_countOnCurve 21 = .ok (.getfield 63, 3) := by decide +kernel
theorem dX8_countOnCurve_24 : decode cX8_countOnCurve 24 = .ok (.iload 4, 2) := by decide +kernel
theorem dX8_countOnCurve_26 : decode cX8_countOnCurve 26 = .ok (.iaload, 1) := by decide +kernel
theorem dX8_countOnCurve_27 : decode cX8_countOnCurve 27 = .ok (.aload_n 0, 1) := by decide +kernel
theorem dX8_countOnCurve_28 : decode cX8_countOnCurve 28 = .ok (.getfield 16, 3) := by decide +kernel
theorem dX8_countOnCurve_31 : decode cX8_countOnCurve 31 = .ok (.iload 4, 2) := by decide +kernel
theorem dX8_countOnCurve_33 : decode cX8_countOnCurve 33 = .ok (.invokestatic 66, 3) := by decide +kernel
theorem dX8_countOnCurve_36 : decode cX8_countOnCurve 36 = .ok (.invokestatic 69, 3) := by decide +kernel
theorem dX8_countOnCurve_39 : decode cX8_countOnCurve 39 = .ok (.if_icmp .ne 6, 3) := by decide +kernel
theorem dX8_countOnCurve_42 : decode cX8_countOnCurve 42 = .ok (.iinc 2 1, 3) := by decide +kernel
theorem dX8_countOnCurve_45 : decode cX8_countOnCurve 45 = .ok (.iinc 3 1, 3) := by decide +kernel
theorem dX8_countOnCurve_48 : decode cX8_countOnCurve 48 = .ok (.goto (-44), 3) := by decide +kernel
theorem dX8_countOnCurve_51 : decode cX8_countOnCurve 51 = .ok (.iload_n 2, 1) := by decide +kernel
theorem dX8_countOnCurve_52 : decode cX8_countOnCurve 52 = .ok (.ireturn, 1) := by decide +kernel
theorem dX8_fit_0 : decode cX8_fit 0 = .ok (.aload_n 1, 1) := by decide +kernel
theorem dX8_fit_1 : decode cX8_fit 1 = .ok (.getfield 42, 3) := by decide +kernel
theorem dX8_fit_4 : decode cX8_fit 4 = .ok (.istore_n 3, 1) := by decide +kernel
theorem dX8_fit_5 : decode cX8_fit 5 = .ok (.iconst 0, 1) := by decide +kernel
theorem dX8_fit_6 : decode cX8_fit 6 = .ok (.istore 4, 2) := by decide +kernel
theorem dX8_fit_8 : decode cX8_fit 8 = .ok (.iload 4, 2) := by decide +kernel
theorem dX8_fit_10 : decode cX8_fit 10 = .ok (.iload_n 3, 1) := by decide +kernel
theorem dX8_fit_11 : decode cX8_fit 11 = .ok (.if_icmp .ge 29, 3) := by decide +kernel
theorem dX8_fit_14 : decode cX8_fit 14 = .ok (.aload_n 0, 1) := by decide +kernel
theorem dX8_fit_15 : decode cX8_fit 15 = .ok (.iload 4, 2) := by decide +kernel
theorem dX8_fit_17 : decode cX8_fit 17 = .ok (.iload_n 3, 1) := by decide +kernel
theorem dX8_fit_18 : decode cX8_fit 18 = .ok (.aload_n 2, 1) := by decide +kernel
theorem dX8_fit_19 : decode cX8_fit 19 = .ok (.iload 4, 2) := by decide +kernel
theorem dX8_fit_21 : decode cX8_fit 21 = .ok (.iaload, 1) := by decide +kernel
theorem dX8_fit_22 : decode cX8_fit 22 = .ok (.aload_n 1, 1) := by decide +kernel
theorem dX8_fit_23 : decode cX8_fit 23 = .ok (.getfield 63, 3) := by decide +kernel
theorem dX8_fit_26 : decode cX8_fit 26 = .ok (.aload_n 2, 1) := by decide +kernel
theorem dX8_fit_27 : decode cX8_fit 27 = .ok (.iload 4, 2) := by decide +kernel
theorem dX8_fit_29 : decode cX8_fit 29 = .ok (.iaload, 1) := by decide +kernel
theorem dX8_fit_30 : decode cX8_fit 30 = .ok (.iaload, 1) := by decide +kernel
theorem dX8_fit_31 : decode cX8_fit 31 = .ok (.invokevirtual 73, 3) := by decide +kernel
theorem dX8_fit_34 : decode cX8_fit 34 = .ok (.iinc 4 1, 3) := by decide +kernel
theorem dX8_fit_37 : decode cX8_fit 37 = .ok (.goto (-29), 3) := by decide +kernel
theorem dX8_fit_40 : decode cX8_fit 40 = .ok (.iconst 0, 1) := by decide +kernel
theorem dX8_fit_41 : decode cX8_fit 41 = .ok (.istore 4, 2) := by decide +kernel
theorem dX8_fit_43 : decode cX8_fit 43 = .ok (.iload 4, 2) := by decide +kernel
theorem dX8_fit_45 : decode cX8_fit 45 = .ok (.iload_n 3, 1) := by decide +kernel
theorem dX8_fit_46 : decode cX8_fit 46 = .ok (.if_icmp .ge 16, 3) := by decide +kernel
theorem dX8_fit_49 : decode cX8_fit 49 = .ok (.aload_n 0, 1) := by decide +kernel
theorem dX8_fit_50 : decode cX8_fit 50 = .ok (.iload 4, 2) := by decide +kernel
theorem dX8_fit_52 : decode cX8_fit 52 = .ok (.iload_n 3, 1) := by decide +kernel
theorem dX8_fit_53 : decode cX8_fit 53 = .ok (.invokevirtual 77, 3) := by decide +kernel
theorem dX8_fit_56 : decode cX8_fit 56 = .ok (.iinc 4 1, 3) := by decide +kernel
theorem dX8_fit_59 : decode cX8_fit 59 = .ok (.goto (-16), 3) := by decide +kernel
theorem dX8_fit_62 : decode cX8_fit 62 = .ok (.iconst 0, 1) := by decide +kernel
theorem dX8_fit_63 : decode cX8_fit 63 = .ok (.istore 4, 2) := by decide +kernel
theorem dX8_fit_65 : decode cX8_fit 65 = .ok (.iload 4, 2) := by decide +kernel
theorem dX8_fit_67 : decode cX8_fit 67 = .ok (.iconst 3, 1) := by decide +kernel
theorem dX8_fit_68 : decode cX8_fit 68 = .ok (.if_icmp .ge 35, 3) := by decide +kernel
theorem dX8_fit_71 : decode cX8_fit 71 = .ok (.aload_n 0, 1) := by decide +kernel
theorem dX8_fit_72 : decode cX8_fit 72 = .ok (.getfield 16, 3) := by decide +kernel
theorem dX8_fit_75 : decode cX8_fit 75 = .ok (.iload 4, 2) := by decide +kernel
theorem dX8_fit_77 : decode cX8_fit 77 = .ok (.iload 4, 2) := by decide +kernel
theorem dX8_fit_79 : decode cX8_fit 79 = .ok (.iload_n 3, 1) := by decide +kernel
theorem dX8_fit_80 : decode cX8_fit 80 = .ok (.if_icmp .ge 15, 3) := by decide +kernel
theorem dX8_fit_83 : decode cX8_fit 83 = .ok (.aload_n 0, 1) := by decide +kernel
theorem dX8_fit_84 : decode cX8_fit 84 = .ok (.getfield 11, 3) := by decide +kernel
theorem dX8_fit_87 : decode cX8_fit 87 = .ok (.iload 4, 2) := by decide +kernel
theorem dX8_fit_89 : decode cX8_fit 89 = .ok (.aaload, 1) := by decide +kernel
theorem dX8_fit_90 : decode cX8_fit 90 = .ok (.iload_n 3, 1) := by decide +kernel
theorem dX8_fit_91 : decode cX8_fit 91 = .ok (.iaload, 1) := by decide +kernel
theorem dX8_fit_92 : decode cX8_fit 92 = .ok (.goto 4, 3) := by decide +kernel
theorem dX8_fit_95 : decode cX8_fit 95 = .ok (.iconst 0, 1) := by decide +kernel
theorem dX8_fit_96 : decode cX8_fit 96 = .ok (.iastore, 1) := by decide +kernel
theorem dX8_fit_97 : decode cX8_fit 97 = .ok (.iinc 4 1, 3) := by decide +kernel
theorem dX8_fit_100 : decode cX8_fit 100 = .ok (.goto (-35), 3) := by decide +kernel
theorem dX8_fit_103 : decode cX8_fit 103 = .ok (.return_, 1) := by decide +kernel
theorem dX8_setEquation_0 : decode cX8_setEquation 0 = .ok (.iconst 1, 1) := by decide +kernel
theorem dX8_setEquation_1 : decode cX8_setEquation 1 = .ok (.istore 5, 2) := by decide +kernel
theorem dX8_setEquation_3 : decode cX8_setEquation 3 = .ok (.iconst 0, 1) := by decide +kernel
theorem dX8_setEquation_4 : decode cX8_setEquation 4 = .ok (.istore 6, 2) := by decide +kernel
theorem dX8_setEquation_6 : decode cX8_setEquation 6 = .ok (.iload 6, 2) := by decide +kernel
theorem dX8_setEquation_8 : decode cX8_setEquation 8 = .ok (.iload_n 2, 1) := by decide +kernel
theorem dX8_setEquation_9 : decode cX8_setEquation 9 = .ok (.if_icmp .ge 32, 3) := by decide +kernel
theorem dX8_setEquation_12 : decode cX8_setEquation 12 = .ok (.aload_n 0, 1) := by decide +kernel
theorem dX8_setEquation_13 : decode cX8_setEquation 13 = .ok (.getfield 11, 3) := by decide +kernel
theorem dX8_setEquation_16 : decode cX8_setEquation 16 = .ok (.iload_n 1, 1) := by decide +kernel
theorem dX8_setEquation_17 : decode cX8_setEquation 17 = .ok (.aaload, 1) := by decide +kernel
theorem dX8_setEquation_18 : decode cX8_setEquation 18 = .ok (.iload 6, 2) := by decide +kernel
theorem dX8_setEquation_20 : decode cX8_setEquation 20 = .ok (.iload 5, 2) := by decide +kernel
theorem dX8_setEquation_22 : decode cX8_setEquation 22 = .ok (.iastore, 1) := by decide +kernel
theorem dX8_setEquation_23 : decode cX8_setEquation 23 = .ok (.iload 5, 2) := by decide +kernel
theorem dX8_setEquation_25 : decode cX8_setEquation 25 = .ok (.iload_n 3, 1) := by decide +kernel
theorem dX8_setEquation_26 : decode cX8_setEquation 26 = .ok (.invokestatic 66, 3) := by decide +kernel
theorem dX8_setEquation_29 : decode cX8_setEquation 29 = .ok (.imul, 1) := by decide +kernel
theorem dX8_setEquation_30 : decode cX8_setEquation 30 = .ok (.bipush 97, 2) := by decide +kernel
theorem dX8_setEquation_32 : decode cX8_setEquation 32 = .ok (.irem, 1) := by decide +kernel
theorem dX8_setEquation_33 : decode cX8_setEquation 33 = .ok (.istore 5, 2) := by decide +kernel
theorem dX8_setEquation_35 : decode cX8_setEquation 35 = .ok (.iinc 6 1, 3) := by decide +kernel
theorem dX8_setEquation_38 : decode cX8_setEquation 38 = .ok (.goto (-32), 3) := by decide +kernel
theorem dX8_setEquation_41 : decode cX8_setEquation 41 = .ok (.aload_n 0, 1) := by decide +kernel
theorem dX8_setEquation_42 : decode cX8_setEquation 42 = .ok (.getfield 11, 3) := by decide +kernel
theorem dX8_setEquation_45 : decode cX8_setEquation 45 = .ok (.iload_n 1, 1) := by decide +kernel
theorem dX8_setEquation_46 : decode cX8_setEquation 46 = .ok (.aaload, 1) := by decide +kernel
theorem dX8_setEquation_47 : decode cX8_setEquation 47 = .ok (.iload_n 2, 1) := by decide +kernel
theorem dX8_setEquation_48 : decode cX8_setEquation 48 = .ok (.iload 4, 2) := by decide +kernel
theorem dX8_setEquation_50 : decode cX8_setEquation 50 = .ok (.iastore, 1) := by decide +kernel
theorem dX8_setEquation_51 : decode cX8_setEquation 51 = .ok (.return_, 1) := by decide +kernel
theorem dX8_eliminate_0 : decode cX8_eliminate 0 = .ok (.aload_n 0, 1) := by decide +kernel
theorem dX8_eliminate_1 : decode cX8_eliminate 1 = .ok (.getfield 11, 3) := by decide +kernel
theorem dX8_eliminate_4 : decode cX8_eliminate 4 = .ok (.iload_n 1, 1) := by decide +kernel
theorem dX8_eliminate_5 : decode cX8_eliminate 5 = .ok (.aaload, 1) := by decide +kernel
theorem dX8_eliminate_6 : decode cX8_eliminate 6 = .ok (.astore_n 3, 1) := by decide +kernel
theorem dX8_eliminate_7 : decode cX8_eliminate 7 = .ok (.getstatic 81, 3) := by decide +kernel
theorem dX8_eliminate_10 : decode cX8_eliminate 10 = .ok (.aload_n 3, 1) := by decide +kernel
theorem dX8_eliminate_11 : decode cX8_eliminate 11 = .ok (.iload_n 1, 1) := by decide +kernel
theorem dX8_eliminate_12 : decode cX8_eliminate 12 = .ok (.iaload, 1) := by decide +kernel
theorem dX8_eliminate_13 : decode cX8_eliminate 13 = .ok (.iaload, 1) := by decide +kernel
theorem dX8_eliminate_14 : decode cX8_eliminate 14 = .ok (.istore 4, 2) := by decide +kernel
theorem dX8_eliminate_16 : decode cX8_eliminate 16 = .ok (.iload_n 1, 1) := by decide +kernel
theorem dX8_eliminate_17 : decode cX8_eliminate 17 = .ok (.istore 5, 2) := by decide +kernel
theorem dX8_eliminate_19 : decode cX8_eliminate 19 = .ok (.iload 5, 2) := by decide +kernel
theorem dX8_eliminate_21 : decode cX8_eliminate 21 = .ok (.iload_n 2, 1) := by decide +kernel
theorem dX8_eliminate_22 : decode cX8_eliminate 22 = .ok (.if_icmp .gt 23, 3) := by decide +kernel
theorem dX8_eliminate_25 : decode cX8_eliminate 25 = .ok (.aload_n 3, 1) := by decide +kernel
theorem dX8_eliminate_26 : decode cX8_eliminate 26 = .ok (.iload 5, 2) := by decide +kernel
theorem dX8_eliminate_28 : decode cX8_eliminate 28 = .ok (.aload_n 3, 1) := by decide +kernel
theorem dX8_eliminate_29 : decode cX8_eliminate 29 = .ok (.iload 5, 2) := by decide +kernel
theorem dX8_eliminate_31 : decode cX8_eliminate 31 = .ok (.iaload, 1) := by decide +kernel
theorem dX8_eliminate_32 : decode cX8_eliminate 32 = .ok (.iload 4, 2) := by decide +kernel
theorem dX8_eliminate_34 : decode cX8_eliminate 34 = .ok (.imul, 1) := by decide +kernel
theorem dX8_eliminate_35 : decode cX8_eliminate 35 = .ok (.bipush 97, 2) := by decide +kernel
theorem dX8_eliminate_37 : decode cX8_eliminate 37 = .ok (.irem, 1) := by decide +kernel
theorem dX8_eliminate_38 : decode cX8_eliminate 38 = .ok (.iastore, 1) := by decide +kernel
theorem dX8_eliminate_39 : decode cX8_eliminate 39 = .ok (.iinc 5 1, 3) := by decide +kernel
theorem dX8_eliminate_42 : decode cX8_eliminate 42 = .ok (.goto (-23), 3) := by decide +kernel
theorem dX8_eliminate_45 : decode cX8_eliminate 45 = .ok (.iconst 0, 1) := by decide +kernel
theorem dX8_eliminate_46 : decode cX8_eliminate 46 = .ok (.istore 5, 2) := by decide +kernel
theorem dX8_eliminate_48 : decode cX8_eliminate 48 = .ok (.iload 5, 2) := by decide +kernel
theorem dX8_eliminate_50 : decode cX8_eliminate 50 = .ok (.iload_n 2, 1) := by decide +kernel
theorem dX8_eliminate_51 : decode cX8_eliminate 51 = .ok (.if_icmp .ge 28, 3) := by decide +kernel
theorem dX8_eliminate_54 : decode cX8_eliminate 54 = .ok (.iload 5, 2) := by decide +kernel
theorem dX8_eliminate_56 : decode cX8_eliminate 56 = .ok (.iload_n 1, 1) := by decide +kernel
theorem dX8_eliminate_57 : decode cX8_eliminate 57 = .ok (.if_icmp .eq 16, 3) := by decide +kernel
theorem dX8_eliminate_60 : decode cX8_eliminate 60 = .ok (.aload_n 0, 1) := by decide +kernel
theorem dX8_eliminate_61 : decode cX8_eliminate 61 = .ok (.getfield 11, 3) := by decide +kernel
theorem dX8_eliminate_64 : decode cX8_eliminate 64 = .ok (.iload 5, 2) := by decide +kernel
theorem dX8_eliminate_66 : decode cX8_eliminate 66 = .ok (.aaload, 1) := by decide +kernel
theorem dX8_eliminate_67 : decode cX8_eliminate 67 = .ok (.aload_n 3, 1) := by decide +kernel
theorem dX8_eliminate_68 : decode cX8_eliminate 68 = .ok (.iload_n 1, 1) := by decide +kernel
theorem dX8_eliminate_69 : decode cX8_eliminate 69 = .ok (.iload_n 2, 1) := by decide +kernel
theorem dX8_eliminate_70 : decode cX8_eliminate 70 = .ok (.invokestatic 84, 3) := by decide +kernel
theorem dX8_eliminate_73 : decode cX8_eliminate 73 = .ok (.iinc 5 1, 3) := by decide +kernel
theorem dX8_eliminate_76 : decode cX8_eliminate 76 = .ok (.goto (-28), 3) := by decide +kernel
theorem dX8_eliminate_79 : decode cX8_eliminate 79 = .ok (.return_, 1) := by decide +kernel
theorem dX8_subtract_0 : decode cX8_subtract 0 = .ok (.aload_n 0, 1) := by decide +kernel
theorem dX8_subtract_1 : decode cX8_subtract 1 = .ok (.iload_n 2, 1) := by decide +kernel
theorem dX8_subtract_2 : decode cX8_subtract 2 = .ok (.iaload, 1) := by decide +kernel
theorem dX8_subtract_3 : decode cX8_subtract 3 = .ok (.istore 4, 2) := by decide +kernel
theorem dX8_subtract_5 : decode cX8_subtract 5 = .ok (.iload_n 2, 1) := by decide +kernel
theorem dX8_subtract_6 : decode cX8_subtract 6 = .ok (.istore 5, 2) := by decide +kernel
theorem dX8_subtract_8 : decode cX8_subtract 8 = .ok (.iload 5, 2) := by decide +kernel
theorem dX8_subtract_10 : decode cX8_subtract 10 = .ok (.iload_n 3, 1) := by decide +kernel
theorem dX8_subtract_11 : decode cX8_subtract 11 = .ok (.if_icmp .gt 30, 3) := by decide +kernel
theorem dX8_subtract_14 : decode cX8_subtract 14 = .ok (.aload_n 0, 1) := by decide +kernel
theorem dX8_subtract_15 : decode cX8_subtract 15 = .ok (.iload 5, 2) := by decide +kernel
theorem dX8_subtract_17 : decode cX8_subtract 17 = .ok (.aload_n 0, 1) := by decide +kernel
theorem dX8_subtract_18 : decode cX8_subtract 18 = .ok (.iload 5, 2) := by decide +kernel
theorem dX8_subtract_20 : decode cX8_subtract 20 = .ok (.iaload, 1) := by decide +kernel
theorem dX8_subtract_21 : decode cX8_subtract 21 = .ok (.iload 4, 2) := by decide +kernel
theorem dX8_subtract_23 : decode cX8_subtract 23 = .ok (.aload_n 1, 1) := by decide +kernel
theorem dX8_subtract_24 : decode cX8_subtract 24 = .ok (.iload 5, 2) := by decide +kernel
theorem dX8_subtract_26 : decode cX8_subtract 26 = .ok (.iaload, 1) := by decide +kernel
theorem dX8_subtract_27 : decode cX8_subtract 27 = .ok (.imul, 1) := by decide +kernel
theorem dX8_subtract_28 : decode cX8_subtract 28 = .ok (.isub, 1) := by decide +kernel
theorem dX8_subtract_29 : decode cX8_subtract 29 = .ok (.bipush 97, 2) := by decide +kernel
theorem dX8_subtract_31 : decode cX8_subtract 31 = .ok (.invokestatic 88, 3) := by decide +kernel
theorem dX8_subtract_34 : decode cX8_subtract 34 = .ok (.iastore, 1) := by decide +kernel
theorem dX8_subtract_35 : decode cX8_subtract 35 = .ok (.iinc 5 1, 3) := by decide +kernel
theorem dX8_subtract_38 : decode cX8_subtract 38 = .ok (.goto (-30), 3) := by decide +kernel
theorem dX8_subtract_41 : decode cX8_subtract 41 = .ok (.return_, 1) := by decide +kernel
theorem dX9_init_0 : decode cX9_init 0 = .ok (.aload_n 0, 1) := by decide +kernel
theorem dX9_init_1 : decode cX9_init 1 = .ok (.invokespecial 3, 3) := by decide +kernel
theorem dX9_init_4 : decode cX9_init 4 = .ok (.aload_n 0, 1) := by decide +kernel
theorem dX9_init_5 : decode cX9_init 5 = .ok (.new 9, 3) := by decide +kernel
theorem dX9_init_8 : decode cX9_init 8 = .ok (.dup, 1) := by decide +kernel
theorem dX9_init_9 : decode cX9_init 9 = .ok (.invokespecial 11, 3) := by decide +kernel
theorem dX9_init_12 : decode cX9_init 12 = .ok (.putfield 12, 3) := by decide +kernel
theorem dX9_init_15 : decode cX9_init 15 = .ok (.aload_n 0, 1) := by decide +kernel
theorem dX9_init_16 : decode cX9_init 16 = .ok (.new 18, 3) := by decide +kernel
theorem dX9_init_19 : decode cX9_init 19 = .ok (.dup, 1) := by decide +kernel
theorem dX9_init_20 : decode cX9_init 20 = .ok (.invokespecial 20, 3) := by decide +kernel
theorem dX9_init_23 : decode cX9_init 23 = .ok (.putfield 21, 3) := by decide +kernel
theorem dX9_init_26 : decode cX9_init 26 = .ok (.aload_n 0, 1) := by decide +kernel
theorem dX9_init_27 : decode cX9_init 27 = .ok (.new 25, 3) := by decide +kernel
theorem dX9_init_30 : decode cX9_init 30 = .ok (.dup, 1) := by decide +kernel
theorem dX9_init_31 : decode cX9_init 31 = .ok (.invokespecial 27, 3) := by decide +kernel
theorem dX9_init_34 : decode cX9_init 34 = .ok (.putfield 28, 3) := by decide +kernel
theorem dX9_init_37 : decode cX9_init 37 = .ok (.aload_n 0, 1) := by decide +kernel
theorem dX9_init_38 : decode cX9_init 38 = .ok (.new 32, 3) := by decide +kernel
theorem dX9_init_41 : decode cX9_init 41 = .ok (.dup, 1) := by decide +kernel
theorem dX9_init_42 : decode cX9_init 42 = .ok (.invokespecial 34, 3) := by decide +kernel
theorem dX9_init_45 : decode cX9_init 45 = .ok (.putfield 35, 3) := by decide +kernel
theorem dX9_init_48 : decode cX9_init 48 = .ok (.return_, 1) := by decide +kernel
theorem dX9_copyFrom_0 : decode cX9_copyFrom 0 = .ok (.aload_n 0, 1) := by decide +kernel
theorem dX9_copyFrom_1 : decode cX9_copyFrom 1 = .ok (.getfield 12, 3) := by decide +kernel
theorem dX9_copyFrom_4 : decode cX9_copyFrom 4 = .ok (.aload_n 1, 1) := by decide +kernel
theorem dX9_copyFrom_5 : decode cX9_copyFrom 5 = .ok (.getfield 12, 3) := by decide +kernel
theorem dX9_copyFrom_8 : decode cX9_copyFrom 8 = .ok (.invokevirtual 39, 3) := by decide +kernel
theorem dX9_copyFrom_11 : decode cX9_copyFrom 11 = .ok (.aload_n 0, 1) := by decide +kernel
theorem dX9_copyFrom_12 : decode cX9_copyFrom 12 = .ok (.getfield 21, 3) := by decide +kernel
theorem dX9_copyFrom_15 : decode cX9_copyFrom 15 = .ok (.aload_n 1, 1) := by decide +kernel
theorem dX9_copyFrom_16 : decode cX9_copyFrom 16 = .ok (.getfield 21, 3) := by decide +kernel
theorem dX9_copyFrom_19 : decode cX9_copyFrom 19 = .ok (.invokevirtual 43, 3) := by decide +kernel
theorem dX9_copyFrom_22 : decode cX9_copyFrom 22 = .ok (.aload_n 0, 1) := by decide +kernel
theorem dX9_copyFrom_23 : decode cX9_copyFrom 23 = .ok (.getfield 28, 3) := by decide +kernel
theorem dX9_copyFrom_26 : decode cX9_copyFrom 26 = .ok (.aload_n 1, 1) := by decide +kernel
theorem dX9_copyFrom_27 : decode cX9_copyFrom 27 = .ok (.getfield 28, 3) := by decide +kernel
theorem dX9_copyFrom_30 : decode cX9_copyFrom 30 = .ok (.invokevirtual 46, 3) := by decide +kernel
theorem dX9_copyFrom_33 : decode cX9_copyFrom 33 = .ok (.aload_n 0, 1) := by decide +kernel
theorem dX9_copyFrom_34 : decode cX9_copyFrom 34 = .ok (.getfield 35, 3) := by decide +kernel
theorem dX9_copyFrom_37 : decode cX9_copyFrom 37 = .ok (.aload_n 1, 1) := by decide +kernel
theorem dX9_copyFrom_38 : decode cX9_copyFrom 38 = .ok (.getfield 35, 3) := by decide +kernel
theorem dX9_copyFrom_41 : decode cX9_copyFrom 41 = .ok (.invokevirtual 49, 3) := by decide +kernel
theorem dX9_copyFrom_44 : decode cX9_copyFrom 44 = .ok (.return_, 1) := by decide +kernel
theorem dX9_detailOf_0 : decode cX9_detailOf 0 = .ok (.iload_n 1, 1) := by decide +kernel
theorem dX9_detailOf_1 : decode cX9_detailOf 1 = .ok (.tableswitch 122 1 10 #[55, 57, 122, 65, 55, 74, 82, 90, 106, 114], 55) := by decide +kernel
theorem dX9_detailOf_56 : decode cX9_detailOf 56 = .ok (.iload_n 2, 1) := by decide +kernel
theorem dX9_detailOf_57 : decode cX9_detailOf 57 = .ok (.ireturn, 1) := by decide +kernel
theorem dX9_detailOf_58 : decode cX9_detailOf 58 = .ok (.aload_n 0, 1) := by decide +kernel
theorem dX9_detailOf_59 : decode cX9_detailOf 59 = .ok (.getfield 12, 3) := by decide +kernel
theorem dX9_detailOf_62 : decode cX9_detailOf 62 = .ok (.getfield 52, 3) := by decide +kernel
theorem dX9_detailOf_65 : decode cX9_detailOf 65 = .ok (.ireturn, 1) := by decide +kernel
theorem dX9_detailOf_66 : decode cX9_detailOf 66 = .ok (.aload_n 0, 1) := by decide +kernel
theorem dX9_detailOf_67 : decode cX9_detailOf 67 = .ok (.getfield 12, 3) := by decide +kernel
theorem dX9_detailOf_70 : decode cX9_detailOf 70 = .ok (.iload_n 2, 1) := by decide +kernel
theorem dX9_detailOf_71 : decode cX9_detailOf 71 = .ok (.invokevirtual 56, 3) := by decide +kernel
theorem dX9_detailOf_74 : decode cX9_detailOf 74 = .ok (.ireturn, 1) := by decide +kernel
theorem dX9_detailOf_75 : decode cX9_detailOf 75 = .ok (.aload_n 0, 1) := by decide +kernel
theorem dX9_detailOf_76 : decode cX9_detailOf 76 = .ok (.getfield 12, 3) := by decide +kernel
theorem dX9_detailOf_79 : decode cX9_detailOf 79 = .ok (.getfield 60, 3) := by decide +kernel
theorem dX9_detailOf_82 : decode cX9_detailOf 82 = .ok (.ireturn, 1) := by decide +kernel
theorem dX9_detailOf_83 : decode cX9_detailOf 83 = .ok (.aload_n 0, 1) := by decide +kernel
theorem dX9_detailOf_84 : decode cX9_detailOf 84 = .ok (.getfield 21, 3) := by decide +kernel
theorem dX9_detailOf_87 : decode cX9_detailOf 87 = .ok (.getfield 63, 3) := by decide +kernel
theorem dX9_detailOf_90 : decode cX9_detailOf 90 = .ok (.ireturn, 1) := by decide +kernel
theorem dX9_detailOf_91 : decode cX9_detailOf 91 = .ok (.aload_n 0, 1) := by decide +kernel
theorem dX9_detailOf_92 : decode cX9_detailOf 92 = .ok (.getfield 12, 3) := by decide +kernel
theorem dX9_detailOf_95 : decode cX9_detailOf 95 = .ok (.getfield 66, 3) := by decide +kernel
theorem dX9_detailOf_98 : decode cX9_detailOf 98 = .ok (.aload_n 0, 1) := by decide +kernel
theorem dX9_detailOf_99 : decode cX9_detailOf 99 = .ok (.getfield 12, 3) := by decide +kernel
theorem dX9_detailOf_102 : decode cX9_detailOf 102 = .ok (.getfield 60, 3) := by decide +kernel
theorem dX9_detailOf_105 : decode cX9_detailOf 105 = .ok (.isub, 1) := by decide +kernel
theorem dX9_detailOf_106 : decode cX9_detailOf 106 = .ok (.ireturn, 1) := by decide +kernel
theorem dX9_detailOf_107 : decode cX9_detailOf 107 = .ok (.aload_n 0, 1) := by decide +kernel
theorem dX9_detailOf_108 : decode cX9_detailOf 108 = .ok (.getfield 28, 3) := by decide +kernel
theorem dX9_detailOf_111 : decode cX9_detailOf 111 = .ok (.getfield 69, 3) := by decide +kernel
theorem dX9_detailOf_114 : decode cX9_detailOf 114 = .ok (.ireturn, 1) := by decide +kernel
theorem dX9_detailOf_115 : decode cX9_detailOf 115 = .ok (.aload_n 0, 1) := by decide +kernel
theorem dX9_detailOf_116 : decode cX9_detailOf 116 = .ok (.getfield 21, 3) := by decide +kernel
theorem dX9_detailOf_119 : decode cX9_detailOf 119 = .ok (.getfield 72, 3) := by decide +kernel
theorem dX9_detailOf_122 : decode cX9_detailOf 122 = .ok (.ireturn, 1) := by decide +kernel
theorem dX9_detailOf_123 : decode cX9_detailOf 123 = .ok (.iconst 0, 1) := by decide +kernel
theorem dX9_detailOf_124 : decode cX9_detailOf 124 = .ok (.ireturn, 1) := by decide +kernel
theorem dX9_tryHolder_0 : decode cX9_tryHolder 0 = .ok (.aload_n 0, 1) := by decide +kernel
theorem dX9_tryHolder_1 : decode cX9_tryHolder 1 = .ok (.getfield 12, 3) := by decide +kernel
theorem dX9_tryHolder_4 : decode cX9_tryHolder 4 = .ok (.getfield 52, 3) := by decide +kernel
theorem dX9_tryHolder_7 : decode cX9_tryHolder 7 = .ok (.bipush 8, 2) := by decide +kernel
theorem dX9_tryHolder_9 : decode cX9_tryHolder 9 = .ok (.if_icmp .lt 5, 3) := by decide +kernel
theorem dX9_tryHolder_12 : decode cX9_tryHolder 12 = .ok (.iconst 1, 1) := by decide +kernel
theorem dX9_tryHolder_13 : decode cX9_tryHolder 13 = .ok (.ireturn, 1) := by decide +kernel
theorem dX9_tryHolder_14 : decode cX9_tryHolder 14 = .ok (.aload_n 0, 1) := by decide +kernel
theorem dX9_tryHolder_15 : decode cX9_tryHolder 15 = .ok (.aload_n 0, 1) := by decide +kernel
theorem dX9_tryHolder_16 : decode cX9_tryHolder 16 = .ok (.getfield 12, 3) := by decide +kernel
theorem dX9_tryHolder_19 : decode cX9_tryHolder 19 = .ok (.invokevirtual 75, 3) := by decide +kernel
theorem dX9_tryHolder_22 : decode cX9_tryHolder 22 = .ok (.putfield 79, 3) := by decide +kernel
theorem dX9_tryHolder_25 : decode cX9_tryHolder 25 = .ok (.iconst 0, 1) := by decide +kernel
theorem dX9_tryHolder_26 : decode cX9_tryHolder 26 = .ok (.ireturn, 1) := by decide +kernel
theorem dX9_trySeal_0 : decode cX9_trySeal 0 = .ok (.iload_n 1, 1) := by decide +kernel
theorem dX9_trySeal_1 : decode cX9_trySeal 1 = .ok (.invokestatic 82, 3) := by decide +kernel
theorem dX9_trySeal_4 : decode cX9_trySeal 4 = .ok (.ifCond .eq 29, 3) := by decide +kernel
theorem dX9_trySeal_7 : decode cX9_trySeal 7 = .ok (.iload_n 2, 1) := by decide +kernel
theorem dX9_trySeal_8 : decode cX9_trySeal 8 = .ok (.invokestatic 82, 3) := by decide +kernel
theorem dX9_trySeal_11 : decode cX9_trySeal 11 = .ok (.ifCond .eq 22, 3) := by decide +kernel
theorem dX9_trySeal_14 : decode cX9_trySeal 14 = .ok (.iload_n 3, 1) := by decide +kernel
theorem dX9_trySeal_15 : decode cX9_trySeal 15 = .ok (.invokestatic 82, 3) := by decide +kernel
theorem dX9_trySeal_18 : decode cX9_trySeal 18 = .ok (.ifCond .eq 15, 3) := by decide +kernel
theorem dX9_trySeal_21 : decode cX9_trySeal 21 = .ok (.iload 4, 2) := by decide +kernel
theorem dX9_trySeal_23 : decode cX9_trySeal 23 = .ok (.iconst 1, 1) := by decide +kernel
theorem dX9_trySeal_24 : decode cX9_trySeal 24 = .ok (.if_icmp .lt 9, 3) := by decide +kernel
theorem dX9_trySeal_27 : decode cX9_trySeal 27 = .ok (.iload 4, 2) := by decide +kernel
theorem dX9_trySeal_29 : decode cX9_trySeal 29 = .ok (.iconst 3, 1) := by decide +kernel
theorem dX9_trySeal_30 : decode cX9_trySeal 30 = .ok (.if_icmp .le 6, 3) := by decide +kernel
theorem dX9_trySeal_33 : decode cX9_trySeal 33 = .ok (.bipush (-2), 2) := by decide +kernel
theorem dX9_trySeal_35 : decode cX9_trySeal 35 = .ok (.ireturn, 1) := by decide +kernel
theorem dX9_trySeal_36 : decode cX9_trySeal 36 = .ok (.aload_n 0, 1) := by decide +kernel
theorem dX9_trySeal_37 : decode cX9_trySeal 37 = .ok (.getfield 12, 3) := by decide +kernel
theorem dX9_trySeal_40 : decode cX9_trySeal 40 = .ok (.getfield 52, 3) := by decide +kernel
theorem dX9_trySeal_43 : decode cX9_trySeal 43 = .ok (.iload 4, 2) := by decide +kernel
theorem dX9_trySeal_45 : decode cX9_trySeal 45 = .ok (.if_icmp .ge 5, 3) := by decide +kernel
theorem dX9_trySeal_48 : decode cX9_trySeal 48 = .ok (.iconst 2, 1) := by decide +kernel
theorem dX9_trySeal_49 : decode cX9_trySeal 49 = .ok (.ireturn, 1) := by decide +kernel
theorem dX9_trySeal_50 : decode cX9_trySeal 50 = .ok (.aload_n 0, 1) := by decide +kernel
theorem dX9_trySeal_51 : decode cX9_trySeal 51 = .ok (.getfield 12, 3) := by decide +kernel
theorem dX9_trySeal_54 : decode cX9_trySeal 54 = .ok (.iload_n 1, 1) := by decide +kernel
theorem dX9_trySeal_55 : decode cX9_trySeal 55 = .ok (.iload_n 2, 1) := by decide +kernel
theorem dX9_trySeal_56 : decode cX9_trySeal 56 = .ok (.iload_n 3, 1) := by decide +kernel
theorem dX9_trySeal_57 : decode cX9_trySeal 57 = .ok (.iload 4, 2) := by decide +kernel
theorem dX9_trySeal_59 : decode cX9_trySeal 59 = .ok (.invokevirtual 86, 3) := by decide +kernel
theorem dX9_trySeal_62 : decode cX9_trySeal 62 = .ok (.aload_n 0, 1) := by decide +kernel
theorem dX9_trySeal_63 : decode cX9_trySeal 63 = .ok (.getfield 21, 3) := by decide +kernel
theorem dX9_trySeal_66 : decode cX9_trySeal 66 = .ok (.invokevirtual 90, 3) := by decide +kernel
theorem dX9_trySeal_69 : decode cX9_trySeal 69 = .ok (.aload_n 0, 1) := by decide +kernel
theorem dX9_trySeal_70 : decode cX9_trySeal 70 = .ok (.aload_n 0, 1) := by decide +kernel
theorem dX9_trySeal_71 : decode cX9_trySeal 71 = .ok (.getfield 12, 3) := by decide +kernel
theorem dX9_trySeal_74 : decode cX9_trySeal 74 = .ok (.getfield 52, 3) := by decide +kernel
theorem dX9_trySeal_77 : decode cX9_trySeal 77 = .ok (.putfield 79, 3) := by decide +kernel
theorem dX9_trySeal_80 : decode cX9_trySeal 80 = .ok (.iconst 0, 1) := by decide +kernel
theorem dX9_trySeal_81 : decode cX9_trySeal 81 = .ok (.ireturn, 1) := by decide +kernel
theorem dX9_tryShare_0 : decode cX9_tryShare 0 = .ok (.aload_n 0, 1) := by decide +kernel
theorem dX9_tryShare_1 : decode cX9_tryShare 1 = .ok (.getfield 12, 3) := by decide +kernel
theorem dX9_tryShare_4 : decode cX9_tryShare 4 = .ok (.iload_n 1, 1) := by decide +kernel
theorem dX9_tryShare_5 : decode cX9_tryShare 5 = .ok (.invokevirtual 93, 3) := by decide +kernel
theorem dX9_tryShare_8 : decode cX9_tryShare 8 = .ok (.ifCond .ne 5, 3) := by decide +kernel
theorem dX9_tryShare_11 : decode cX9_tryShare 11 = .ok (.iconst (-1), 1) := by decide +kernel
theorem dX9_tryShare_12 : decode cX9_tryShare 12 = .ok (.ireturn, 1) := by decide +kernel
theorem dX9_tryShare_13 : decode cX9_tryShare 13 = .ok (.iload_n 2, 1) := by decide +kernel
theorem dX9_tryShare_14 : decode cX9_tryShare 14 = .ok (.invokestatic 82, 3) := by decide +kernel
theorem dX9_tryShare_17 : decode cX9_tryShare 17 = .ok (.ifCond .ne 6, 3) := by decide +kernel
theorem dX9_tryShare_20 : decode cX9_tryShare 20 = .ok (.bipush (-2), 2) := by decide +kernel
theorem dX9_tryShare_22 : decode cX9_tryShare 22 = .ok (.ireturn, 1) := by decide +kernel
theorem dX9_tryShare_23 : decode cX9_tryShare 23 = .ok (.aload_n 0, 1) := by decide +kernel
theorem dX9_tryShare_24 : decode cX9_tryShare 24 = .ok (.getfield 12, 3) := by decide +kernel
theorem dX9_tryShare_27 : decode cX9_tryShare 27 = .ok (.getfield 96, 3) := by decide +kernel
theorem dX9_tryShare_30 : decode cX9_tryShare 30 = .ok (.ifCond .ne 5, 3) := by decide +kernel
theorem dX9_tryShare_33 : decode cX9_tryShare 33 = .ok (.iconst 3, 1) := by decide +kernel
theorem dX9_tryShare_34 : decode cX9_tryShare 34 = .ok (.ireturn, 1) := by decide +kernel
theorem dX9_tryShare_35 : decode cX9_tryShare 35 = .ok (.aload_n 0, 1) := by decide +kernel
theorem dX9_tryShare_36 : decode cX9_tryShare 36 = .ok (.aload_n 0, 1) := by decide +kernel
theorem dX9_tryShare_37 : decode cX9_tryShare 37 = .ok (.getfield 12, 3) := by decide +kernel
theorem dX9_tryShare_40 : decode cX9_tryShare 40 = .ok (.getfield 100, 3) := by decide +kernel
theorem dX9_tryShare_43 : decode cX9_tryShare 43 = .ok (.iload_n 1, 1) := by decide +kernel
theorem dX9_tryShare_44 : decode cX9_tryShare 44 = .ok (.iaload, 1) := by decide +kernel
theorem dX9_tryShare_45 : decode cX9_tryShare 45 = .ok (.putfield 79, 3) := by decide +kernel
theorem dX9_tryShare_48 : decode cX9_tryShare 48 = .ok (.aload_n 0, 1) := by decide +kernel
theorem dX9_tryShare_49 : decode cX9_tryShare 49 = .ok (.getfield 12, 3) := by decide +kernel
theorem dX9_tryShare_52 : decode cX9_tryShare 52 = .ok (.getfield 100, 3) := by decide +kernel
theorem dX9_tryShare_55 : decode cX9_tryShare 55 = .ok (.iload_n 1, 1) := by decide +kernel
theorem dX9_tryShare_56 : decode cX9_tryShare 56 = .ok (.iload_n 2, 1) := by decide +kernel
theorem dX9_tryShare_57 : decode cX9_tryShare 57 = .ok (.iastore, 1) := by decide +kernel
theorem dX9_tryShare_58 : decode cX9_tryShare 58 = .ok (.iconst 0, 1) := by decide +kernel
theorem dX9_tryShare_59 : decode cX9_tryShare 59 = .ok (.ireturn, 1) := by decide +kernel
theorem dX9_tryPresent_0 : decode cX9_tryPresent 0 = .ok (.aload_n 0, 1) := by decide +kernel
theorem dX9_tryPresent_1 : decode cX9_tryPresent 1 = .ok (.getfield 12, 3) := by decide +kernel
theorem dX9_tryPresent_4 : decode cX9_tryPresent 4 = .ok (.iload_n 1, 1) := by decide +kernel
theorem dX9_tryPresent_5 : decode cX9_tryPresent 5 = .ok (.invokevirtual 93, 3) := by decide +kernel
theorem dX9_tryPresent_8 : decode cX9_tryPresent 8 = .ok (.ifCond .ne 5, 3) := by decide +kernel
theorem dX9_tryPresent_11 : decode cX9_tryPresent 11 = .ok (.iconst (-1), 1) := by decide +kernel
theorem dX9_tryPresent_12 : decode cX9_tryPresent 12 = .ok (.ireturn, 1) := by decide +kernel
theorem dX9_tryPresent_13 : decode cX9_tryPresent 13 = .ok (.aload_n 0, 1) := by decide +kernel
theorem dX9_tryPresent_14 : decode cX9_tryPresent 14 = .ok (.getfield 12, 3) := by decide +kernel
theorem dX9_tryPresent_17 : decode cX9_tryPresent 17 = .ok (.getfield 96, 3) := by decide +kernel
theorem dX9_tryPresent_20 : decode cX9_tryPresent 20 = .ok (.ifCond .ne 5, 3) := by decide +kernel
theorem dX9_tryPresent_23 : decode cX9_tryPresent 23 = .ok (.iconst 3, 1) := by decide +kernel
theorem dX9_tryPresent_24 : decode cX9_tryPresent 24 = .ok (.ireturn, 1) := by decide +kernel
theorem dX9_tryPresent_25 : decode cX9_tryPresent 25 = .ok (.aload_n 0, 1) := by decide +kernel
theorem dX9_tryPresent_26 : decode cX9_tryPresent 26 = .ok (.getfield 12, 3) := by decide +kernel
theorem dX9_tryPresent_29 : decode cX9_tryPresent 29 = .ok (.iload_n 1, 1) := by decide +kernel
theorem dX9_tryPresent_30 : decode cX9_tryPresent 30 = .ok (.invokevirtual 56, 3) := by decide +kernel
theorem dX9_tryPresent_33 : decode cX9_tryPresent 33 = .ok (.iconst (-1), 1) := by decide +kernel
theorem dX9_tryPresent_34 : decode cX9_tryPresent 34 = .ok (.if_icmp .eq 5, 3) := by decide +kernel
theorem dX9_tryPresent_37 : decode cX9_tryPresent 37 = .ok (.iconst 4, 1) := by decide +kernel
theorem dX9_tryPresent_38 : decode cX9_tryPresent 38 = .ok (.ireturn, 1) := by decide +kernel
theorem dX9_tryPresent_39 : decode cX9_tryPresent 39 = .ok (.aload_n 0, 1) := by decide +kernel
theorem dX9_tryPresent_40 : decode cX9_tryPresent 40 = .ok (.aload_n 0, 1) := by decide +kernel
theorem dX9_tryPresent_41 : decode cX9_tryPresent 41 = .ok (.getfield 12, 3) := by decide +kernel
theorem dX9_tryPresent_44 : decode cX9_tryPresent 44 = .ok (.iload_n 1, 1) := by decide +kernel
theorem dX9_tryPresent_45 : decode cX9_tryPresent 45 = .ok (.invokevirtual 104, 3) := by decide +kernel
theorem dX9_tryPresent_48 : decode cX9_tryPresent 48 = .ok (.putfield 79, 3) := by decide +kernel
theorem dX9_tryPresent_51 : decode cX9_tryPresent 51 = .ok (.iconst 0, 1) := by decide +kernel
theorem dX9_tryPresent_52 : decode cX9_tryPresent 52 = .ok (.ireturn, 1) := by decide +kernel
theorem dX9_tryTakeBack_0 : decode cX9_tryTakeBack 0 = .ok (.aload_n 0, 1) := by decide +kernel
theorem dX9_tryTakeBack_1 : decode cX9_tryTakeBack 1 = .ok (.getfield 12, 3) := by decide +kernel
theorem dX9_tryTakeBack_4 : decode cX9_tryTakeBack 4 = .ok (.iload_n 1, 1) := by decide +kernel
theorem dX9_tryTakeBack_5 : decode cX9_tryTakeBack 5 = .ok (.invokevirtual 93, 3) := by decide +kernel
theorem dX9_tryTakeBack_8 : decode cX9_tryTakeBack 8 = .ok (.ifCond .ne 5, 3) := by decide +kernel
theorem dX9_tryTakeBack_11 : decode cX9_tryTakeBack 11 = .ok (.iconst (-1), 1) := by decide +kernel
theorem dX9_tryTakeBack_12 : decode cX9_tryTakeBack 12 = .ok (.ireturn, 1) := by decide +kernel
theorem dX9_tryTakeBack_13 : decode cX9_tryTakeBack 13 = .ok (.aload_n 0, 1) := by decide +kernel
theorem dX9_tryTakeBack_14 : decode cX9_tryTakeBack 14 = .ok (.getfield 12, 3) := by decide +kernel
theorem dX9_tryTakeBack_17 : decode cX9_tryTakeBack 17 = .ok (.getfield 96, 3) := by decide +kernel
theorem dX9_tryTakeBack_20 : decode cX9_tryTakeBack 20 = .ok (.ifCond .ne 5, 3) := by decide +kernel
theorem dX9_tryTakeBack_23 : decode cX9_tryTakeBack 23 = .ok (.iconst 3, 1) := by decide +kernel
theorem dX9_tryTakeBack_24 : decode cX9_tryTakeBack 24 = .ok (.ireturn, 1) := by decide +kernel
theorem dX9_tryTakeBack_25 : decode cX9_tryTakeBack 25 = .ok (.aload_n 0, 1) := by decide +kernel
theorem dX9_tryTakeBack_26 : decode cX9_tryTakeBack 26 = .ok (.getfield 12, 3) := by decide +kernel
theorem dX9_tryTakeBack_29 : decode cX9_tryTakeBack 29 = .ok (.iload_n 1, 1) := by decide +kernel
theorem dX9_tryTakeBack_30 : decode cX9_tryTakeBack 30 = .ok (.invokevirtual 56, 3) := by decide +kernel
theorem dX9_tryTakeBack_33 : decode cX9_tryTakeBack 33 = .ok (.istore_n 2, 1) := by decide +kernel
theorem dX9_tryTakeBack_34 : decode cX9_tryTakeBack 34 = .ok (.iload_n 2, 1) := by decide +kernel
theorem dX9_tryTakeBack_35 : decode cX9_tryTakeBack 35 = .ok (.iconst (-1), 1) := by decide +kernel
theorem dX9_tryTakeBack_36 : decode cX9_tryTakeBack 36 = .ok (.if_icmp .ne 5, 3) := by decide +kernel
theorem dX9_tryTakeBack_39 : decode cX9_tryTakeBack 39 = .ok (.iconst 5, 1) := by decide +kernel
theorem dX9_tryTakeBack_40 : decode cX9_tryTakeBack 40 = .ok (.ireturn, 1) := by decide +kernel
theorem dX9_tryTakeBack_41 : decode cX9_tryTakeBack 41 = .ok (.aload_n 0, 1) := by decide +kernel
theorem dX9_tryTakeBack_42 : decode cX9_tryTakeBack 42 = .ok (.aload_n 0, 1) := by decide +kernel
theorem dX9_tryTakeBack_43 : decode cX9_tryTakeBack 43 = .ok (.getfield 12, 3) := by decide +kernel
theorem dX9_tryTakeBack_46 : decode cX9_tryTakeBack 46 = .ok (.iload_n 2, 1) := by decide +kernel
theorem dX9_tryTakeBack_47 : decode cX9_tryTakeBack 47 = .ok (.invokevirtual 107, 3) := by decide +kernel
theorem dX9_tryTakeBack_50 : decode cX9_tryTakeBack 50 = .ok (.putfield 79, 3) := by decide +kernel
theorem dX9_tryTakeBack_53 : decode cX9_tryTakeBack 53 = .ok (.iconst 0, 1) := by decide +kernel
theorem dX9_tryTakeBack_54 : decode cX9_tryTakeBack 54 = .ok (.ireturn, 1) := by decide +kernel
theorem dX9_tryOpen_0 : decode cX9_tryOpen 0 = .ok (.aload_n 0, 1) := by decide +kernel
theorem dX9_tryOpen_1 : decode cX9_tryOpen 1 = .ok (.invokevirtual 110, 3) := by decide +kernel
theorem dX9_tryOpen_4 : decode cX9_tryOpen 4 = .ok (.istore_n 1, 1) := by decide +kernel
theorem dX9_tryOpen_5 : decode cX9_tryOpen 5 = .ok (.iload_n 1, 1) := by decide +kernel
theorem dX9_tryOpen_6 : decode cX9_tryOpen 6 = .ok (.ifCond .eq 5, 3) := by decide +kernel
theorem dX9_tryOpen_9 : decode cX9_tryOpen 9 = .ok (.iload_n 1, 1) := by decide +kernel
theorem dX9_tryOpen_10 : decode cX9_tryOpen 10 = .ok (.ireturn, 1) := by decide +kernel
theorem dX9_tryOpen_11 : decode cX9_tryOpen 11 = .ok (.aload_n 0, 1) := by decide +kernel
theorem dX9_tryOpen_12 : decode cX9_tryOpen 12 = .ok (.getfield 12, 3) := by decide +kernel
theorem dX9_tryOpen_15 : decode cX9_tryOpen 15 = .ok (.invokevirtual 113, 3) := by decide +kernel
theorem dX9_tryOpen_18 : decode cX9_tryOpen 18 = .ok (.istore_n 2, 1) := by decide +kernel
theorem dX9_tryOpen_19 : decode cX9_tryOpen 19 = .ok (.iload_n 2, 1) := by decide +kernel
theorem dX9_tryOpen_20 : decode cX9_tryOpen 20 = .ok (.ifCond .eq 13, 3) := by decide +kernel
theorem dX9_tryOpen_23 : decode cX9_tryOpen 23 = .ok (.aload_n 0, 1) := by decide +kernel
theorem dX9_tryOpen_24 : decode cX9_tryOpen 24 = .ok (.getfield 21, 3) := by decide +kernel
theorem dX9_tryOpen_27 : decode cX9_tryOpen 27 = .ok (.invokevirtual 117, 3) := by decide +kernel
theorem dX9_tryOpen_30 : decode cX9_tryOpen 30 = .ok (.goto 10, 3) := by decide +kernel
theorem dX9_tryOpen_33 : decode cX9_tryOpen 33 = .ok (.aload_n 0, 1) := by decide +kernel
theorem dX9_tryOpen_34 : decode cX9_tryOpen 34 = .ok (.getfield 21, 3) := by decide +kernel
theorem dX9_tryOpen_37 : decode cX9_tryOpen 37 = .ok (.invokevirtual 120, 3) := by decide +kernel
theorem dX9_tryOpen_40 : decode cX9_tryOpen 40 = .ok (.aload_n 0, 1) := by decide +kernel
theorem dX9_tryOpen_41 : decode cX9_tryOpen 41 = .ok (.getfield 35, 3) := by decide +kernel
theorem dX9_tryOpen_44 : decode cX9_tryOpen 44 = .ok (.aload_n 0, 1) := by decide +kernel
theorem dX9_tryOpen_45 : decode cX9_tryOpen 45 = .ok (.getfield 28, 3) := by decide +kernel
theorem dX9_tryOpen_48 : decode cX9_tryOpen 48 = .ok (.getfield 123, 3) := by decide +kernel
theorem dX9_tryOpen_51 : decode cX9_tryOpen 51 = .ok (.iload_n 2, 1) := by decide +kernel
theorem dX9_tryOpen_52 : decode cX9_tryOpen 52 = .ok (.ifCond .eq 8, 3) := by decide +kernel
theorem dX9_tryOpen_55 : decode cX9_tryOpen 55 = .ok (.bipush 111, 2) := by decide +kernel
theorem dX9_tryOpen_57 : decode cX9_tryOpen 57 = .ok (.goto 5, 3) := by decide +kernel
theorem dX9_tryOpen_60 : decode cX9_tryOpen 60 = .ok (.bipush 102, 2) := by decide +kernel
theorem dX9_tryOpen_62 : decode cX9_tryOpen 62 = .ok (.aload_n 0, 1) := by decide +kernel
theorem dX9_tryOpen_63 : decode cX9_tryOpen 63 = .ok (.getfield 12, 3) := by decide +kernel
theorem dX9_tryOpen_66 : decode cX9_tryOpen 66 = .ok (.getfield 60, 3) := by decide +kernel
theorem dX9_tryOpen_69 : decode cX9_tryOpen 69 = .ok (.invokevirtual 126, 3) := by decide +kernel
theorem dX9_tryOpen_72 : decode cX9_tryOpen 72 = .ok (.aload_n 0, 1) := by decide +kernel
theorem dX9_tryOpen_73 : decode cX9_tryOpen 73 = .ok (.iload_n 2, 1) := by decide +kernel
theorem dX9_tryOpen_74 : decode cX9_tryOpen 74 = .ok (.ifCond .eq 7, 3) := by decide +kernel
theorem dX9_tryOpen_77 : decode cX9_tryOpen 77 = .ok (.iconst 1, 1) := by decide +kernel
theorem dX9_tryOpen_78 : decode cX9_tryOpen 78 = .ok (.goto 4, 3) := by decide +kernel
theorem dX9_tryOpen_81 : decode cX9_tryOpen 81 = .ok (.iconst 0, 1) := by decide +kernel
theorem dX9_tryOpen_82 : decode cX9_tryOpen 82 = .ok (.putfield 79, 3) := by decide +kernel
theorem dX9_tryOpen_85 : decode cX9_tryOpen 85 = .ok (.iconst 0, 1) := by decide +kernel
theorem dX9_tryOpen_86 : decode cX9_tryOpen 86 = .ok (.ireturn, 1) := by decide +kernel
theorem dX9_verdictOnAttempt_0 : decode cX9_verdictOnAttempt 0 = .ok (.aload_n 0, 1) := by decide +kernel
theorem dX9_verdictOnAttempt_1 : decode cX9_verdictOnAttempt 1 = .ok (.getfield 12, 3) := by decide +kernel
theorem dX9_verdictOnAttempt_4 : decode cX9_verdictOnAttempt 4 = .ok (.getfield 96, 3) := by decide +kernel
theorem dX9_verdictOnAttempt_7 : decode cX9_verdictOnAttempt 7 = .ok (.ifCond .ne 5, 3) := by decide +kernel
theorem dX9_verdictOnAttempt_10 : decode cX9_verdictOnAttempt 10 = .ok (.iconst 3, 1) := by decide +kernel
theorem dX9_verdictOnAttempt_11 : decode cX9_verdictOnAttempt 11 = .ok (.ireturn, 1) := by decide +kernel
theorem dX9_verdictOnAttempt_12 : decode cX9_verdictOnAttempt 12 = .ok (.aload_n 0, 1) := by decide +kernel
theorem dX9_verdictOnAttempt_13 : decode cX9_verdictOnAttempt 13 = .ok (.getfield 21, 3) := by decide +kernel
theorem dX9_verdictOnAttempt_16 : decode cX9_verdictOnAttempt 16 = .ok (.getfield 130, 3) := by decide +kernel
theorem dX9_verdictOnAttempt_19 : decode cX9_verdictOnAttempt 19 = .ok (.ifCond .eq 6, 3) := by decide +kernel
theorem dX9_verdictOnAttempt_22 : decode cX9_verdictOnAttempt 22 = .ok (.bipush 6, 2) := by decide +kernel
theorem dX9_verdictOnAttempt_24 : decode cX9_verdictOnAttempt 24 = .ok (.ireturn, 1) := by decide +kernel
theorem dX9_verdictOnAttempt_25 : decode cX9_verdictOnAttempt 25 = .ok (.aload_n 0, 1) := by decide +kernel
theorem dX9_verdictOnAttempt_26 : decode cX9_verdictOnAttempt 26 = .ok (.getfield 21, 3) := by decide +kernel
theorem dX9_verdictOnAttempt_29 : decode cX9_verdictOnAttempt 29 = .ok (.getfield 63, 3) := by decide +kernel
theorem dX9_verdictOnAttempt_32 : decode cX9_verdictOnAttempt 32 = .ok (.ifCond .le 6, 3) := by decide +kernel
theorem dX9_verdictOnAttempt_35 : decode cX9_verdictOnAttempt 35 = .ok (.bipush 7, 2) := by decide +kernel
theorem dX9_verdictOnAttempt_37 : decode cX9_verdictOnAttempt 37 = .ok (.ireturn, 1) := by decide +kernel
theorem dX9_verdictOnAttempt_38 : decode cX9_verdictOnAttempt 38 = .ok (.aload_n 0, 1) := by decide +kernel
theorem dX9_verdictOnAttempt_39 : decode cX9_verdictOnAttempt 39 = .ok (.getfield 12, 3) := by decide +kernel
theorem dX9_verdictOnAttempt_42 : decode cX9_verdictOnAttempt 42 = .ok (.invokevirtual 133, 3) := by decide +kernel
theorem dX9_verdictOnAttempt_45 : decode cX9_verdictOnAttempt 45 = .ok (.ifCond .ne 6, 3) := by decide +kernel
theorem dX9_verdictOnAttempt_48 : decode cX9_verdictOnAttempt 48 = .ok (.bipush 8, 2) := by decide +kernel
theorem dX9_verdictOnAttempt_50 : decode cX9_verdictOnAttempt 50 = .ok (.ireturn, 1) := by decide +kernel
theorem dX9_verdictOnAttempt_51 : decode cX9_verdictOnAttempt 51 = .ok (.aload_n 0, 1) := by decide +kernel
theorem dX9_verdictOnAttempt_52 : decode cX9_verdictOnAttempt 52 = .ok (.getfield 28, 3) := by decide +kernel
theorem dX9_verdictOnAttempt_55 : decode cX9_verdictOnAttempt 55 = .ok (.iconst 0, 1) := by decide +kernel
theorem dX9_verdictOnAttempt_56 : decode cX9_verdictOnAttempt 56 = .ok (.invokevirtual 136, 3) := by decide +kernel
theorem dX9_verdictOnAttempt_59 : decode cX9_verdictOnAttempt 59 = .ok (.ifCond .eq 7, 3) := by decide +kernel
theorem dX9_verdictOnAttempt_62 : decode cX9_verdictOnAttempt 62 = .ok (.iconst 0, 1) := by decide +kernel
theorem dX9_verdictOnAttempt_63 : decode cX9_verdictOnAttempt 63 = .ok (.goto 5, 3) := by decide +kernel
theorem dX9_verdictOnAttempt_66 : decode cX9_verdictOnAttempt 66 = .ok (.bipush 9, 2) := by decide +kernel
theorem dX9_verdictOnAttempt_68 : decode cX9_verdictOnAttempt 68 = .ok (.ireturn, 1) := by decide +kernel
theorem dX9_tryClose_0 : decode cX9_tryClose 0 = .ok (.aload_n 0, 1) := by decide +kernel
theorem dX9_tryClose_1 : decode cX9_tryClose 1 = .ok (.getfield 12, 3) := by decide +kernel
theorem dX9_tryClose_4 : decode cX9_tryClose 4 = .ok (.getfield 96, 3) := by decide +kernel
theorem dX9_tryClose_7 : decode cX9_tryClose 7 = .ok (.ifCond .ne 5, 3) := by decide +kernel
theorem dX9_tryClose_10 : decode cX9_tryClose 10 = .ok (.iconst 3, 1) := by decide +kernel
theorem dX9_tryClose_11 : decode cX9_tryClose 11 = .ok (.ireturn, 1) := by decide +kernel
theorem dX9_tryClose_12 : decode cX9_tryClose 12 = .ok (.aload_n 0, 1) := by decide +kernel
theorem dX9_tryClose_13 : decode cX9_tryClose 13 = .ok (.getfield 21, 3) := by decide +kernel
theorem dX9_tryClose_16 : decode cX9_tryClose 16 = .ok (.getfield 130, 3) := by decide +kernel
theorem dX9_tryClose_19 : decode cX9_tryClose 19 = .ok (.ifCond .ne 6, 3) := by decide +kernel
theorem dX9_tryClose_22 : decode cX9_tryClose 22 = .ok (.bipush 10, 2) := by decide +kernel
theorem dX9_tryClose_24 : decode cX9_tryClose 24 = .ok (.ireturn, 1) := by decide +kernel
theorem dX9_tryClose_25 : decode cX9_tryClose 25 = .ok (.aload_n 0, 1) := by decide +kernel
theorem dX9_tryClose_26 : decode cX9_tryClose 26 = .ok (.aload_n 0, 1) := by decide +kernel
theorem dX9_tryClose_27 : decode cX9_tryClose 27 = .ok (.getfield 12, 3) := by decide +kernel
theorem dX9_tryClose_30 : decode cX9_tryClose 30 = .ok (.getfield 60, 3) := by decide +kernel
theorem dX9_tryClose_33 : decode cX9_tryClose 33 = .ok (.putfield 79, 3) := by decide +kernel
theorem dX9_tryClose_36 : decode cX9_tryClose 36 = .ok (.aload_n 0, 1) := by decide +kernel
theorem dX9_tryClose_37 : decode cX9_tryClose 37 = .ok (.getfield 12, 3) := by decide +kernel
theorem dX9_tryClose_40 : decode cX9_tryClose 40 = .ok (.iconst 0, 1) := by decide +kernel
theorem dX9_tryClose_41 : decode cX9_tryClose 41 = .ok (.putfield 60, 3) := by decide +kernel
theorem dX9_tryClose_44 : decode cX9_tryClose 44 = .ok (.aload_n 0, 1) := by decide +kernel
theorem dX9_tryClose_45 : decode cX9_tryClose 45 = .ok (.getfield 21, 3) := by decide +kernel
theorem dX9_tryClose_48 : decode cX9_tryClose 48 = .ok (.iconst 0, 1) := by decide +kernel
theorem dX9_tryClose_49 : decode cX9_tryClose 49 = .ok (.putfield 130, 3) := by decide +kernel
theorem dX9_tryClose_52 : decode cX9_tryClose 52 = .ok (.aload_n 0, 1) := by decide +kernel
theorem dX9_tryClose_53 : decode cX9_tryClose 53 = .ok (.getfield 35, 3) := by decide +kernel
theorem dX9_tryClose_56 : decode cX9_tryClose 56 = .ok (.aload_n 0, 1) := by decide +kernel
theorem dX9_tryClose_57 : decode cX9_tryClose 57 = .ok (.getfield 28, 3) := by decide +kernel
theorem dX9_tryClose_60 : decode cX9_tryClose 60 = .ok (.getfield 123, 3) := by decide +kernel
theorem dX9_tryClose_63 : decode cX9_tryClose 63 = .ok (.bipush 99, 2) := by decide +kernel
theorem dX9_tryClose_65 : decode cX9_tryClose 65 = .ok (.iconst 0, 1) := by decide +kernel
theorem dX9_tryClose_66 : decode cX9_tryClose 66 = .ok (.invokevirtual 126, 3) := by decide +kernel
theorem dX9_tryClose_69 : decode cX9_tryClose 69 = .ok (.iconst 0, 1) := by decide +kernel
theorem dX9_tryClose_70 : decode cX9_tryClose 70 = .ok (.ireturn, 1) := by decide +kernel
theorem dX9_tryGuard_0 : decode cX9_tryGuard 0 = .ok (.iload_n 1, 1) := by decide +kernel
theorem dX9_tryGuard_1 : decode cX9_tryGuard 1 = .ok (.invokestatic 139, 3) := by decide +kernel
theorem dX9_tryGuard_4 : decode cX9_tryGuard 4 = .ok (.ifCond .eq 13, 3) := by decide +kernel
theorem dX9_tryGuard_7 : decode cX9_tryGuard 7 = .ok (.iload_n 3, 1) := by decide +kernel
theorem dX9_tryGuard_8 : decode cX9_tryGuard 8 = .ok (.iconst 1, 1) := by decide +kernel
theorem dX9_tryGuard_9 : decode cX9_tryGuard 9 = .ok (.if_icmp .lt 8, 3) := by decide +kernel
theorem dX9_tryGuard_12 : decode cX9_tryGuard 12 = .ok (.iload_n 3, 1) := by decide +kernel
theorem dX9_tryGuard_13 : decode cX9_tryGuard 13 = .ok (.iconst 4, 1) := by decide +kernel
theorem dX9_tryGuard_14 : decode cX9_tryGuard 14 = .ok (.if_icmp .le 6, 3) := by decide +kernel
theorem dX9_tryGuard_17 : decode cX9_tryGuard 17 = .ok (.bipush (-2), 2) := by decide +kernel
theorem dX9_tryGuard_19 : decode cX9_tryGuard 19 = .ok (.ireturn, 1) := by decide +kernel
theorem dX9_tryGuard_20 : decode cX9_tryGuard 20 = .ok (.aload_n 0, 1) := by decide +kernel
theorem dX9_tryGuard_21 : decode cX9_tryGuard 21 = .ok (.getfield 28, 3) := by decide +kernel
theorem dX9_tryGuard_24 : decode cX9_tryGuard 24 = .ok (.getfield 69, 3) := by decide +kernel
theorem dX9_tryGuard_27 : decode cX9_tryGuard 27 = .ok (.iconst 3, 1) := by decide +kernel
theorem dX9_tryGuard_28 : decode cX9_tryGuard 28 = .ok (.if_icmp .lt 5, 3) := by decide +kernel
theorem dX9_tryGuard_31 : decode cX9_tryGuard 31 = .ok (.iconst 1, 1) := by decide +kernel
theorem dX9_tryGuard_32 : decode cX9_tryGuard 32 = .ok (.ireturn, 1) := by decide +kernel
theorem dX9_tryGuard_33 : decode cX9_tryGuard 33 = .ok (.aload_n 0, 1) := by decide +kernel
theorem dX9_tryGuard_34 : decode cX9_tryGuard 34 = .ok (.aload_n 0, 1) := by decide +kernel
theorem dX9_tryGuard_35 : decode cX9_tryGuard 35 = .ok (.getfield 28, 3) := by decide +kernel
theorem dX9_tryGuard_38 : decode cX9_tryGuard 38 = .ok (.iload_n 1, 1) := by decide +kernel
theorem dX9_tryGuard_39 : decode cX9_tryGuard 39 = .ok (.iload_n 2, 1) := by decide +kernel
theorem dX9_tryGuard_40 : decode cX9_tryGuard 40 = .ok (.iload_n 3, 1) := by decide +kernel
theorem dX9_tryGuard_41 : decode cX9_tryGuard 41 = .ok (.invokevirtual 142, 3) := by decide +kernel
theorem dX9_tryGuard_44 : decode cX9_tryGuard 44 = .ok (.putfield 79, 3) := by decide +kernel
theorem dX9_tryGuard_47 : decode cX9_tryGuard 47 = .ok (.iconst 0, 1) := by decide +kernel
theorem dX9_tryGuard_48 : decode cX9_tryGuard 48 = .ok (.ireturn, 1) := by decide +kernel
theorem dX9_tryTurn_0 : decode cX9_tryTurn 0 = .ok (.aload_n 0, 1) := by decide +kernel
theorem dX9_tryTurn_1 : decode cX9_tryTurn 1 = .ok (.getfield 28, 3) := by decide +kernel
theorem dX9_tryTurn_4 : decode cX9_tryTurn 4 = .ok (.iload_n 1, 1) := by decide +kernel
theorem dX9_tryTurn_5 : decode cX9_tryTurn 5 = .ok (.invokevirtual 146, 3) := by decide +kernel
theorem dX9_tryTurn_8 : decode cX9_tryTurn 8 = .ok (.ifCond .ne 5, 3) := by decide +kernel
theorem dX9_tryTurn_11 : decode cX9_tryTurn 11 = .ok (.iconst (-1), 1) := by decide +kernel
theorem dX9_tryTurn_12 : decode cX9_tryTurn 12 = .ok (.ireturn, 1) := by decide +kernel
theorem dX9_tryTurn_13 : decode cX9_tryTurn 13 = .ok (.aload_n 0, 1) := by decide +kernel
theorem dX9_tryTurn_14 : decode cX9_tryTurn 14 = .ok (.getfield 28, 3) := by decide +kernel
theorem dX9_tryTurn_17 : decode cX9_tryTurn 17 = .ok (.getfield 149, 3) := by decide +kernel
theorem dX9_tryTurn_20 : decode cX9_tryTurn 20 = .ok (.iload_n 1, 1) := by decide +kernel
theorem dX9_tryTurn_21 : decode cX9_tryTurn 21 = .ok (.aload_n 0, 1) := by decide +kernel
theorem dX9_tryTurn_22 : decode cX9_tryTurn 22 = .ok (.getfield 28, 3) := by decide +kernel
theorem dX9_tryTurn_25 : decode cX9_tryTurn 25 = .ok (.getfield 149, 3) := by decide +kernel
theorem dX9_tryTurn_28 : decode cX9_tryTurn 28 = .ok (.iload_n 1, 1) := by decide +kernel
theorem dX9_tryTurn_29 : decode cX9_tryTurn 29 = .ok (.baload, 1) := by decide +kernel
theorem dX9_tryTurn_30 : decode cX9_tryTurn 30 = .ok (.ifCond .ne 7, 3) := by decide +kernel
theorem dX9_tryTurn_33 : decode cX9_tryTurn 33 = .ok (.iconst 1, 1) := by decide +kernel
theorem dX9_tryTurn_34 : decode cX9_tryTurn 34 = .ok (.goto 4, 3) := by decide +kernel
theorem dX9_tryTurn_37 : decode cX9_tryTurn 37 = .ok (.iconst 0, 1) := by decide +kernel
theorem dX9_tryTurn_38 : decode cX9_tryTurn 38 = .ok (.bastore, 1) := by decide +kernel
theorem dX9_tryTurn_39 : decode cX9_tryTurn 39 = .ok (.aload_n 0, 1) := by decide +kernel
theorem dX9_tryTurn_40 : decode cX9_tryTurn 40 = .ok (.aload_n 0, 1) := by decide +kernel
theorem dX9_tryTurn_41 : decode cX9_tryTurn 41 = .ok (.getfield 28, 3) := by decide +kernel
theorem dX9_tryTurn_44 : decode cX9_tryTurn 44 = .ok (.getfield 149, 3) := by decide +kernel
theorem dX9_tryTurn_47 : decode cX9_tryTurn 47 = .ok (.iload_n 1, 1) := by decide +kernel
theorem dX9_tryTurn_48 : decode cX9_tryTurn 48 = .ok (.baload, 1) := by decide +kernel
theorem dX9_tryTurn_49 : decode cX9_tryTurn 49 = .ok (.ifCond .eq 7, 3) := by decide +kernel
theorem dX9_tryTurn_52 : decode cX9_tryTurn 52 = .ok (.iconst 1, 1) := by decide +kernel
theorem dX9_tryTurn_53 : decode cX9_tryTurn 53 = .ok (.goto 4, 3) := by decide +kernel
theorem dX9_tryTurn_56 : decode cX9_tryTurn 56 = .ok (.iconst 0, 1) := by decide +kernel
theorem dX9_tryTurn_57 : decode cX9_tryTurn 57 = .ok (.putfield 79, 3) := by decide +kernel
theorem dX9_tryTurn_60 : decode cX9_tryTurn 60 = .ok (.iconst 0, 1) := by decide +kernel
theorem dX9_tryTurn_61 : decode cX9_tryTurn 61 = .ok (.ireturn, 1) := by decide +kernel
theorem dX9_tryHum_0 : decode cX9_tryHum 0 = .ok (.iload_n 1, 1) := by decide +kernel
theorem dX9_tryHum_1 : decode cX9_tryHum 1 = .ok (.invokestatic 139, 3) := by decide +kernel
theorem dX9_tryHum_4 : decode cX9_tryHum 4 = .ok (.ifCond .eq 14, 3) := by decide +kernel
theorem dX9_tryHum_7 : decode cX9_tryHum 7 = .ok (.iload_n 2, 1) := by decide +kernel
theorem dX9_tryHum_8 : decode cX9_tryHum 8 = .ok (.iconst 1, 1) := by decide +kernel
theorem dX9_tryHum_9 : decode cX9_tryHum 9 = .ok (.if_icmp .lt 9, 3) := by decide +kernel
theorem dX9_tryHum_12 : decode cX9_tryHum 12 = .ok (.iload_n 2, 1) := by decide +kernel
theorem dX9_tryHum_13 : decode cX9_tryHum 13 = .ok (.bipush 9, 2) := by decide +kernel
theorem dX9_tryHum_15 : decode cX9_tryHum 15 = .ok (.if_icmp .le 6, 3) := by decide +kernel
theorem dX9_tryHum_18 : decode cX9_tryHum 18 = .ok (.bipush (-2), 2) := by decide +kernel
theorem dX9_tryHum_20 : decode cX9_tryHum 20 = .ok (.ireturn, 1) := by decide +kernel
theorem dX9_tryHum_21 : decode cX9_tryHum 21 = .ok (.aload_n 0, 1) := by decide +kernel
theorem dX9_tryHum_22 : decode cX9_tryHum 22 = .ok (.getfield 28, 3) := by decide +kernel
theorem dX9_tryHum_25 : decode cX9_tryHum 25 = .ok (.getfield 153, 3) := by decide +kernel
theorem dX9_tryHum_28 : decode cX9_tryHum 28 = .ok (.iload_n 1, 1) := by decide +kernel
theorem dX9_tryHum_29 : decode cX9_tryHum 29 = .ok (.bipush 20, 2) := by decide +kernel
theorem dX9_tryHum_31 : decode cX9_tryHum 31 = .ok (.aload_n 0, 1) := by decide +kernel
theorem dX9_tryHum_32 : decode cX9_tryHum 32 = .ok (.getfield 28, 3) := by decide +kernel
theorem dX9_tryHum_35 : decode cX9_tryHum 35 = .ok (.getfield 153, 3) := by decide +kernel
theorem dX9_tryHum_38 : decode cX9_tryHum 38 = .ok (.iload_n 1, 1) := by decide +kernel
theorem dX9_tryHum_39 : decode cX9_tryHum 39 = .ok (.iaload, 1) := by decide +kernel
theorem dX9_tryHum_40 : decode cX9_tryHum 40 = .ok (.iload_n 2, 1) := by decide +kernel
theorem dX9_tryHum_41 : decode cX9_tryHum 41 = .ok (.iadd, 1) := by decide +kernel
theorem dX9_tryHum_42 : decode cX9_tryHum 42 = .ok (.invokestatic 156, 3) := by decide +kernel
theorem dX9_tryHum_45 : decode cX9_tryHum 45 = .ok (.iastore, 1) := by decide +kernel
theorem dX9_tryHum_46 : decode cX9_tryHum 46 = .ok (.aload_n 0, 1) := by decide +kernel
theorem dX9_tryHum_47 : decode cX9_tryHum 47 = .ok (.aload_n 0, 1) := by decide +kernel
theorem dX9_tryHum_48 : decode cX9_tryHum 48 = .ok (.getfield 28, 3) := by decide +kernel
theorem dX9_tryHum_51 : decode cX9_tryHum 51 = .ok (.getfield 153, 3) := by decide +kernel
theorem dX9_tryHum_54 : decode cX9_tryHum 54 = .ok (.iload_n 1, 1) := by decide +kernel
theorem dX9_tryHum_55 : decode cX9_tryHum 55 = .ok (.iaload, 1) := by decide +kernel
theorem dX9_tryHum_56 : decode cX9_tryHum 56 = .ok (.putfield 79, 3) := by decide +kernel
theorem dX9_tryHum_59 : decode cX9_tryHum 59 = .ok (.iconst 0, 1) := by decide +kernel
theorem dX9_tryHum_60 : decode cX9_tryHum 60 = .ok (.ireturn, 1) := by decide +kernel
theorem dX9_tryHours_0 : decode cX9_tryHours 0 = .ok (.iload_n 1, 1) := by decide +kernel
theorem dX9_tryHours_1 : decode cX9_tryHours 1 = .ok (.iconst 1, 1) := by decide +kernel
theorem dX9_tryHours_2 : decode cX9_tryHours 2 = .ok (.if_icmp .lt 9, 3) := by decide +kernel
theorem dX9_tryHours_5 : decode cX9_tryHours 5 = .ok (.iload_n 1, 1) := by decide +kernel
theorem dX9_tryHours_6 : decode cX9_tryHours 6 = .ok (.bipush 24, 2) := by decide +kernel
theorem dX9_tryHours_8 : decode cX9_tryHours 8 = .ok (.if_icmp .le 6, 3) := by decide +kernel
theorem dX9_tryHours_11 : decode cX9_tryHours 11 = .ok (.bipush (-2), 2) := by decide +kernel
theorem dX9_tryHours_13 : decode cX9_tryHours 13 = .ok (.ireturn, 1) := by decide +kernel
theorem dX9_tryHours_14 : decode cX9_tryHours 14 = .ok (.aload_n 0, 1) := by decide +kernel
theorem dX9_tryHours_15 : decode cX9_tryHours 15 = .ok (.getfield 28, 3) := by decide +kernel
theorem dX9_tryHours_18 : decode cX9_tryHours 18 = .ok (.getfield 162, 3) := by decide +kernel
theorem dX9_tryHours_21 : decode cX9_tryHours 21 = .ok (.istore_n 2, 1) := by decide +kernel
theorem dX9_tryHours_22 : decode cX9_tryHours 22 = .ok (.iconst 0, 1) := by decide +kernel
theorem dX9_tryHours_23 : decode cX9_tryHours 23 = .ok (.istore_n 3, 1) := by decide +kernel
theorem dX9_tryHours_24 : decode cX9_tryHours 24 = .ok (.iload_n 3, 1) := by decide +kernel
theorem dX9_tryHours_25 : decode cX9_tryHours 25 = .ok (.iload_n 1, 1) := by decide +kernel
theorem dX9_tryHours_26 : decode cX9_tryHours 26 = .ok (.if_icmp .ge 27, 3) := by decide +kernel
theorem dX9_tryHours_29 : decode cX9_tryHours 29 = .ok (.aload_n 0, 1) := by decide +kernel
theorem dX9_tryHours_30 : decode cX9_tryHours 30 = .ok (.aload_n 0, 1) := by decide +kernel
theorem dX9_tryHours_31 : decode cX9_tryHours 31 = .ok (.getfield 28, 3) := by decide +kernel
theorem dX9_tryHours_34 : decode cX9_tryHours 34 = .ok (.invokevirtual 165, 3) := by decide +kernel
theorem dX9_tryHours_37 : decode cX9_tryHours 37 = .ok (.invokevirtual 168, 3) := by decide +kernel
theorem dX9_tryHours_40 : decode cX9_tryHours 40 = .ok (.aload_n 0, 1) := by decide +kernel
theorem dX9_tryHours_41 : decode cX9_tryHours 41 = .ok (.getfield 21, 3) := by decide +kernel
theorem dX9_tryHours_44 : decode cX9_tryHours 44 = .ok (.invokevirtual 172, 3) := by decide +kernel
theorem dX9_tryHours_47 : decode cX9_tryHours 47 = .ok (.iinc 3 1, 3) := by decide +kernel
theorem dX9_tryHours_50 : decode cX9_tryHours 50 = .ok (.goto (-26), 3) := by decide +kernel
theorem dX9_tryHours_53 : decode cX9_tryHours 53 = .ok (.aload_n 0, 1) := by decide +kernel
theorem dX9_tryHours_54 : decode cX9_tryHours 54 = .ok (.aload_n 0, 1) := by decide +kernel
theorem dX9_tryHours_55 : decode cX9_tryHours 55 = .ok (.getfield 28, 3) := by decide +kernel
theorem dX9_tryHours_58 : decode cX9_tryHours 58 = .ok (.getfield 162, 3) := by decide +kernel
theorem dX9_tryHours_61 : decode cX9_tryHours 61 = .ok (.iload_n 2, 1) := by decide +kernel
theorem dX9_tryHours_62 : decode cX9_tryHours 62 = .ok (.isub, 1) := by decide +kernel
theorem dX9_tryHours_63 : decode cX9_tryHours 63 = .ok (.putfield 79, 3) := by decide +kernel
theorem dX9_tryHours_66 : decode cX9_tryHours 66 = .ok (.iconst 0, 1) := by decide +kernel
theorem dX9_tryHours_67 : decode cX9_tryHours 67 = .ok (.ireturn, 1) := by decide +kernel
theorem dX9_enterAlarms_0 : decode cX9_enterAlarms 0 = .ok (.iconst 0, 1) := by decide +kernel
theorem dX9_enterAlarms_1 : decode cX9_enterAlarms 1 = .ok (.istore_n 2, 1) := by decide +kernel
theorem dX9_enterAlarms_2 : decode cX9_enterAlarms 2 = .ok (.iload_n 2, 1) := by decide +kernel
theorem dX9_enterAlarms_3 : decode cX9_enterAlarms 3 = .ok (.bipush 8, 2) := by decide +kernel
theorem dX9_enterAlarms_5 : decode cX9_enterAlarms 5 = .ok (.if_icmp .ge 35, 3) := by decide +kernel
theorem dX9_enterAlarms_8 : decode cX9_enterAlarms 8 = .ok (.iload_n 1, 1) := by decide +kernel
theorem dX9_enterAlarms_9 : decode cX9_enterAlarms 9 = .ok (.iload_n 2, 1) := by decide +kernel
theorem dX9_enterAlarms_10 : decode cX9_enterAlarms 10 = .ok (.ishr, 1) := by decide +kernel
theorem dX9_enterAlarms_11 : decode cX9_enterAlarms 11 = .ok (.iconst 1, 1) := by decide +kernel
theorem dX9_enterAlarms_12 : decode cX9_enterAlarms 12 = .ok (.iand, 1) := by decide +kernel
theorem dX9_enterAlarms_13 : decode cX9_enterAlarms 13 = .ok (.iconst 1, 1) := by decide +kernel
theorem dX9_enterAlarms_14 : decode cX9_enterAlarms 14 = .ok (.if_icmp .ne 20, 3) := by decide +kernel
theorem dX9_enterAlarms_17 : decode cX9_enterAlarms 17 = .ok (.aload_n 0, 1) := by decide +kernel
theorem dX9_enterAlarms_18 : decode cX9_enterAlarms 18 = .ok (.getfield 35, 3) := by decide +kernel
theorem dX9_enterAlarms_21 : decode cX9_enterAlarms 21 = .ok (.aload_n 0, 1) := by decide +kernel
theorem dX9_enterAlarms_22 : decode cX9_enterAlarms 22 = .ok (.getfield 28, 3) := by decide +kernel
theorem dX9_enterAlarms_25 : decode cX9_enterAlarms 25 = .ok (.getfield 123, 3) := by decide +kernel
theorem dX9_enterAlarms_28 : decode cX9_enterAlarms 28 = .ok (.bipush 97, 2) := by decide +kernel
theorem dX9_enterAlarms_30 : decode cX9_enterAlarms 30 = .ok (.iload_n 2, 1) := by decide +kernel
theorem dX9_enterAlarms_31 : decode cX9_enterAlarms 31 = .ok (.invokevirtual 126, 3) := by decide +kernel
theorem dX9_enterAlarms_34 : decode cX9_enterAlarms 34 = .ok (.iinc 2 1, 3) := by decide +kernel
theorem dX9_enterAlarms_37 : decode cX9_enterAlarms 37 = .ok (.goto (-35), 3) := by decide +kernel
theorem dX9_enterAlarms_40 : decode cX9_enterAlarms 40 = .ok (.return_, 1) := by decide +kernel
theorem dX9_tryCommand_0 : decode cX9_tryCommand 0 = .ok (.getstatic 174, 3) := by decide +kernel
theorem dX9_tryCommand_3 : decode cX9_tryCommand 3 = .ok (.aload_n 1, 1) := by decide +kernel
theorem dX9_tryCommand_4 : decode cX9_tryCommand 4 = .ok (.invokevirtual 179, 3) := by decide +kernel
theorem dX9_tryCommand_7 : decode cX9_tryCommand 7 = .ok (.iaload, 1) := by decide +kernel
theorem dX9_tryCommand_8 : decode cX9_tryCommand 8 = .ok (.tableswitch 161 1 10 #[56, 61, 78, 89, 97, 105, 114, 119, 142, 150], 56) := by decide +kernel
theorem dX9_tryCommand_64 : decode cX9_tryCommand 64 = .ok (.aload_n 0, 1) := by decide +kernel
theorem dX9_tryCommand_65 : decode cX9_tryCommand 65 = .ok (.invokevirtual 184, 3) := by decide +kernel
theorem dX9_tryCommand_68 : decode cX9_tryCommand 68 = .ok (.ireturn, 1) := by decide +kernel
theorem dX9_tryCommand_69 : decode cX9_tryCommand 69 = .ok (.aload_n 0, 1) := by decide +kernel
theorem dX9_tryCommand_70 : decode cX9_tryCommand 70 = .ok (.aload_n 2, 1) := by decide +kernel
theorem dX9_tryCommand_71 : decode cX9_tryCommand 71 = .ok (.iconst 0, 1) := by decide +kernel
theorem dX9_tryCommand_72 : decode cX9_tryCommand 72 = .ok (.iaload, 1) := by decide +kernel
theorem dX9_tryCommand_73 : decode cX9_tryCommand 73 = .ok (.aload_n 2, 1) := by decide +kernel
theorem dX9_tryCommand_74 : decode cX9_tryCommand 74 = .ok (.iconst 1, 1) := by decide +kernel
theorem dX9_tryCommand_75 : decode cX9_tryCommand 75 = .ok (.iaload, 1) := by decide +kernel
theorem dX9_tryCommand_76 : decode cX9_tryCommand 76 = .ok (.aload_n 2, 1) := by decide +kernel
theorem dX9_tryCommand_77 : decode cX9_tryCommand 77 = .ok (.iconst 2, 1) := by decide +kernel
theorem dX9_tryCommand_78 : decode cX9_tryCommand 78 = .ok (.iaload, 1) := by decide +kernel
theorem dX9_tryCommand_79 : decode cX9_tryCommand 79 = .ok (.aload_n 2, 1) := by decide +kernel
theorem dX9_tryCommand_80 : decode cX9_tryCommand 80 = .ok (.iconst 3, 1) := by decide +kernel
theorem dX9_tryCommand_81 : decode cX9_tryCommand 81 = .ok (.iaload, 1) := by decide +kernel
theorem dX9_tryCommand_82 : decode cX9_tryCommand 82 = .ok (.invokevirtual 187, 3) := by decide +kernel
theorem dX9_tryCommand_85 : decode cX9_tryCommand 85 = .ok (.ireturn, 1) := by decide +kernel
theorem dX9_tryCommand_86 : decode cX9_tryCommand 86 = .ok (.aload_n 0, 1) := by decide +kernel
theorem dX9_tryCommand_87 : decode cX9_tryCommand 87 = .ok (.aload_n 2, 1) := by decide +kernel
theorem dX9_tryCommand_88 : decode cX9_tryCommand 88 = .ok (.iconst 0, 1) := by decide +kernel
theorem dX9_tryCommand_89 : decode cX9_tryCommand 89 = .ok (.iaload, 1) := by decide +kernel
theorem dX9_tryCommand_90 : decode cX9_tryCommand 90 = .ok (.aload_n 2, 1) := by decide +kernel
theorem dX9_tryCommand_91 : decode cX9_tryCommand 91 = .ok (.iconst 1, 1) := by decide +kernel
theorem dX9_tryCommand_92 : decode cX9_tryCommand 92 = .ok (.iaload, 1) := by decide +kernel
theorem dX9_tryCommand_93 : decode cX9_tryCommand 93 = .ok (.invokevirtual 191, 3) := by decide +kernel
theorem dX9_tryCommand_96 : decode cX9_tryCommand 96 = .ok (.ireturn, 1) := by decide +kernel
theorem dX9_tryCommand_97 : decode cX9_tryCommand 97 = .ok (.aload_n 0, 1) := by decide +kernel
theorem dX9_tryCommand_98 : decode cX9_tryCommand 98 = .ok (.aload_n 2, 1) := by decide +kernel
theorem dX9_tryCommand_99 : decode cX9_tryCommand 99 = .ok (.iconst 0, 1) := by decide +kernel
theorem dX9_tryCommand_100 : decode cX9_tryCommand 100 = .ok (.iaload, 1) := by decide +kernel
theorem dX9_tryCommand_101 : decode cX9_tryCommand 101 = .ok (.invokevirtual 194, 3) := by decide +kernel
theorem dX9_tryCommand_104 : decode cX9_tryCommand 104 = .ok (.ireturn, 1) := by decide +kernel
theorem dX9_tryCommand_105 : decode cX9_tryCommand 105 = .ok (.aload_n 0, 1) := by decide +kernel
theorem dX9_tryCommand_106 : decode cX9_tryCommand 106 = .ok (.aload_n 2, 1) := by decide +kernel
theorem dX9_tryCommand_107 : decode cX9_tryCommand 107 = .ok (.iconst 0, 1) := by decide +kernel
theorem dX9_tryCommand_108 : decode cX9_tryCommand 108 = .ok (.iaload, 1) := by decide +kernel
theorem dX9_tryCommand_109 : decode cX9_tryCommand 109 = .ok (.invokevirtual 197, 3) := by decide +kernel
theorem dX9_tryCommand_112 : decode cX9_tryCommand 112 = .ok (.ireturn, 1) := by decide +kernel
theorem dX9_tryCommand_113 : decode cX9_tryCommand 113 = .ok (.aload_n 0, 1) := by decide +kernel
theorem dX9_tryCommand_114 : decode cX9_tryCommand 114 = .ok (.aload_n 0, 1) := by decide +kernel
theorem dX9_tryCommand_115 : decode cX9_tryCommand 115 = .ok (.invokevirtual 200, 3) := by decide +kernel
theorem dX9_tryCommand_118 : decode cX9_tryCommand 118 = .ok (.invokevirtual 203, 3) := by decide +kernel
theorem dX9_tryCommand_121 : decode cX9_tryCommand 121 = .ok (.ireturn, 1) := by decide +kernel
theorem dX9_tryCommand_122 : decode cX9_tryCommand 122 = .ok (.aload_n 0, 1) := by decide +kernel
theorem dX9_tryCommand_123 : decode cX9_tryCommand 123 = .ok (.invokevirtual 206, 3) := by decide +kernel
theorem dX9_tryCommand_126 : decode cX9_tryCommand 126 = .ok (.ireturn, 1) := by decide +kernel
theorem dX9_tryCommand_127 : decode cX9_tryCommand 127 = .ok (.aload_n 0, 1) := by decide +kernel
theorem dX9_tryCommand_128 : decode cX9_tryCommand 128 = .ok (.aload_n 2, 1) := by decide +kernel
theorem dX9_tryCommand_129 : decode cX9_tryCommand 129 = .ok (.iconst 0, 1) := by decide +kernel
theorem dX9_tryCommand_130 : decode cX9_tryCommand 130 = .ok (.iaload, 1) := by decide +kernel
theorem dX9_tryCommand_131 : decode cX9_tryCommand 131 = .ok (.aload_n 2, 1) := by decide +kernel
theorem dX9_tryCommand_132 : decode cX9_tryCommand 132 = .ok (.iconst 1, 1) := by decide +kernel
theorem dX9_tryCommand_133 : decode cX9_tryCommand 133 = .ok (.iaload, 1) := by decide +kernel
theorem dX9_tryCommand_134 : decode cX9_tryCommand 134 = .ok (.iconst 1, 1) := by decide +kernel
theorem dX9_tryCommand_135 : decode cX9_tryCommand 135 = .ok (.if_icmp .ne 7, 3) := by decide +kernel
theorem dX9_tryCommand_138 : decode cX9_tryCommand 138 = .ok (.iconst 1, 1) := by decide +kernel
theorem dX9_tryCommand_139 : decode cX9_tryCommand 139 = .ok (.goto 4, 3) := by decide +kernel
theorem dX9_tryCommand_142 : decode cX9_tryCommand 142 = .ok (.iconst 0, 1) := by decide +kernel
theorem dX9_tryCommand_143 : decode cX9_tryCommand 143 = .ok (.aload_n 2, 1) := by decide +kernel
theorem dX9_tryCommand_144 : decode cX9_tryCommand 144 = .ok (.iconst 2, 1) := by decide +kernel
theorem dX9_tryCommand_145 : decode cX9_tryCommand 145 = .ok (.iaload, 1) := by decide +kernel
theorem dX9_tryCommand_146 : decode cX9_tryCommand 146 = .ok (.invokevirtual 209, 3) := by decide +kernel
theorem dX9_tryCommand_149 : decode cX9_tryCommand 149 = .ok (.ireturn, 1) := by decide +kernel
theorem dX9_tryCommand_150 : decode cX9_tryCommand 150 = .ok (.aload_n 0, 1) := by decide +kernel
theorem dX9_tryCommand_151 : decode cX9_tryCommand 151 = .ok (.aload_n 2, 1) := by decide +kernel
theorem dX9_tryCommand_152 : decode cX9_tryCommand 152 = .ok (.iconst 0, 1) := by decide +kernel
theorem dX9_tryCommand_153 : decode cX9_tryCommand 153 = .ok (.iaload, 1) := by decide +kernel
theorem dX9_tryCommand_154 : decode cX9_tryCommand 154 = .ok (.invokevirtual 212, 3) := by decide +kernel
theorem dX9_tryCommand_157 : decode cX9_tryCommand 157 = .ok (.ireturn, 1) := by decide +kernel
theorem dX9_tryCommand_158 : decode cX9_tryCommand 158 = .ok (.aload_n 0, 1) := by decide +kernel
theorem dX9_tryCommand_159 : decode cX9_tryCommand 159 = .ok (.aload_n 2, 1) := by decide +kernel
theorem dX9_tryCommand_160 : decode cX9_tryCommand 160 = .ok (.iconst 0, 1) := by decide +kernel
theorem dX9_tryCommand_161 : decode cX9_tryCommand 161 = .ok (.iaload, 1) := by decide +kernel
theorem dX9_tryCommand_162 : decode cX9_tryCommand 162 = .ok (.aload_n 2, 1) := by decide +kernel
theorem dX9_tryCommand_163 : decode cX9_tryCommand 163 = .ok (.iconst 1, 1) := by decide +kernel
theorem dX9_tryCommand_164 : decode cX9_tryCommand 164 = .ok (.iaload, 1) := by decide +kernel
theorem dX9_tryCommand_165 : decode cX9_tryCommand 165 = .ok (.invokevirtual 215, 3) := by decide +kernel
theorem dX9_tryCommand_168 : decode cX9_tryCommand 168 = .ok (.ireturn, 1) := by decide +kernel
theorem dX9_tryCommand_169 : decode cX9_tryCommand 169 = .ok (.aload_n 0, 1) := by decide +kernel
theorem dX9_tryCommand_170 : decode cX9_tryCommand 170 = .ok (.aload_n 2, 1) := by decide +kernel
theorem dX9_tryCommand_171 : decode cX9_tryCommand 171 = .ok (.iconst 0, 1) := by decide +kernel
theorem dX9_tryCommand_172 : decode cX9_tryCommand 172 = .ok (.iaload, 1) := by decide +kernel
theorem dX9_tryCommand_173 : decode cX9_tryCommand 173 = .ok (.invokevirtual 218, 3) := by decide +kernel
theorem dX9_tryCommand_176 : decode cX9_tryCommand 176 = .ok (.ireturn, 1) := by decide +kernel
theorem dX9_verdictOnOutcome_0 : decode cX9_verdictOnOutcome 0 = .ok (.iload_n 1, 1) := by decide +kernel
theorem dX9_verdictOnOutcome_1 : decode cX9_verdictOnOutcome 1 = .ok (.ifCond .ne 15, 3) := by decide +kernel
theorem dX9_verdictOnOutcome_4 : decode cX9_verdictOnOutcome 4 = .ok (.aload_n 0, 1) := by decide +kernel
theorem dX9_verdictOnOutcome_5 : decode cX9_verdictOnOutcome 5 = .ok (.getfield 79, 3) := by decide +kernel
theorem dX9_verdictOnOutcome_8 : decode cX9_verdictOnOutcome 8 = .ok (.ifCond .ne 8, 3) := by decide +kernel
theorem dX9_verdictOnOutcome_11 : decode cX9_verdictOnOutcome 11 = .ok (.bipush (-3), 2) := by decide +kernel
theorem dX9_verdictOnOutcome_13 : decode cX9_verdictOnOutcome 13 = .ok (.goto 4, 3) := by decide +kernel
theorem dX9_verdictOnOutcome_16 : decode cX9_verdictOnOutcome 16 = .ok (.iload_n 1, 1) := by decide +kernel
theorem dX9_verdictOnOutcome_17 : decode cX9_verdictOnOutcome 17 = .ok (.ireturn, 1) := by decide +kernel
theorem dX11_init_0 : decode cX11_init 0 = .ok (.aload_n 0, 1) := by decide +kernel
theorem dX11_init_1 : decode cX11_init 1 = .ok (.invokespecial 1, 3) := by decide +kernel
theorem dX11_init_4 : decode cX11_init 4 = .ok (.aload_n 0, 1) := by decide +kernel
theorem dX11_init_5 : decode cX11_init 5 = .ok (.new 7, 3) := by decide +kernel
theorem dX11_init_8 : decode cX11_init 8 = .ok (.dup, 1) := by decide +kernel
theorem dX11_init_9 : decode cX11_init 9 = .ok (.invokespecial 9, 3) := by decide +kernel
theorem dX11_init_12 : decode cX11_init 12 = .ok (.putfield 10, 3) := by decide +kernel
theorem dX11_init_15 : decode cX11_init 15 = .ok (.aload_n 0, 1) := by decide +kernel
theorem dX11_init_16 : decode cX11_init 16 = .ok (.new 16, 3) := by decide +kernel
theorem dX11_init_19 : decode cX11_init 19 = .ok (.dup, 1) := by decide +kernel
theorem dX11_init_20 : decode cX11_init 20 = .ok (.invokespecial 18, 3) := by decide +kernel
theorem dX11_init_23 : decode cX11_init 23 = .ok (.putfield 19, 3) := by decide +kernel
theorem dX11_init_26 : decode cX11_init 26 = .ok (.aload_n 0, 1) := by decide +kernel
theorem dX11_init_27 : decode cX11_init 27 = .ok (.new 7, 3) := by decide +kernel
theorem dX11_init_30 : decode cX11_init 30 = .ok (.dup, 1) := by decide +kernel
theorem dX11_init_31 : decode cX11_init 31 = .ok (.invokespecial 9, 3) := by decide +kernel
theorem dX11_init_34 : decode cX11_init 34 = .ok (.putfield 23, 3) := by decide +kernel
theorem dX11_init_37 : decode cX11_init 37 = .ok (.aload_n 0, 1) := by decide +kernel
theorem dX11_init_38 : decode cX11_init 38 = .ok (.new 26, 3) := by decide +kernel
theorem dX11_init_41 : decode cX11_init 41 = .ok (.dup, 1) := by decide +kernel
theorem dX11_init_42 : decode cX11_init 42 = .ok (.invokespecial 28, 3) := by decide +kernel
theorem dX11_init_45 : decode cX11_init 45 = .ok (.putfield 29, 3) := by decide +kernel
theorem dX11_init_48 : decode cX11_init 48 = .ok (.aload_n 0, 1) := by decide +kernel
theorem dX11_init_49 : decode cX11_init 49 = .ok (.new 33, 3) := by decide +kernel
theorem dX11_init_52 : decode cX11_init 52 = .ok (.dup, 1) := by decide +kernel
theorem dX11_init_53 : decode cX11_init 53 = .ok (.invokespecial 35, 3) := by decide +kernel
theorem dX11_init_56 : decode cX11_init 56 = .ok (.putfield 36, 3) := by decide +kernel
theorem dX11_init_59 : decode cX11_init 59 = .ok (.aload_n 0, 1) := by decide +kernel
theorem dX11_init_60 : decode cX11_init 60 = .ok (.new 40, 3) := by decide +kernel
theorem dX11_init_63 : decode cX11_init 63 = .ok (.dup, 1) := by decide +kernel
theorem dX11_init_64 : decode cX11_init 64 = .ok (.invokespecial 42, 3) := by decide +kernel
theorem dX11_init_67 : decode cX11_init 67 = .ok (.putfield 43, 3) := by decide +kernel
theorem dX11_init_70 : decode cX11_init 70 = .ok (.aload_n 0, 1) := by decide +kernel
theorem dX11_init_71 : decode cX11_init 71 = .ok (.new 47, 3) := by decide +kernel
theorem dX11_init_74 : decode cX11_init 74 = .ok (.dup, 1) := by decide +kernel
theorem dX11_init_75 : decode cX11_init 75 = .ok (.invokespecial 49, 3) := by decide +kernel
theorem dX11_init_78 : decode cX11_init 78 = .ok (.putfield 50, 3) := by decide +kernel
theorem dX11_init_81 : decode cX11_init 81 = .ok (.aload_n 0, 1) := by decide +kernel
theorem dX11_init_82 : decode cX11_init 82 = .ok (.iconst (-1), 1) := by decide +kernel
theorem dX11_init_83 : decode cX11_init 83 = .ok (.putfield 54, 3) := by decide +kernel
theorem dX11_init_86 : decode cX11_init 86 = .ok (.aload_n 0, 1) := by decide +kernel
theorem dX11_init_87 : decode cX11_init 87 = .ok (.iconst (-1), 1) := by decide +kernel
theorem dX11_init_88 : decode cX11_init 88 = .ok (.putfield 58, 3) := by decide +kernel
theorem dX11_init_91 : decode cX11_init 91 = .ok (.aload_n 0, 1) := by decide +kernel
theorem dX11_init_92 : decode cX11_init 92 = .ok (.iconst (-1), 1) := by decide +kernel
theorem dX11_init_93 : decode cX11_init 93 = .ok (.putfield 61, 3) := by decide +kernel
theorem dX11_init_96 : decode cX11_init 96 = .ok (.return_, 1) := by decide +kernel
theorem dX11_addHolder_0 : decode cX11_addHolder 0 = .ok (.aload_n 0, 1) := by decide +kernel
theorem dX11_addHolder_1 : decode cX11_addHolder 1 = .ok (.getfield 19, 3) := by decide +kernel
theorem dX11_addHolder_4 : decode cX11_addHolder 4 = .ok (.aload_n 0, 1) := by decide +kernel
theorem dX11_addHolder_5 : decode cX11_addHolder 5 = .ok (.getfield 10, 3) := by decide +kernel
theorem dX11_addHolder_8 : decode cX11_addHolder 8 = .ok (.invokevirtual 64, 3) := by decide +kernel
theorem dX11_addHolder_11 : decode cX11_addHolder 11 = .ok (.aload_n 0, 1) := by decide +kernel
theorem dX11_addHolder_12 : decode cX11_addHolder 12 = .ok (.aload_n 0, 1) := by decide +kernel
theorem dX11_addHolder_13 : decode cX11_addHolder 13 = .ok (.getfield 10, 3) := by decide +kernel
theorem dX11_addHolder_16 : decode cX11_addHolder 16 = .ok (.invokevirtual 68, 3) := by decide +kernel
theorem dX11_addHolder_19 : decode cX11_addHolder 19 = .ok (.bipush 8, 2) := by decide +kernel
theorem dX11_addHolder_21 : decode cX11_addHolder 21 = .ok (.invokevirtual 72, 3) := by decide +kernel
theorem dX11_addHolder_24 : decode cX11_addHolder 24 = .ok (.ireturn, 1) := by decide +kernel
theorem dX11_seal_0 : decode cX11_seal 0 = .ok (.aload_n 0, 1) := by decide +kernel
theorem dX11_seal_1 : decode cX11_seal 1 = .ok (.getfield 19, 3) := by decide +kernel
theorem dX11_seal_4 : decode cX11_seal 4 = .ok (.aload_n 0, 1) := by decide +kernel
theorem dX11_seal_5 : decode cX11_seal 5 = .ok (.getfield 10, 3) := by decide +kernel
theorem dX11_seal_8 : decode cX11_seal 8 = .ok (.invokevirtual 64, 3) := by decide +kernel
theorem dX11_seal_11 : decode cX11_seal 11 = .ok (.aload_n 0, 1) := by decide +kernel
theorem dX11_seal_12 : decode cX11_seal 12 = .ok (.aload_n 0, 1) := by decide +kernel
theorem dX11_seal_13 : decode cX11_seal 13 = .ok (.getfield 10, 3) := by decide +kernel
theorem dX11_seal_16 : decode cX11_seal 16 = .ok (.iload_n 1, 1) := by decide +kernel
theorem dX11_seal_17 : decode cX11_seal 17 = .ok (.iload_n 2, 1) := by decide +kernel
theorem dX11_seal_18 : decode cX11_seal 18 = .ok (.iload_n 3, 1) := by decide +kernel
theorem dX11_seal_19 : decode cX11_seal 19 = .ok (.iload 4, 2) := by decide +kernel
theorem dX11_seal_21 : decode cX11_seal 21 = .ok (.invokevirtual 76, 3) := by decide +kernel
theorem dX11_seal_24 : decode cX11_seal 24 = .ok (.iconst 0, 1) := by decide +kernel
theorem dX11_seal_25 : decode cX11_seal 25 = .ok (.invokevirtual 72, 3) := by decide +kernel
theorem dX11_seal_28 : decode cX11_seal 28 = .ok (.ireturn, 1) := by decide +kernel
theorem dX11_setShare_0 : decode cX11_setShare 0 = .ok (.aload_n 0, 1) := by decide +kernel
theorem dX11_setShare_1 : decode cX11_setShare 1 = .ok (.getfield 19, 3) := by decide +kernel
theorem dX11_setShare_4 : decode cX11_setShare 4 = .ok (.aload_n 0, 1) := by decide +kernel
theorem dX11_setShare_5 : decode cX11_setShare 5 = .ok (.getfield 10, 3) := by decide +kernel
theorem dX11_setShare_8 : decode cX11_setShare 8 = .ok (.invokevirtual 64, 3) := by decide +kernel
theorem dX11_setShare_11 : decode cX11_setShare 11 = .ok (.aload_n 0, 1) := by decide +kernel
theorem dX11_setShare_12 : decode cX11_setShare 12 = .ok (.aload_n 0, 1) := by decide +kernel
theorem dX11_setShare_13 : decode cX11_setShare 13 = .ok (.getfield 10, 3) := by decide +kernel
theorem dX11_setShare_16 : decode cX11_setShare 16 = .ok (.iload_n 1, 1) := by decide +kernel
theorem dX11_setShare_17 : decode cX11_setShare 17 = .ok (.iload_n 2, 1) := by decide +kernel
theorem dX11_setShare_18 : decode cX11_setShare 18 = .ok (.invokevirtual 80, 3) := by decide +kernel
theorem dX11_setShare_21 : decode cX11_setShare 21 = .ok (.iload_n 1, 1) := by decide +kernel
theorem dX11_setShare_22 : decode cX11_setShare 22 = .ok (.invokevirtual 72, 3) := by decide +kernel
theorem dX11_setShare_25 : decode cX11_setShare 25 = .ok (.ireturn, 1) := by decide +kernel
theorem dX11_present_0 : decode cX11_present 0 = .ok (.aload_n 0, 1) := by decide +kernel
theorem dX11_present_1 : decode cX11_present 1 = .ok (.getfield 19, 3) := by decide +kernel
theorem dX11_present_4 : decode cX11_present 4 = .ok (.aload_n 0, 1) := by decide +kernel
theorem dX11_present_5 : decode cX11_present 5 = .ok (.getfield 10, 3) := by decide +kernel
theorem dX11_present_8 : decode cX11_present 8 = .ok (.invokevirtual 64, 3) := by decide +kernel
theorem dX11_present_11 : decode cX11_present 11 = .ok (.aload_n 0, 1) := by decide +kernel
theorem dX11_present_12 : decode cX11_present 12 = .ok (.aload_n 0, 1) := by decide +kernel
theorem dX11_present_13 : decode cX11_present 13 = .ok (.getfield 10, 3) := by decide +kernel
theorem dX11_present_16 : decode cX11_present 16 = .ok (.iload_n 1, 1) := by decide +kernel
theorem dX11_present_17 : decode cX11_present 17 = .ok (.invokevirtual 83, 3) := by decide +kernel
theorem dX11_present_20 : decode cX11_present 20 = .ok (.iload_n 1, 1) := by decide +kernel
theorem dX11_present_21 : decode cX11_present 21 = .ok (.invokevirtual 72, 3) := by decide +kernel
theorem dX11_present_24 : decode cX11_present 24 = .ok (.ireturn, 1) := by decide +kernel
theorem dX11_takeBack_0 : decode cX11_takeBack 0 = .ok (.aload_n 0, 1) := by decide +kernel
theorem dX11_takeBack_1 : decode cX11_takeBack 1 = .ok (.getfield 19, 3) := by decide +kernel
theorem dX11_takeBack_4 : decode cX11_takeBack 4 = .ok (.aload_n 0, 1) := by decide +kernel
theorem dX11_takeBack_5 : decode cX11_takeBack 5 = .ok (.getfield 10, 3) := by decide +kernel
theorem dX11_takeBack_8 : decode cX11_takeBack 8 = .ok (.invokevirtual 64, 3) := by decide +kernel
theorem dX11_takeBack_11 : decode cX11_takeBack 11 = .ok (.aload_n 0, 1) := by decide +kernel
theorem dX11_takeBack_12 : decode cX11_takeBack 12 = .ok (.aload_n 0, 1) := by decide +kernel
theorem dX11_takeBack_13 : decode cX11_takeBack 13 = .ok (.getfield 10, 3) := by decide +kernel
theorem dX11_takeBack_16 : decode cX11_takeBack 16 = .ok (.iload_n 1, 1) := by decide +kernel
theorem dX11_takeBack_17 : decode cX11_takeBack 17 = .ok (.invokevirtual 87, 3) := by decide +kernel
theorem dX11_takeBack_20 : decode cX11_takeBack 20 = .ok (.iload_n 1, 1) := by decide +kernel
theorem dX11_takeBack_21 : decode cX11_takeBack 21 = .ok (.invokevirtual 72, 3) := by decide +kernel
theorem dX11_takeBack_24 : decode cX11_takeBack 24 = .ok (.ireturn, 1) := by decide +kernel
theorem dX11_openVault_0 : decode cX11_openVault 0 = .ok (.aload_n 0, 1) := by decide +kernel
theorem dX11_openVault_1 : decode cX11_openVault 1 = .ok (.getfield 19, 3) := by decide +kernel
theorem dX11_openVault_4 : decode cX11_openVault 4 = .ok (.aload_n 0, 1) := by decide +kernel
theorem dX11_openVault_5 : decode cX11_openVault 5 = .ok (.getfield 10, 3) := by decide +kernel
theorem dX11_openVault_8 : decode cX11_openVault 8 = .ok (.invokevirtual 64, 3) := by decide +kernel
theorem dX11_openVault_11 : decode cX11_openVault 11 = .ok (.aload_n 0, 1) := by decide +kernel
theorem dX11_openVault_12 : decode cX11_openVault 12 = .ok (.aload_n 0, 1) := by decide +kernel
theorem dX11_openVault_13 : decode cX11_openVault 13 = .ok (.getfield 10, 3) := by decide +kernel
theorem dX11_openVault_16 : decode cX11_openVault 16 = .ok (.invokevirtual 90, 3) := by decide +kernel
theorem dX11_openVault_19 : decode cX11_openVault 19 = .ok (.iconst 0, 1) := by decide +kernel
theorem dX11_openVault_20 : decode cX11_openVault 20 = .ok (.invokevirtual 72, 3) := by decide +kernel
theorem dX11_openVault_23 : decode cX11_openVault 23 = .ok (.iconst 1, 1) := by decide +kernel
theorem dX11_openVault_24 : decode cX11_openVault 24 = .ok (.if_icmp .ne 7, 3) := by decide +kernel
theorem dX11_openVault_27 : decode cX11_openVault 27 = .ok (.iconst 1, 1) := by decide +kernel
theorem dX11_openVault_28 : decode cX11_openVault 28 = .ok (.goto 4, 3) := by decide +kernel
theorem dX11_openVault_31 : decode cX11_openVault 31 = .ok (.iconst 0, 1) := by decide +kernel
theorem dX11_openVault_32 : decode cX11_openVault 32 = .ok (.ireturn, 1) := by decide +kernel
theorem dX11_closeVault_0 : decode cX11_closeVault 0 = .ok (.aload_n 0, 1) := by decide +kernel
theorem dX11_closeVault_1 : decode cX11_closeVault 1 = .ok (.getfield 19, 3) := by decide +kernel
theorem dX11_closeVault_4 : decode cX11_closeVault 4 = .ok (.aload_n 0, 1) := by decide +kernel
theorem dX11_closeVault_5 : decode cX11_closeVault 5 = .ok (.getfield 10, 3) := by decide +kernel
theorem dX11_closeVault_8 : decode cX11_closeVault 8 = .ok (.invokevirtual 64, 3) := by decide +kernel
theorem dX11_closeVault_11 : decode cX11_closeVault 11 = .ok (.aload_n 0, 1) := by decide +kernel
theorem dX11_closeVault_12 : decode cX11_closeVault 12 = .ok (.aload_n 0, 1) := by decide +kernel
theorem dX11_closeVault_13 : decode cX11_closeVault 13 = .ok (.getfield 10, 3) := by decide +kernel
theorem dX11_closeVault_16 : decode cX11_closeVault 16 = .ok (.invokevirtual 93, 3) := by decide +kernel
theorem dX11_closeVault_19 : decode cX11_closeVault 19 = .ok (.iconst 0, 1) := by decide +kernel
theorem dX11_closeVault_20 : decode cX11_closeVault 20 = .ok (.invokevirtual 72, 3) := by decide +kernel
theorem dX11_closeVault_23 : decode cX11_closeVault 23 = .ok (.ireturn, 1) := by decide +kernel
theorem dX11_addGuard_0 : decode cX11_addGuard 0 = .ok (.aload_n 0, 1) := by decide +kernel
theorem dX11_addGuard_1 : decode cX11_addGuard 1 = .ok (.getfield 19, 3) := by decide +kernel
theorem dX11_addGuard_4 : decode cX11_addGuard 4 = .ok (.aload_n 0, 1) := by decide +kernel
theorem dX11_addGuard_5 : decode cX11_addGuard 5 = .ok (.getfield 10, 3) := by decide +kernel
theorem dX11_addGuard_8 : decode cX11_addGuard 8 = .ok (.invokevirtual 64, 3) := by decide +kernel
theorem dX11_addGuard_11 : decode cX11_addGuard 11 = .ok (.aload_n 0, 1) := by decide +kernel
theorem dX11_addGuard_12 : decode cX11_addGuard 12 = .ok (.aload_n 0, 1) := by decide +kernel
theorem dX11_addGuard_13 : decode cX11_addGuard 13 = .ok (.getfield 10, 3) := by decide +kernel
theorem dX11_addGuard_16 : decode cX11_addGuard 16 = .ok (.iload_n 1, 1) := by decide +kernel
theorem dX11_addGuard_17 : decode cX11_addGuard 17 = .ok (.iload_n 2, 1) := by decide +kernel
theorem dX11_addGuard_18 : decode cX11_addGuard 18 = .ok (.iload_n 3, 1) := by decide +kernel
theorem dX11_addGuard_19 : decode cX11_addGuard 19 = .ok (.invokevirtual 96, 3) := by decide +kernel
theorem dX11_addGuard_22 : decode cX11_addGuard 22 = .ok (.iconst 3, 1) := by decide +kernel
theorem dX11_addGuard_23 : decode cX11_addGuard 23 = .ok (.invokevirtual 72, 3) := by decide +kernel
theorem dX11_addGuard_26 : decode cX11_addGuard 26 = .ok (.ireturn, 1) := by decide +kernel
theorem dX11_turnGuard_0 : decode cX11_turnGuard 0 = .ok (.aload_n 0, 1) := by decide +kernel
theorem dX11_turnGuard_1 : decode cX11_turnGuard 1 = .ok (.getfield 19, 3) := by decide +kernel
theorem dX11_turnGuard_4 : decode cX11_turnGuard 4 = .ok (.aload_n 0, 1) := by decide +kernel
theorem dX11_turnGuard_5 : decode cX11_turnGuard 5 = .ok (.getfield 10, 3) := by decide +kernel
theorem dX11_turnGuard_8 : decode cX11_turnGuard 8 = .ok (.invokevirtual 64, 3) := by decide +kernel
theorem dX11_turnGuard_11 : decode cX11_turnGuard 11 = .ok (.aload_n 0, 1) := by decide +kernel
theorem dX11_turnGuard_12 : decode cX11_turnGuard 12 = .ok (.aload_n 0, 1) := by decide +kernel
theorem dX11_turnGuard_13 : decode cX11_turnGuard 13 = .ok (.getfield 10, 3) := by decide +kernel
theorem dX11_turnGuard_16 : decode cX11_turnGuard 16 = .ok (.iload_n 1, 1) := by decide +kernel
theorem dX11_turnGuard_17 : decode cX11_turnGuard 17 = .ok (.invokevirtual 100, 3) := by decide +kernel
theorem dX11_turnGuard_20 : decode cX11_turnGuard 20 = .ok (.iconst 0, 1) := by decide +kernel
theorem dX11_turnGuard_21 : decode cX11_turnGuard 21 = .ok (.invokevirtual 72, 3) := by decide +kernel
theorem dX11_turnGuard_24 : decode cX11_turnGuard 24 = .ok (.iconst 1, 1) := by decide +kernel
theorem dX11_turnGuard_25 : decode cX11_turnGuard 25 = .ok (.if_icmp .ne 7, 3) := by decide +kernel
theorem dX11_turnGuard_28 : decode cX11_turnGuard 28 = .ok (.iconst 1, 1) := by decide +kernel
theorem dX11_turnGuard_29 : decode cX11_turnGuard 29 = .ok (.goto 4, 3) := by decide +kernel
theorem dX11_turnGuard_32 : decode cX11_turnGuard 32 = .ok (.iconst 0, 1) := by decide +kernel
theorem dX11_turnGuard_33 : decode cX11_turnGuard 33 = .ok (.ireturn, 1) := by decide +kernel
theorem dX11_hum_0 : decode cX11_hum 0 = .ok (.aload_n 0, 1) := by decide +kernel
theorem dX11_hum_1 : decode cX11_hum 1 = .ok (.getfield 19, 3) := by decide +kernel
theorem dX11_hum_4 : decode cX11_hum 4 = .ok (.aload_n 0, 1) := by decide +kernel
theorem dX11_hum_5 : decode cX11_hum 5 = .ok (.getfield 10, 3) := by decide +kernel
theorem dX11_hum_8 : decode cX11_hum 8 = .ok (.invokevirtual 64, 3) := by decide +kernel
theorem dX11_hum_11 : decode cX11_hum 11 = .ok (.aload_n 0, 1) := by decide +kernel
theorem dX11_hum_12 : decode cX11_hum 12 = .ok (.aload_n 0, 1) := by decide +kernel
theorem dX11_hum_13 : decode cX11_hum 13 = .ok (.getfield 10, 3) := by decide +kernel
theorem dX11_hum_16 : decode cX11_hum 16 = .ok (.iload_n 1, 1) := by decide +kernel
theorem dX11_hum_17 : decode cX11_hum 17 = .ok (.iload_n 2, 1) := by decide +kernel
theorem dX11_hum_18 : decode cX11_hum 18 = .ok (.invokevirtual 103, 3) := by decide +kernel
theorem dX11_hum_21 : decode cX11_hum 21 = .ok (.iconst 0, 1) := by decide +kernel
theorem dX11_hum_22 : decode cX11_hum 22 = .ok (.invokevirtual 72, 3) := by decide +kernel
theorem dX11_hum_25 : decode cX11_hum 25 = .ok (.ireturn, 1) := by decide +kernel
theorem dX11_passHours_0 : decode cX11_passHours 0 = .ok (.aload_n 0, 1) := by decide +kernel
theorem dX11_passHours_1 : decode cX11_passHours 1 = .ok (.getfield 19, 3) := by decide +kernel
theorem dX11_passHours_4 : decode cX11_passHours 4 = .ok (.aload_n 0, 1) := by decide +kernel
theorem dX11_passHours_5 : decode cX11_passHours 5 = .ok (.getfield 10, 3) := by decide +kernel
theorem dX11_passHours_8 : decode cX11_passHours 8 = .ok (.invokevirtual 64, 3) := by decide +kernel
theorem dX11_passHours_11 : decode cX11_passHours 11 = .ok (.aload_n 0, 1) := by decide +kernel
theorem dX11_passHours_12 : decode cX11_passHours 12 = .ok (.aload_n 0, 1) := by decide +kernel
theorem dX11_passHours_13 : decode cX11_passHours 13 = .ok (.getfield 10, 3) := by decide +kernel
theorem dX11_passHours_16 : decode cX11_passHours 16 = .ok (.iload_n 1, 1) := by decide +kernel
theorem dX11_passHours_17 : decode cX11_passHours 17 = .ok (.invokevirtual 106, 3) := by decide +kernel
theorem dX11_passHours_20 : decode cX11_passHours 20 = .ok (.iconst 0, 1) := by decide +kernel
theorem dX11_passHours_21 : decode cX11_passHours 21 = .ok (.invokevirtual 72, 3) := by decide +kernel
theorem dX11_passHours_24 : decode cX11_passHours 24 = .ok (.ireturn, 1) := by decide +kernel
theorem dX11_hour_0 : decode cX11_hour 0 = .ok (.aload_n 0, 1) := by decide +kernel
theorem dX11_hour_1 : decode cX11_hour 1 = .ok (.getfield 10, 3) := by decide +kernel
theorem dX11_hour_4 : decode cX11_hour 4 = .ok (.getfield 109, 3) := by decide +kernel
theorem dX11_hour_7 : decode cX11_hour 7 = .ok (.getfield 112, 3) := by decide +kernel
theorem dX11_hour_10 : decode cX11_hour 10 = .ok (.ireturn, 1) := by decide +kernel
theorem dX11_holderCount_0 : decode cX11_holderCount 0 = .ok (.aload_n 0, 1) := by decide +kernel
theorem dX11_holderCount_1 : decode cX11_holderCount 1 = .ok (.getfield 10, 3) := by decide +kernel
theorem dX11_holderCount_4 : decode cX11_holderCount 4 = .ok (.getfield 115, 3) := by decide +kernel
theorem dX11_holderCount_7 : decode cX11_holderCount 7 = .ok (.getfield 119, 3) := by decide +kernel
theorem dX11_holderCount_10 : decode cX11_holderCount 10 = .ok (.ireturn, 1) := by decide +kernel
theorem dX11_isSealed_0 : decode cX11_isSealed 0 = .ok (.aload_n 0, 1) := by decide +kernel
theorem dX11_isSealed_1 : decode cX11_isSealed 1 = .ok (.getfield 10, 3) := by decide +kernel
theorem dX11_isSealed_4 : decode cX11_isSealed 4 = .ok (.getfield 115, 3) := by decide +kernel
theorem dX11_isSealed_7 : decode cX11_isSealed 7 = .ok (.getfield 124, 3) := by decide +kernel
theorem dX11_isSealed_10 : decode cX11_isSealed 10 = .ok (.ireturn, 1) := by decide +kernel
theorem dX11_threshold_0 : decode cX11_threshold 0 = .ok (.aload_n 0, 1) := by decide +kernel
theorem dX11_threshold_1 : decode cX11_threshold 1 = .ok (.invokevirtual 128, 3) := by decide +kernel
theorem dX11_threshold_4 : decode cX11_threshold 4 = .ok (.aload_n 0, 1) := by decide +kernel
theorem dX11_threshold_5 : decode cX11_threshold 5 = .ok (.getfield 10, 3) := by decide +kernel
theorem dX11_threshold_8 : decode cX11_threshold 8 = .ok (.getfield 115, 3) := by decide +kernel
theorem dX11_threshold_11 : decode cX11_threshold 11 = .ok (.getfield 131, 3) := by decide +kernel
theorem dX11_threshold_14 : decode cX11_threshold 14 = .ok (.ireturn, 1) := by decide +kernel
theorem dX11_share_0 : decode cX11_share 0 = .ok (.aload_n 0, 1) := by decide +kernel
theorem dX11_share_1 : decode cX11_share 1 = .ok (.iload_n 1, 1) := by decide +kernel
theorem dX11_share_2 : decode cX11_share 2 = .ok (.invokevirtual 134, 3) := by decide +kernel
theorem dX11_share_5 : decode cX11_share 5 = .ok (.aload_n 0, 1) := by decide +kernel
theorem dX11_share_6 : decode cX11_share 6 = .ok (.invokevirtual 128, 3) := by decide +kernel
theorem dX11_share_9 : decode cX11_share 9 = .ok (.aload_n 0, 1) := by decide +kernel
theorem dX11_share_10 : decode cX11_share 10 = .ok (.getfield 10, 3) := by decide +kernel
theorem dX11_share_13 : decode cX11_share 13 = .ok (.getfield 115, 3) := by decide +kernel
theorem dX11_share_16 : decode cX11_share 16 = .ok (.getfield 138, 3) := by decide +kernel
theorem dX11_share_19 : decode cX11_share 19 = .ok (.iload_n 1, 1) := by decide +kernel
theorem dX11_share_20 : decode cX11_share 20 = .ok (.iaload, 1) := by decide +kernel
theorem dX11_share_21 : decode cX11_share 21 = .ok (.ireturn, 1) := by decide +kernel
theorem dX11_isCorrect_0 : decode cX11_isCorrect 0 = .ok (.aload_n 0, 1) := by decide +kernel
theorem dX11_isCorrect_1 : decode cX11_isCorrect 1 = .ok (.iload_n 1, 1) := by decide +kernel
theorem dX11_isCorrect_2 : decode cX11_isCorrect 2 = .ok (.invokevirtual 134, 3) := by decide +kernel
theorem dX11_isCorrect_5 : decode cX11_isCorrect 5 = .ok (.aload_n 0, 1) := by decide +kernel
theorem dX11_isCorrect_6 : decode cX11_isCorrect 6 = .ok (.invokevirtual 128, 3) := by decide +kernel
theorem dX11_isCorrect_9 : decode cX11_isCorrect 9 = .ok (.aload_n 0, 1) := by decide +kernel
theorem dX11_isCorrect_10 : decode cX11_isCorrect 10 = .ok (.getfield 10, 3) := by decide +kernel
theorem dX11_isCorrect_13 : decode cX11_isCorrect 13 = .ok (.getfield 115, 3) := by decide +kernel
theorem dX11_isCorrect_16 : decode cX11_isCorrect 16 = .ok (.getfield 138, 3) := by decide +kernel
theorem dX11_isCorrect_19 : decode cX11_isCorrect 19 = .ok (.iload_n 1, 1) := by decide +kernel
theorem dX11_isCorrect_20 : decode cX11_isCorrect 20 = .ok (.iaload, 1) := by decide +kernel
theorem dX11_isCorrect_21 : decode cX11_isCorrect 21 = .ok (.aload_n 0, 1) := by decide +kernel
theorem dX11_isCorrect_22 : decode cX11_isCorrect 22 = .ok (.getfield 10, 3) := by decide +kernel
theorem dX11_isCorrect_25 : decode cX11_isCorrect 25 = .ok (.getfield 115, 3) := by decide +kernel
theorem dX11_isCorrect_28 : decode cX11_isCorrect 28 = .ok (.iload_n 1, 1) := by decide +kernel
theorem dX11_isCorrect_29 : decode cX11_isCorrect 29 = .ok (.invokevirtual 142, 3) := by decide +kernel
theorem dX11_isCorrect_32 : decode cX11_isCorrect 32 = .ok (.if_icmp .ne 7, 3) := by decide +kernel
theorem dX11_isCorrect_35 : decode cX11_isCorrect 35 = .ok (.iconst 1, 1) := by decide +kernel
theorem dX11_isCorrect_36 : decode cX11_isCorrect 36 = .ok (.goto 4, 3) := by decide +kernel
theorem dX11_isCorrect_39 : decode cX11_isCorrect 39 = .ok (.iconst 0, 1) := by decide +kernel
theorem dX11_isCorrect_40 : decode cX11_isCorrect 40 = .ok (.ireturn, 1) := by decide +kernel
theorem dX11_isPresented_0 : decode cX11_isPresented 0 = .ok (.aload_n 0, 1) := by decide +kernel
theorem dX11_isPresented_1 : decode cX11_isPresented 1 = .ok (.iload_n 1, 1) := by decide +kernel
theorem dX11_isPresented_2 : decode cX11_isPresented 2 = .ok (.invokevirtual 134, 3) := by decide +kernel
theorem dX11_isPresented_5 : decode cX11_isPresented 5 = .ok (.aload_n 0, 1) := by decide +kernel
theorem dX11_isPresented_6 : decode cX11_isPresented 6 = .ok (.getfield 10, 3) := by decide +kernel
theorem dX11_isPresented_9 : decode cX11_isPresented 9 = .ok (.getfield 115, 3) := by decide +kernel
theorem dX11_isPresented_12 : decode cX11_isPresented 12 = .ok (.iload_n 1, 1) := by decide +kernel
theorem dX11_isPresented_13 : decode cX11_isPresented 13 = .ok (.invokevirtual 145, 3) := by decide +kernel
theorem dX11_isPresented_16 : decode cX11_isPresented 16 = .ok (.iconst (-1), 1) := by decide +kernel
theorem dX11_isPresented_17 : decode cX11_isPresented 17 = .ok (.if_icmp .eq 7, 3) := by decide +kernel
theorem dX11_isPresented_20 : decode cX11_isPresented 20 = .ok (.iconst 1, 1) := by decide +kernel
theorem dX11_isPresented_21 : decode cX11_isPresented 21 = .ok (.goto 4, 3) := by decide +kernel
theorem dX11_isPresented_24 : decode cX11_isPresented 24 = .ok (.iconst 0, 1) := by decide +kernel
theorem dX11_isPresented_25 : decode cX11_isPresented 25 = .ok (.ireturn, 1) := by decide +kernel
theorem dX11_presentedCount_0 : decode cX11_presentedCount 0 = .ok (.aload_n 0, 1) := by decide +kernel
theorem dX11_presentedCount_1 : decode cX11_presentedCount 1 = .ok (.getfield 10, 3) := by decide +kernel
theorem dX11_presentedCount_4 : decode cX11_presentedCount 4 = .ok (.getfield 115, 3) := by decide +kernel
theorem dX11_presentedCount_7 : decode cX11_presentedCount 7 = .ok (.getfield 148, 3) := by decide +kernel
theorem dX11_presentedCount_10 : decode cX11_presentedCount 10 = .ok (.ireturn, 1) := by decide +kernel
theorem dX11_presentedAt_0 : decode cX11_presentedAt 0 = .ok (.iload_n 1, 1) := by decide +kernel
theorem dX11_presentedAt_1 : decode cX11_presentedAt 1 = .ok (.ifCond .lt 17, 3) := by decide +kernel
theorem dX11_presentedAt_4 : decode cX11_presentedAt 4 = .ok (.iload_n 1, 1) := by decide +kernel
theorem dX11_presentedAt_5 : decode cX11_presentedAt 5 = .ok (.aload_n 0, 1) := by decide +kernel
theorem dX11_presentedAt_6 : decode cX11_presentedAt 6 = .ok (.getfield 10, 3) := by decide +kernel
theorem dX11_presentedAt_9 : decode cX11_presentedAt 9 = .ok (.getfield 115, 3) := by decide +kernel
theorem dX11_presentedAt_12 : decode cX11_presentedAt 12 = .ok (.getfield 148, 3) := by decide +kernel
theorem dX11_presentedAt_15 : decode cX11_presentedAt 15 = .ok (.if_icmp .lt 13, 3) := by decide +kernel
theorem dX11_presentedAt_18 : decode cX11_presentedAt 18 = .ok (.new 151, 3) := by decide +kernel
theorem dX11_presentedAt_21 : decode cX11_presentedAt 21 = .ok (.dup, 1) := by decide +kernel
theorem dX11_presentedAt_22 : decode cX11_presentedAt 22 = .ok (.ldc 153, 2) := by decide +kernel
theorem dX11_presentedAt_24 : decode cX11_presentedAt 24 = .ok (.invokespecial 155, 3) := by decide +kernel
theorem dX11_presentedAt_27 : decode cX11_presentedAt 27 = .ok (.athrow, 1) := by decide +kernel
theorem dX11_presentedAt_28 : decode cX11_presentedAt 28 = .ok (.aload_n 0, 1) := by decide +kernel
theorem dX11_presentedAt_29 : decode cX11_presentedAt 29 = .ok (.getfield 10, 3) := by decide +kernel
theorem dX11_presentedAt_32 : decode cX11_presentedAt 32 = .ok (.getfield 115, 3) := by decide +kernel
theorem dX11_presentedAt_35 : decode cX11_presentedAt 35 = .ok (.getfield 158, 3) := by decide +kernel
theorem dX11_presentedAt_38 : decode cX11_presentedAt 38 = .ok (.iload_n 1, 1) := by decide +kernel
theorem dX11_presentedAt_39 : decode cX11_presentedAt 39 = .ok (.iaload, 1) := by decide +kernel
theorem dX11_presentedAt_40 : decode cX11_presentedAt 40 = .ok (.ireturn, 1) := by decide +kernel
theorem dX11_toldSecret_0 : decode cX11_toldSecret 0 = .ok (.aload_n 0, 1) := by decide +kernel
theorem dX11_toldSecret_1 : decode cX11_toldSecret 1 = .ok (.invokevirtual 161, 3) := by decide +kernel
theorem dX11_toldSecret_4 : decode cX11_toldSecret 4 = .ok (.aload_n 0, 1) := by decide +kernel
theorem dX11_toldSecret_5 : decode cX11_toldSecret 5 = .ok (.getfield 10, 3) := by decide +kernel
theorem dX11_toldSecret_8 : decode cX11_toldSecret 8 = .ok (.getfield 115, 3) := by decide +kernel
theorem dX11_toldSecret_11 : decode cX11_toldSecret 11 = .ok (.iconst 0, 1) := by decide +kernel
theorem dX11_toldSecret_12 : decode cX11_toldSecret 12 = .ok (.invokevirtual 164, 3) := by decide +kernel
theorem dX11_toldSecret_15 : decode cX11_toldSecret 15 = .ok (.ireturn, 1) := by decide +kernel
theorem dX11_toldSecretByElimination_0 : decode cX11_toldSecretByElimination 0 = .ok (.aload_n 0, 1) := by decide +kernel
theorem dX11_toldSecretByElimination_1 : decode cX11_toldSecretByElimination 1 = .ok (.invokevirtual 161, 3) := by decide +kernel
theorem dX11_toldSecretByElimination_4 : decode cX11_toldSecretByElimination 4 = .ok (.aload_n 0, 1) := by decide +kernel
theorem dX11_toldSecretByElimination_5 : decode cX11_toldSecretByElimination 5 = .ok (.getfield 36, 3) := by decide +kernel
theorem dX11_toldSecretByElimination_8 : decode cX11_toldSecretByElimination 8 = .ok (.aload_n 0, 1) := by decide +kernel
theorem dX11_toldSecretByElimination_9 : decode cX11_toldSecretByElimination 9 = .ok (.getfield 10, 3) := by decide +kernel
theorem dX11_toldSecretByElimination_12 : decode cX11_toldSecretByElimination 12 = .ok (.getfield 115, 3) := by decide +kernel
theorem dX11_toldSecretByElimination_15 : decode cX11_toldSecretByElimination 15 = .ok (.invokevirtual 167, 3) := by decide +kernel
theorem dX11_toldSecretByElimination_18 : decode cX11_toldSecretByElimination 18 = .ok (.ireturn, 1) := by decide +kernel
theorem dX11_toldValue_0 : decode cX11_toldValue 0 = .ok (.iload_n 1, 1) := by decide +kernel
theorem dX11_toldValue_1 : decode cX11_toldValue 1 = .ok (.ifCond .lt 9, 3) := by decide +kernel
theorem dX11_toldValue_4 : decode cX11_toldValue 4 = .ok (.iload_n 1, 1) := by decide +kernel
theorem dX11_toldValue_5 : decode cX11_toldValue 5 = .ok (.bipush 97, 2) := by decide +kernel
theorem dX11_toldValue_7 : decode cX11_toldValue 7 = .ok (.if_icmp .lt 13, 3) := by decide +kernel
theorem dX11_toldValue_10 : decode cX11_toldValue 10 = .ok (.new 171, 3) := by decide +kernel
theorem dX11_toldValue_13 : decode cX11_toldValue 13 = .ok (.dup, 1) := by decide +kernel
theorem dX11_toldValue_14 : decode cX11_toldValue 14 = .ok (.ldc 173, 2) := by decide +kernel
theorem dX11_toldValue_16 : decode cX11_toldValue 16 = .ok (.invokespecial 175, 3) := by decide +kernel
theorem dX11_toldValue_19 : decode cX11_toldValue 19 = .ok (.athrow, 1) := by decide +kernel
theorem dX11_toldValue_20 : decode cX11_toldValue 20 = .ok (.aload_n 0, 1) := by decide +kernel
theorem dX11_toldValue_21 : decode cX11_toldValue 21 = .ok (.invokevirtual 161, 3) := by decide +kernel
theorem dX11_toldValue_24 : decode cX11_toldValue 24 = .ok (.aload_n 0, 1) := by decide +kernel
theorem dX11_toldValue_25 : decode cX11_toldValue 25 = .ok (.getfield 10, 3) := by decide +kernel
theorem dX11_toldValue_28 : decode cX11_toldValue 28 = .ok (.getfield 115, 3) := by decide +kernel
theorem dX11_toldValue_31 : decode cX11_toldValue 31 = .ok (.iload_n 1, 1) := by decide +kernel
theorem dX11_toldValue_32 : decode cX11_toldValue 32 = .ok (.invokevirtual 164, 3) := by decide +kernel
theorem dX11_toldValue_35 : decode cX11_toldValue 35 = .ok (.ireturn, 1) := by decide +kernel
theorem dX11_doAgree_0 : decode cX11_doAgree 0 = .ok (.aload_n 0, 1) := by decide +kernel
theorem dX11_doAgree_1 : decode cX11_doAgree 1 = .ok (.invokevirtual 161, 3) := by decide +kernel
theorem dX11_doAgree_4 : decode cX11_doAgree 4 = .ok (.aload_n 0, 1) := by decide +kernel
theorem dX11_doAgree_5 : decode cX11_doAgree 5 = .ok (.getfield 10, 3) := by decide +kernel
theorem dX11_doAgree_8 : decode cX11_doAgree 8 = .ok (.getfield 115, 3) := by decide +kernel
theorem dX11_doAgree_11 : decode cX11_doAgree 11 = .ok (.invokevirtual 176, 3) := by decide +kernel
theorem dX11_doAgree_14 : decode cX11_doAgree 14 = .ok (.ireturn, 1) := by decide +kernel
theorem dX11_mostAgreeing_0 : decode cX11_mostAgreeing 0 = .ok (.aload_n 0, 1) := by decide +kernel
theorem dX11_mostAgreeing_1 : decode cX11_mostAgreeing 1 = .ok (.invokevirtual 161, 3) := by decide +kernel
theorem dX11_mostAgreeing_4 : decode cX11_mostAgreeing 4 = .ok (.aload_n 0, 1) := by decide +kernel
theorem dX11_mostAgreeing_5 : decode cX11_mostAgreeing 5 = .ok (.getfield 36, 3) := by decide +kernel
theorem dX11_mostAgreeing_8 : decode cX11_mostAgreeing 8 = .ok (.aload_n 0, 1) := by decide +kernel
theorem dX11_mostAgreeing_9 : decode cX11_mostAgreeing 9 = .ok (.getfield 10, 3) := by decide +kernel
theorem dX11_mostAgreeing_12 : decode cX11_mostAgreeing 12 = .ok (.getfield 115, 3) := by decide +kernel
theorem dX11_mostAgreeing_15 : decode cX11_mostAgreeing 15 = .ok (.invokevirtual 180, 3) := by decide +kernel
theorem dX11_mostAgreeing_18 : decode cX11_mostAgreeing 18 = .ok (.ireturn, 1) := by decide +kernel
theorem dX11_mostAgreeingBySets_0 : decode cX11_mostAgreeingBySets 0 = .ok (.aload_n 0, 1) := by decide +kernel
theorem dX11_mostAgreeingBySets_1 : decode cX11_mostAgreeingBySets 1 = .ok (.invokevirtual 161, 3) := by decide +kernel
theorem dX11_mostAgreeingBySets_4 : decode cX11_mostAgreeingBySets 4 = .ok (.aload_n 0, 1) := by decide +kernel
theorem dX11_mostAgreeingBySets_5 : decode cX11_mostAgreeingBySets 5 = .ok (.getfield 36, 3) := by decide +kernel
theorem dX11_mostAgreeingBySets_8 : decode cX11_mostAgreeingBySets 8 = .ok (.aload_n 0, 1) := by decide +kernel
theorem dX11_mostAgreeingBySets_9 : decode cX11_mostAgreeingBySets 9 = .ok (.getfield 10, 3) := by decide +kernel
theorem dX11_mostAgreeingBySets_12 : decode cX11_mostAgreeingBySets 12 = .ok (.getfield 115, 3) := by decide +kernel
theorem dX11_mostAgreeingBySets_15 : decode cX11_mostAgreeingBySets 15 = .ok (.invokevirtual 183, 3) := by decide +kernel
theorem dX11_mostAgreeingBySets_18 : decode cX11_mostAgreeingBySets 18 = .ok (.ireturn, 1) := by decide +kernel
theorem dX11_isOpen_0 : decode cX11_isOpen 0 = .ok (.aload_n 0, 1) := by decide +kernel
theorem dX11_isOpen_1 : decode cX11_isOpen 1 = .ok (.getfield 10, 3) := by decide +kernel
theorem dX11_isOpen_4 : decode cX11_isOpen 4 = .ok (.getfield 186, 3) := by decide +kernel
theorem dX11_isOpen_7 : decode cX11_isOpen 7 = .ok (.getfield 190, 3) := by decide +kernel
theorem dX11_isOpen_10 : decode cX11_isOpen 10 = .ok (.ireturn, 1) := by decide +kernel
theorem dX11_lockedHours_0 : decode cX11_lockedHours 0 = .ok (.aload_n 0, 1) := by decide +kernel
theorem dX11_lockedHours_1 : decode cX11_lockedHours 1 = .ok (.getfield 10, 3) := by decide +kernel
theorem dX11_lockedHours_4 : decode cX11_lockedHours 4 = .ok (.getfield 186, 3) := by decide +kernel
theorem dX11_lockedHours_7 : decode cX11_lockedHours 7 = .ok (.getfield 195, 3) := by decide +kernel
theorem dX11_lockedHours_10 : decode cX11_lockedHours 10 = .ok (.ireturn, 1) := by decide +kernel
theorem dX11_failedAttempts_0 : decode cX11_failedAttempts 0 = .ok (.aload_n 0, 1) := by decide +kernel
theorem dX11_failedAttempts_1 : decode cX11_failedAttempts 1 = .ok (.getfield 10, 3) := by decide +kernel
theorem dX11_failedAttempts_4 : decode cX11_failedAttempts 4 = .ok (.getfield 186, 3) := by decide +kernel
theorem dX11_failedAttempts_7 : decode cX11_failedAttempts 7 = .ok (.getfield 198, 3) := by decide +kernel
theorem dX11_failedAttempts_10 : decode cX11_failedAttempts 10 = .ok (.ireturn, 1) := by decide +kernel
theorem dX11_guardCount_0 : decode cX11_guardCount 0 = .ok (.aload_n 0, 1) := by decide +kernel
theorem dX11_guardCount_1 : decode cX11_guardCount 1 = .ok (.getfield 10, 3) := by decide +kernel
theorem dX11_guardCount_4 : decode cX11_guardCount 4 = .ok (.getfield 109, 3) := by decide +kernel
theorem dX11_guardCount_7 : decode cX11_guardCount 7 = .ok (.getfield 201, 3) := by decide +kernel
theorem dX11_guardCount_10 : decode cX11_guardCount 10 = .ok (.ireturn, 1) := by decide +kernel
theorem dX11_zoneOf_0 : decode cX11_zoneOf 0 = .ok (.aload_n 0, 1) := by decide +kernel
theorem dX11_zoneOf_1 : decode cX11_zoneOf 1 = .ok (.iload_n 1, 1) := by decide +kernel
theorem dX11_zoneOf_2 : decode cX11_zoneOf 2 = .ok (.invokevirtual 204, 3) := by decide +kernel
theorem dX11_zoneOf_5 : decode cX11_zoneOf 5 = .ok (.aload_n 0, 1) := by decide +kernel
theorem dX11_zoneOf_6 : decode cX11_zoneOf 6 = .ok (.getfield 10, 3) := by decide +kernel
theorem dX11_zoneOf_9 : decode cX11_zoneOf 9 = .ok (.getfield 109, 3) := by decide +kernel
theorem dX11_zoneOf_12 : decode cX11_zoneOf 12 = .ok (.getfield 207, 3) := by decide +kernel
theorem dX11_zoneOf_15 : decode cX11_zoneOf 15 = .ok (.iload_n 1, 1) := by decide +kernel
theorem dX11_zoneOf_16 : decode cX11_zoneOf 16 = .ok (.iaload, 1) := by decide +kernel
theorem dX11_zoneOf_17 : decode cX11_zoneOf 17 = .ok (.ireturn, 1) := by decide +kernel
theorem dX11_isForwards_0 : decode cX11_isForwards 0 = .ok (.aload_n 0, 1) := by decide +kernel
theorem dX11_isForwards_1 : decode cX11_isForwards 1 = .ok (.iload_n 1, 1) := by decide +kernel
theorem dX11_isForwards_2 : decode cX11_isForwards 2 = .ok (.invokevirtual 204, 3) := by decide +kernel
theorem dX11_isForwards_5 : decode cX11_isForwards 5 = .ok (.aload_n 0, 1) := by decide +kernel
theorem dX11_isForwards_6 : decode cX11_isForwards 6 = .ok (.getfield 10, 3) := by decide +kernel
theorem dX11_isForwards_9 : decode cX11_isForwards 9 = .ok (.getfield 109, 3) := by decide +kernel
theorem dX11_isForwards_12 : decode cX11_isForwards 12 = .ok (.getfield 210, 3) := by decide +kernel
theorem dX11_isForwards_15 : decode cX11_isForwards 15 = .ok (.iload_n 1, 1) := by decide +kernel
theorem dX11_isForwards_16 : decode cX11_isForwards 16 = .ok (.baload, 1) := by decide +kernel
theorem dX11_isForwards_17 : decode cX11_isForwards 17 = .ok (.ireturn, 1) := by decide +kernel
theorem dX11_noise_0 : decode cX11_noise 0 = .ok (.aload_n 0, 1) := by decide +kernel
theorem dX11_noise_1 : decode cX11_noise 1 = .ok (.iload_n 1, 1) := by decide +kernel
theorem dX11_noise_2 : decode cX11_noise 2 = .ok (.invokevirtual 214, 3) := by decide +kernel
theorem dX11_noise_5 : decode cX11_noise 5 = .ok (.aload_n 0, 1) := by decide +kernel
theorem dX11_noise_6 : decode cX11_noise 6 = .ok (.getfield 10, 3) := by decide +kernel
theorem dX11_noise_9 : decode cX11_noise 9 = .ok (.getfield 109, 3) := by decide +kernel
theorem dX11_noise_12 : decode cX11_noise 12 = .ok (.getfield 217, 3) := by decide +kernel
theorem dX11_noise_15 : decode cX11_noise 15 = .ok (.iload_n 1, 1) := by decide +kernel
theorem dX11_noise_16 : decode cX11_noise 16 = .ok (.iaload, 1) := by decide +kernel
theorem dX11_noise_17 : decode cX11_noise 17 = .ok (.ireturn, 1) := by decide +kernel
theorem dX11_isGuarded_0 : decode cX11_isGuarded 0 = .ok (.aload_n 0, 1) := by decide +kernel
theorem dX11_isGuarded_1 : decode cX11_isGuarded 1 = .ok (.iload_n 1, 1) := by decide +kernel
theorem dX11_isGuarded_2 : decode cX11_isGuarded 2 = .ok (.invokevirtual 214, 3) := by decide +kernel
theorem dX11_isGuarded_5 : decode cX11_isGuarded 5 = .ok (.aload_n 0, 1) := by decide +kernel
theorem dX11_isGuarded_6 : decode cX11_isGuarded 6 = .ok (.getfield 10, 3) := by decide +kernel
theorem dX11_isGuarded_9 : decode cX11_isGuarded 9 = .ok (.getfield 109, 3) := by decide +kernel
theorem dX11_isGuarded_12 : decode cX11_isGuarded 12 = .ok (.iload_n 1, 1) := by decide +kernel
theorem dX11_isGuarded_13 : decode cX11_isGuarded 13 = .ok (.invokevirtual 220, 3) := by decide +kernel
theorem dX11_isGuarded_16 : decode cX11_isGuarded 16 = .ok (.ifCond .ne 17, 3) := by decide +kernel
theorem dX11_isGuarded_19 : decode cX11_isGuarded 19 = .ok (.aload_n 0, 1) := by decide +kernel
theorem dX11_isGuarded_20 : decode cX11_isGuarded 20 = .ok (.getfield 10, 3) := by decide +kernel
theorem dX11_isGuarded_23 : decode cX11_isGuarded 23 = .ok (.getfield 109, 3) := by decide +kernel
theorem dX11_isGuarded_26 : decode cX11_isGuarded 26 = .ok (.iload_n 1, 1) := by decide +kernel
theorem dX11_isGuarded_27 : decode cX11_isGuarded 27 = .ok (.invokevirtual 224, 3) := by decide +kernel
theorem dX11_isGuarded_30 : decode cX11_isGuarded 30 = .ok (.ifCond .eq 7, 3) := by decide +kernel
theorem dX11_isGuarded_33 : decode cX11_isGuarded 33 = .ok (.iconst 1, 1) := by decide +kernel
theorem dX11_isGuarded_34 : decode cX11_isGuarded 34 = .ok (.goto 4, 3) := by decide +kernel
theorem dX11_isGuarded_37 : decode cX11_isGuarded 37 = .ok (.iconst 0, 1) := by decide +kernel
theorem dX11_isGuarded_38 : decode cX11_isGuarded 38 = .ok (.ireturn, 1) := by decide +kernel
theorem dX11_hoursUntilVisit_0 : decode cX11_hoursUntilVisit 0 = .ok (.aload_n 0, 1) := by decide +kernel
theorem dX11_hoursUntilVisit_1 : decode cX11_hoursUntilVisit 1 = .ok (.iload_n 1, 1) := by decide +kernel
theorem dX11_hoursUntilVisit_2 : decode cX11_hoursUntilVisit 2 = .ok (.invokevirtual 214, 3) := by decide +kernel
theorem dX11_hoursUntilVisit_5 : decode cX11_hoursUntilVisit 5 = .ok (.aload_n 0, 1) := by decide +kernel
theorem dX11_hoursUntilVisit_6 : decode cX11_hoursUntilVisit 6 = .ok (.invokevirtual 227, 3) := by decide +kernel
theorem dX11_hoursUntilVisit_9 : decode cX11_hoursUntilVisit 9 = .ok (.aload_n 0, 1) := by decide +kernel
theorem dX11_hoursUntilVisit_10 : decode cX11_hoursUntilVisit 10 = .ok (.iload_n 1, 1) := by decide +kernel
theorem dX11_hoursUntilVisit_11 : decode cX11_hoursUntilVisit 11 = .ok (.invokevirtual 230, 3) := by decide +kernel
theorem dX11_hoursUntilVisit_14 : decode cX11_hoursUntilVisit 14 = .ok (.ireturn, 1) := by decide +kernel
theorem dX11_hoursUntilVisitByRemainders_0 : decode cX11_hoursUntilVisitByRemainders 0 = .ok (.aload_n 0, 1) := by decide +kernel
theorem dX11_hoursUntilVisitByRemainders_1 : decode cX11_hoursUntilVisitByRemainders 1 = .ok (.iload_n 1, 1) := by decide +kernel
theorem dX11_hoursUntilVisitByRemainders_2 : decode cX11_hoursUntilVisitByRemainders 2 = .ok (.invokevirtual 214, 3) := by decide +kernel
theorem dX11_hoursUntilVisitByRemainders_5 : decode cX11_hoursUntilVisitByRemainders 5 = .ok (.aload_n 0, 1) := by decide +kernel
theorem dX11_hoursUntilVisitByRemainders_6 : decode cX11_hoursUntilVisitByRemainders 6 = .ok (.invokevirtual 227, 3) := by decide +kernel
theorem dX11_hoursUntilVisitByRemainders_9 : decode cX11_hoursUntilVisitByRemainders 9 = .ok (.aload_n 0, 1) := by decide +kernel
theorem dX11_hoursUntilVisitByRemainders_10 : decode cX11_hoursUntilVisitByRemainders 10 = .ok (.getfield 10, 3) := by decide +kernel
theorem dX11_hoursUntilVisitByRemainders_13 : decode cX11_hoursUntilVisitByRemainders 13 = .ok (.getfield 109, 3) := by decide +kernel
theorem dX11_hoursUntilVisitByRemainders_16 : decode cX11_hoursUntilVisitByRemainders 16 = .ok (.iload_n 1, 1) := by decide +kernel
theorem dX11_hoursUntilVisitByRemainders_17 : decode cX11_hoursUntilVisitByRemainders 17 = .ok (.invokevirtual 233, 3) := by decide +kernel
theorem dX11_hoursUntilVisitByRemainders_20 : decode cX11_hoursUntilVisitByRemainders 20 = .ok (.ireturn, 1) := by decide +kernel
theorem dX11_alarmsIn_0 : decode cX11_alarmsIn 0 = .ok (.iload_n 1, 1) := by decide +kernel
theorem dX11_alarmsIn_1 : decode cX11_alarmsIn 1 = .ok (.ifCond .lt 9, 3) := by decide +kernel
theorem dX11_alarmsIn_4 : decode cX11_alarmsIn 4 = .ok (.iload_n 1, 1) := by decide +kernel
theorem dX11_alarmsIn_5 : decode cX11_alarmsIn 5 = .ok (.bipush 24, 2) := by decide +kernel
theorem dX11_alarmsIn_7 : decode cX11_alarmsIn 7 = .ok (.if_icmp .le 13, 3) := by decide +kernel
theorem dX11_alarmsIn_10 : decode cX11_alarmsIn 10 = .ok (.new 171, 3) := by decide +kernel
theorem dX11_alarmsIn_13 : decode cX11_alarmsIn 13 = .ok (.dup, 1) := by decide +kernel
theorem dX11_alarmsIn_14 : decode cX11_alarmsIn 14 = .ok (.ldc 236, 2) := by decide +kernel
theorem dX11_alarmsIn_16 : decode cX11_alarmsIn 16 = .ok (.invokespecial 175, 3) := by decide +kernel
theorem dX11_alarmsIn_19 : decode cX11_alarmsIn 19 = .ok (.athrow, 1) := by decide +kernel
theorem dX11_alarmsIn_20 : decode cX11_alarmsIn 20 = .ok (.aload_n 0, 1) := by decide +kernel
theorem dX11_alarmsIn_21 : decode cX11_alarmsIn 21 = .ok (.getfield 29, 3) := by decide +kernel
theorem dX11_alarmsIn_24 : decode cX11_alarmsIn 24 = .ok (.aload_n 0, 1) := by decide +kernel
theorem dX11_alarmsIn_25 : decode cX11_alarmsIn 25 = .ok (.getfield 10, 3) := by decide +kernel
theorem dX11_alarmsIn_28 : decode cX11_alarmsIn 28 = .ok (.getfield 109, 3) := by decide +kernel
theorem dX11_alarmsIn_31 : decode cX11_alarmsIn 31 = .ok (.invokevirtual 238, 3) := by decide +kernel
theorem dX11_alarmsIn_34 : decode cX11_alarmsIn 34 = .ok (.iconst 0, 1) := by decide +kernel
theorem dX11_alarmsIn_35 : decode cX11_alarmsIn 35 = .ok (.istore_n 2, 1) := by decide +kernel
theorem dX11_alarmsIn_36 : decode cX11_alarmsIn 36 = .ok (.iload_n 2, 1) := by decide +kernel
theorem dX11_alarmsIn_37 : decode cX11_alarmsIn 37 = .ok (.iload_n 1, 1) := by decide +kernel
theorem dX11_alarmsIn_38 : decode cX11_alarmsIn 38 = .ok (.if_icmp .ge 17, 3) := by decide +kernel
theorem dX11_alarmsIn_41 : decode cX11_alarmsIn 41 = .ok (.aload_n 0, 1) := by decide +kernel
theorem dX11_alarmsIn_42 : decode cX11_alarmsIn 42 = .ok (.getfield 29, 3) := by decide +kernel
theorem dX11_alarmsIn_45 : decode cX11_alarmsIn 45 = .ok (.invokevirtual 242, 3) := by decide +kernel
theorem dX11_alarmsIn_48 : decode cX11_alarmsIn 48 = .ok (.pop, 1) := by decide +kernel
theorem dX11_alarmsIn_49 : decode cX11_alarmsIn 49 = .ok (.iinc 2 1, 3) := by decide +kernel
theorem dX11_alarmsIn_52 : decode cX11_alarmsIn 52 = .ok (.goto (-16), 3) := by decide +kernel
theorem dX11_alarmsIn_55 : decode cX11_alarmsIn 55 = .ok (.aload_n 0, 1) := by decide +kernel
theorem dX11_alarmsIn_56 : decode cX11_alarmsIn 56 = .ok (.getfield 29, 3) := by decide +kernel
theorem dX11_alarmsIn_59 : decode cX11_alarmsIn 59 = .ok (.getfield 245, 3) := by decide +kernel
theorem dX11_alarmsIn_62 : decode cX11_alarmsIn 62 = .ok (.aload_n 0, 1) := by decide +kernel
theorem dX11_alarmsIn_63 : decode cX11_alarmsIn 63 = .ok (.getfield 10, 3) := by decide +kernel
theorem dX11_alarmsIn_66 : decode cX11_alarmsIn 66 = .ok (.getfield 109, 3) := by decide +kernel
theorem dX11_alarmsIn_69 : decode cX11_alarmsIn 69 = .ok (.getfield 245, 3) := by decide +kernel
theorem dX11_alarmsIn_72 : decode cX11_alarmsIn 72 = .ok (.isub, 1) := by decide +kernel
theorem dX11_alarmsIn_73 : decode cX11_alarmsIn 73 = .ok (.ireturn, 1) := by decide +kernel
theorem dX11_zoneByNoise_0 : decode cX11_zoneByNoise 0 = .ok (.iload_n 1, 1) := by decide +kernel
theorem dX11_zoneByNoise_1 : decode cX11_zoneByNoise 1 = .ok (.ifCond .lt 9, 3) := by decide +kernel
theorem dX11_zoneByNoise_4 : decode cX11_zoneByNoise 4 = .ok (.iload_n 1, 1) := by decide +kernel
theorem dX11_zoneByNoise_5 : decode cX11_zoneByNoise 5 = .ok (.bipush 8, 2) := by decide +kernel
theorem dX11_zoneByNoise_7 : decode cX11_zoneByNoise 7 = .ok (.if_icmp .lt 13, 3) := by decide +kernel
theorem dX11_zoneByNoise_10 : decode cX11_zoneByNoise 10 = .ok (.new 151, 3) := by decide +kernel
theorem dX11_zoneByNoise_13 : decode cX11_zoneByNoise 13 = .ok (.dup, 1) := by decide +kernel
theorem dX11_zoneByNoise_14 : decode cX11_zoneByNoise 14 = .ok (.ldc 248, 2) := by decide +kernel
theorem dX11_zoneByNoise_16 : decode cX11_zoneByNoise 16 = .ok (.invokespecial 155, 3) := by decide +kernel
theorem dX11_zoneByNoise_19 : decode cX11_zoneByNoise 19 = .ok (.athrow, 1) := by decide +kernel
theorem dX11_zoneByNoise_20 : decode cX11_zoneByNoise 20 = .ok (.aload_n 0, 1) := by decide +kernel
theorem dX11_zoneByNoise_21 : decode cX11_zoneByNoise 21 = .ok (.getfield 10, 3) := by decide +kernel
theorem dX11_zoneByNoise_24 : decode cX11_zoneByNoise 24 = .ok (.getfield 109, 3) := by decide +kernel
theorem dX11_zoneByNoise_27 : decode cX11_zoneByNoise 27 = .ok (.iload_n 1, 1) := by decide +kernel
theorem dX11_zoneByNoise_28 : decode cX11_zoneByNoise 28 = .ok (.invokevirtual 250, 3) := by decide +kernel
theorem dX11_zoneByNoise_31 : decode cX11_zoneByNoise 31 = .ok (.ireturn, 1) := by decide +kernel
theorem dX11_alarmsOf_0 : decode cX11_alarmsOf 0 = .ok (.aload_n 0, 1) := by decide +kernel
theorem dX11_alarmsOf_1 : decode cX11_alarmsOf 1 = .ok (.iload_n 1, 1) := by decide +kernel
theorem dX11_alarmsOf_2 : decode cX11_alarmsOf 2 = .ok (.invokevirtual 214, 3) := by decide +kernel
theorem dX11_alarmsOf_5 : decode cX11_alarmsOf 5 = .ok (.aload_n 0, 1) := by decide +kernel
theorem dX11_alarmsOf_6 : decode cX11_alarmsOf 6 = .ok (.getfield 10, 3) := by decide +kernel
theorem dX11_alarmsOf_9 : decode cX11_alarmsOf 9 = .ok (.getfield 109, 3) := by decide +kernel
theorem dX11_alarmsOf_12 : decode cX11_alarmsOf 12 = .ok (.getfield 253, 3) := by decide +kernel
theorem dX11_alarmsOf_15 : decode cX11_alarmsOf 15 = .ok (.iload_n 1, 1) := by decide +kernel
theorem dX11_alarmsOf_16 : decode cX11_alarmsOf 16 = .ok (.iaload, 1) := by decide +kernel
theorem dX11_alarmsOf_17 : decode cX11_alarmsOf 17 = .ok (.ireturn, 1) := by decide +kernel
theorem dX11_alarmCount_0 : decode cX11_alarmCount 0 = .ok (.aload_n 0, 1) := by decide +kernel
theorem dX11_alarmCount_1 : decode cX11_alarmCount 1 = .ok (.getfield 10, 3) := by decide +kernel
theorem dX11_alarmCount_4 : decode cX11_alarmCount 4 = .ok (.getfield 109, 3) := by decide +kernel
theorem dX11_alarmCount_7 : decode cX11_alarmCount 7 = .ok (.getfield 245, 3) := by decide +kernel
theorem dX11_alarmCount_10 : decode cX11_alarmCount 10 = .ok (.ireturn, 1) := by decide +kernel
theorem dX11_openingCount_0 : decode cX11_openingCount 0 = .ok (.aload_n 0, 1) := by decide +kernel
theorem dX11_openingCount_1 : decode cX11_openingCount 1 = .ok (.getfield 10, 3) := by decide +kernel
theorem dX11_openingCount_4 : decode cX11_openingCount 4 = .ok (.getfield 186, 3) := by decide +kernel
theorem dX11_openingCount_7 : decode cX11_openingCount 7 = .ok (.getfield 256, 3) := by decide +kernel
theorem dX11_openingCount_10 : decode cX11_openingCount 10 = .ok (.ireturn, 1) := by decide +kernel
theorem dX11_logCount_0 : decode cX11_logCount 0 = .ok (.aload_n 0, 1) := by decide +kernel
theorem dX11_logCount_1 : decode cX11_logCount 1 = .ok (.getfield 10, 3) := by decide +kernel
theorem dX11_logCount_4 : decode cX11_logCount 4 = .ok (.getfield 259, 3) := by decide +kernel
theorem dX11_logCount_7 : decode cX11_logCount 7 = .ok (.getfield 263, 3) := by decide +kernel
theorem dX11_logCount_10 : decode cX11_logCount 10 = .ok (.ireturn, 1) := by decide +kernel
theorem dX11_logHour_0 : decode cX11_logHour 0 = .ok (.aload_n 0, 1) := by decide +kernel
theorem dX11_logHour_1 : decode cX11_logHour 1 = .ok (.iload_n 1, 1) := by decide +kernel
theorem dX11_logHour_2 : decode cX11_logHour 2 = .ok (.invokevirtual 268, 3) := by decide +kernel
theorem dX11_logHour_5 : decode cX11_logHour 5 = .ok (.aload_n 0, 1) := by decide +kernel
theorem dX11_logHour_6 : decode cX11_logHour 6 = .ok (.getfield 10, 3) := by decide +kernel
theorem dX11_logHour_9 : decode cX11_logHour 9 = .ok (.getfield 259, 3) := by decide +kernel
theorem dX11_logHour_12 : decode cX11_logHour 12 = .ok (.getfield 271, 3) := by decide +kernel
theorem dX11_logHour_15 : decode cX11_logHour 15 = .ok (.iload_n 1, 1) := by decide +kernel
theorem dX11_logHour_16 : decode cX11_logHour 16 = .ok (.iaload, 1) := by decide +kernel
theorem dX11_logHour_17 : decode cX11_logHour 17 = .ok (.ireturn, 1) := by decide +kernel
theorem dX11_logKind_0 : decode cX11_logKind 0 = .ok (.aload_n 0, 1) := by decide +kernel
theorem dX11_logKind_1 : decode cX11_logKind 1 = .ok (.iload_n 1, 1) := by decide +kernel
theorem dX11_logKind_2 : decode cX11_logKind 2 = .ok (.invokevirtual 268, 3) := by decide +kernel
theorem dX11_logKind_5 : decode cX11_logKind 5 = .ok (.aload_n 0, 1) := by decide +kernel
theorem dX11_logKind_6 : decode cX11_logKind 6 = .ok (.getfield 10, 3) := by decide +kernel
theorem dX11_logKind_9 : decode cX11_logKind 9 = .ok (.getfield 259, 3) := by decide +kernel
theorem dX11_logKind_12 : decode cX11_logKind 12 = .ok (.getfield 274, 3) := by decide +kernel
theorem dX11_logKind_15 : decode cX11_logKind 15 = .ok (.iload_n 1, 1) := by decide +kernel
theorem dX11_logKind_16 : decode cX11_logKind 16 = .ok (.caload, 1) := by decide +kernel
theorem dX11_logKind_17 : decode cX11_logKind 17 = .ok (.ireturn, 1) := by decide +kernel
theorem dX11_logDetail_0 : decode cX11_logDetail 0 = .ok (.aload_n 0, 1) := by decide +kernel
theorem dX11_logDetail_1 : decode cX11_logDetail 1 = .ok (.iload_n 1, 1) := by decide +kernel
theorem dX11_logDetail_2 : decode cX11_logDetail 2 = .ok (.invokevirtual 268, 3) := by decide +kernel
theorem dX11_logDetail_5 : decode cX11_logDetail 5 = .ok (.aload_n 0, 1) := by decide +kernel
theorem dX11_logDetail_6 : decode cX11_logDetail 6 = .ok (.getfield 10, 3) := by decide +kernel
theorem dX11_logDetail_9 : decode cX11_logDetail 9 = .ok (.getfield 259, 3) := by decide +kernel
theorem dX11_logDetail_12 : decode cX11_logDetail 12 = .ok (.getfield 278, 3) := by decide +kernel
theorem dX11_logDetail_15 : decode cX11_logDetail 15 = .ok (.iload_n 1, 1) := by decide +kernel
theorem dX11_logDetail_16 : decode cX11_logDetail 16 = .ok (.iaload, 1) := by decide +kernel
theorem dX11_logDetail_17 : decode cX11_logDetail 17 = .ok (.ireturn, 1) := by decide +kernel
theorem dX11_meanNoise_0 : decode cX11_meanNoise 0 = .ok (.aload_n 0, 1) := by decide +kernel
theorem dX11_meanNoise_1 : decode cX11_meanNoise 1 = .ok (.getfield 10, 3) := by decide +kernel
theorem dX11_meanNoise_4 : decode cX11_meanNoise 4 = .ok (.getfield 109, 3) := by decide +kernel
theorem dX11_meanNoise_7 : decode cX11_meanNoise 7 = .ok (.getfield 217, 3) := by decide +kernel
theorem dX11_meanNoise_10 : decode cX11_meanNoise 10 = .ok (.invokestatic 281, 3) := by decide +kernel
theorem dX11_meanNoise_13 : decode cX11_meanNoise 13 = .ok (.i2d, 1) := by decide +kernel
theorem dX11_meanNoise_14 : decode cX11_meanNoise 14 = .ok (.ldc2_w 285, 3) := by decide +kernel
theorem dX11_meanNoise_17 : decode cX11_meanNoise 17 = .ok (.ddiv, 1) := by decide +kernel
theorem dX11_meanNoise_18 : decode cX11_meanNoise 18 = .ok (.dreturn, 1) := by decide +kernel
theorem dX11_alarmShare_0 : decode cX11_alarmShare 0 = .ok (.aload_n 0, 1) := by decide +kernel
theorem dX11_alarmShare_1 : decode cX11_alarmShare 1 = .ok (.iload_n 1, 1) := by decide +kernel
theorem dX11_alarmShare_2 : decode cX11_alarmShare 2 = .ok (.invokevirtual 214, 3) := by decide +kernel
theorem dX11_alarmShare_5 : decode cX11_alarmShare 5 = .ok (.aload_n 0, 1) := by decide +kernel
theorem dX11_alarmShare_6 : decode cX11_alarmShare 6 = .ok (.getfield 10, 3) := by decide +kernel
theorem dX11_alarmShare_9 : decode cX11_alarmShare 9 = .ok (.getfield 109, 3) := by decide +kernel
theorem dX11_alarmShare_12 : decode cX11_alarmShare 12 = .ok (.getfield 245, 3) := by decide +kernel
theorem dX11_alarmShare_15 : decode cX11_alarmShare 15 = .ok (.ifCond .ne 14, 3) := by decide +kernel
theorem dX11_alarmShare_18 : decode cX11_alarmShare 18 = .ok (.new 287, 3) := by decide +kernel
theorem dX11_alarmShare_21 : decode cX11_alarmShare 21 = .ok (.dup, 1) := by decide +kernel
theorem dX11_alarmShare_22 : decode cX11_alarmShare 22 = .ok (.ldc_w 289, 3) := by decide +kernel
theorem dX11_alarmShare_25 : decode cX11_alarmShare 25 = .ok (.invokespecial 291, 3) := by decide +kernel
theorem dX11_alarmShare_28 : decode cX11_alarmShare 28 = .ok (.athrow, 1) := by decide +kernel
theorem dX11_alarmShare_29 : decode cX11_alarmShare 29 = .ok (.aload_n 0, 1) := by decide +kernel
theorem dX11_alarmShare_30 : decode cX11_alarmShare 30 = .ok (.getfield 10, 3) := by decide +kernel
theorem dX11_alarmShare_33 : decode cX11_alarmShare 33 = .ok (.getfield 109, 3) := by decide +kernel
theorem dX11_alarmShare_36 : decode cX11_alarmShare 36 = .ok (.getfield 253, 3) := by decide +kernel
theorem dX11_alarmShare_39 : decode cX11_alarmShare 39 = .ok (.iload_n 1, 1) := by decide +kernel
theorem dX11_alarmShare_40 : decode cX11_alarmShare 40 = .ok (.iaload, 1) := by decide +kernel
theorem dX11_alarmShare_41 : decode cX11_alarmShare 41 = .ok (.i2f, 1) := by decide +kernel
theorem dX11_alarmShare_42 : decode cX11_alarmShare 42 = .ok (.aload_n 0, 1) := by decide +kernel
theorem dX11_alarmShare_43 : decode cX11_alarmShare 43 = .ok (.getfield 10, 3) := by decide +kernel
theorem dX11_alarmShare_46 : decode cX11_alarmShare 46 = .ok (.getfield 109, 3) := by decide +kernel
theorem dX11_alarmShare_49 : decode cX11_alarmShare 49 = .ok (.getfield 245, 3) := by decide +kernel
theorem dX11_alarmShare_52 : decode cX11_alarmShare 52 = .ok (.i2f, 1) := by decide +kernel
theorem dX11_alarmShare_53 : decode cX11_alarmShare 53 = .ok (.fdiv, 1) := by decide +kernel
theorem dX11_alarmShare_54 : decode cX11_alarmShare 54 = .ok (.freturn, 1) := by decide +kernel
theorem dX11_isConsistent_0 : decode cX11_isConsistent 0 = .ok (.aload_n 0, 1) := by decide +kernel
theorem dX11_isConsistent_1 : decode cX11_isConsistent 1 = .ok (.getfield 10, 3) := by decide +kernel
theorem dX11_isConsistent_4 : decode cX11_isConsistent 4 = .ok (.getfield 109, 3) := by decide +kernel
theorem dX11_isConsistent_7 : decode cX11_isConsistent 7 = .ok (.getfield 253, 3) := by decide +kernel
theorem dX11_isConsistent_10 : decode cX11_isConsistent 10 = .ok (.invokestatic 281, 3) := by decide +kernel
theorem dX11_isConsistent_13 : decode cX11_isConsistent 13 = .ok (.aload_n 0, 1) := by decide +kernel
theorem dX11_isConsistent_14 : decode cX11_isConsistent 14 = .ok (.getfield 10, 3) := by decide +kernel
theorem dX11_isConsistent_17 : decode cX11_isConsistent 17 = .ok (.getfield 109, 3) := by decide +kernel
theorem dX11_isConsistent_20 : decode cX11_isConsistent 20 = .ok (.getfield 245, 3) := by decide +kernel
theorem dX11_isConsistent_23 : decode cX11_isConsistent 23 = .ok (.if_icmp .ne 21, 3) := by decide +kernel
theorem dX11_isConsistent_26 : decode cX11_isConsistent 26 = .ok (.aload_n 0, 1) := by decide +kernel
theorem dX11_isConsistent_27 : decode cX11_isConsistent 27 = .ok (.invokevirtual 292, 3) := by decide +kernel
theorem dX11_isConsistent_30 : decode cX11_isConsistent 30 = .ok (.ifCond .eq 14, 3) := by decide +kernel
theorem dX11_isConsistent_33 : decode cX11_isConsistent 33 = .ok (.aload_n 0, 1) := by decide +kernel
theorem dX11_isConsistent_34 : decode cX11_isConsistent 34 = .ok (.invokevirtual 295, 3) := by decide +kernel
theorem dX11_isConsistent_37 : decode cX11_isConsistent 37 = .ok (.ifCond .eq 7, 3) := by decide +kernel
theorem dX11_isConsistent_40 : decode cX11_isConsistent 40 = .ok (.iconst 1, 1) := by decide +kernel
theorem dX11_isConsistent_41 : decode cX11_isConsistent 41 = .ok (.goto 4, 3) := by decide +kernel
theorem dX11_isConsistent_44 : decode cX11_isConsistent 44 = .ok (.iconst 0, 1) := by decide +kernel
theorem dX11_isConsistent_45 : decode cX11_isConsistent 45 = .ok (.ireturn, 1) := by decide +kernel
theorem dX11_feed_0 : decode cX11_feed 0 = .ok (.aload_n 0, 1) := by decide +kernel
theorem dX11_feed_1 : decode cX11_feed 1 = .ok (.getfield 43, 3) := by decide +kernel
theorem dX11_feed_4 : decode cX11_feed 4 = .ok (.getfield 306, 3) := by decide +kernel
theorem dX11_feed_7 : decode cX11_feed 7 = .ok (.bipush 60, 2) := by decide +kernel
theorem dX11_feed_9 : decode cX11_feed 9 = .ok (.if_icmp .lt 14, 3) := by decide +kernel
theorem dX11_feed_12 : decode cX11_feed 12 = .ok (.new 309, 3) := by decide +kernel
theorem dX11_feed_15 : decode cX11_feed 15 = .ok (.dup, 1) := by decide +kernel
theorem dX11_feed_16 : decode cX11_feed 16 = .ok (.ldc_w 311, 3) := by decide +kernel
theorem dX11_feed_19 : decode cX11_feed 19 = .ok (.invokespecial 313, 3) := by decide +kernel
theorem dX11_feed_22 : decode cX11_feed 22 = .ok (.athrow, 1) := by decide +kernel
theorem dX11_feed_23 : decode cX11_feed 23 = .ok (.aload_n 0, 1) := by decide +kernel
theorem dX11_feed_24 : decode cX11_feed 24 = .ok (.getfield 43, 3) := by decide +kernel
theorem dX11_feed_27 : decode cX11_feed 27 = .ok (.iload_n 1, 1) := by decide +kernel
theorem dX11_feed_28 : decode cX11_feed 28 = .ok (.invokevirtual 314, 3) := by decide +kernel
theorem dX11_feed_31 : decode cX11_feed 31 = .ok (.ireturn, 1) := by decide +kernel
theorem dX11_runCommands_0 : decode cX11_runCommands 0 = .ok (.aload_n 0, 1) := by decide +kernel
theorem dX11_runCommands_1 : decode cX11_runCommands 1 = .ok (.getfield 43, 3) := by decide +kernel
theorem dX11_runCommands_4 : decode cX11_runCommands 4 = .ok (.invokevirtual 318, 3) := by decide +kernel
theorem dX11_runCommands_7 : decode cX11_runCommands 7 = .ok (.istore_n 1, 1) := by decide +kernel
theorem dX11_runCommands_8 : decode cX11_runCommands 8 = .ok (.aload_n 0, 1) := by decide +kernel
theorem dX11_runCommands_9 : decode cX11_runCommands 9 = .ok (.getfield 43, 3) := by decide +kernel
theorem dX11_runCommands_12 : decode cX11_runCommands 12 = .ok (.invokevirtual 321, 3) := by decide +kernel
theorem dX11_runCommands_15 : decode cX11_runCommands 15 = .ok (.iload_n 1, 1) := by decide +kernel
theorem dX11_runCommands_16 : decode cX11_runCommands 16 = .ok (.iconst (-1), 1) := by decide +kernel
theorem dX11_runCommands_17 : decode cX11_runCommands 17 = .ok (.if_icmp .eq 19, 3) := by decide +kernel
theorem dX11_runCommands_20 : decode cX11_runCommands 20 = .ok (.aload_n 0, 1) := by decide +kernel
theorem dX11_runCommands_21 : decode cX11_runCommands 21 = .ok (.iload_n 1, 1) := by decide +kernel
theorem dX11_runCommands_22 : decode cX11_runCommands 22 = .ok (.putfield 61, 3) := by decide +kernel
theorem dX11_runCommands_25 : decode cX11_runCommands 25 = .ok (.new 171, 3) := by decide +kernel
theorem dX11_runCommands_28 : decode cX11_runCommands 28 = .ok (.dup, 1) := by decide +kernel
theorem dX11_runCommands_29 : decode cX11_runCommands 29 = .ok (.ldc_w 324, 3) := by decide +kernel
theorem dX11_runCommands_32 : decode cX11_runCommands 32 = .ok (.invokespecial 175, 3) := by decide +kernel
theorem dX11_runCommands_35 : decode cX11_runCommands 35 = .ok (.athrow, 1) := by decide +kernel
theorem dX11_runCommands_36 : decode cX11_runCommands 36 = .ok (.aload_n 0, 1) := by decide +kernel
theorem dX11_runCommands_37 : decode cX11_runCommands 37 = .ok (.getfield 19, 3) := by decide +kernel
theorem dX11_runCommands_40 : decode cX11_runCommands 40 = .ok (.aload_n 0, 1) := by decide +kernel
theorem dX11_runCommands_41 : decode cX11_runCommands 41 = .ok (.getfield 10, 3) := by decide +kernel
theorem dX11_runCommands_44 : decode cX11_runCommands 44 = .ok (.invokevirtual 64, 3) := by decide +kernel
theorem dX11_runCommands_47 : decode cX11_runCommands 47 = .ok (.iconst 0, 1) := by decide +kernel
theorem dX11_runCommands_48 : decode cX11_runCommands 48 = .ok (.istore_n 2, 1) := by decide +kernel
theorem dX11_runCommands_49 : decode cX11_runCommands 49 = .ok (.iload_n 2, 1) := by decide +kernel
theorem dX11_runCommands_50 : decode cX11_runCommands 50 = .ok (.aload_n 0, 1) := by decide +kernel
theorem dX11_runCommands_51 : decode cX11_runCommands 51 = .ok (.getfield 43, 3) := by decide +kernel
theorem dX11_runCommands_54 : decode cX11_runCommands 54 = .ok (.getfield 326, 3) := by decide +kernel
theorem dX11_runCommands_57 : decode cX11_runCommands 57 = .ok (.if_icmp .ge 81, 3) := by decide +kernel
theorem dX11_runCommands_60 : decode cX11_runCommands 60 = .ok (.aload_n 0, 1) := by decide +kernel
theorem dX11_runCommands_61 : decode cX11_runCommands 61 = .ok (.getfield 10, 3) := by decide +kernel
theorem dX11_runCommands_64 : decode cX11_runCommands 64 = .ok (.aload_n 0, 1) := by decide +kernel
theorem dX11_runCommands_65 : decode cX11_runCommands 65 = .ok (.getfield 43, 3) := by decide +kernel
theorem dX11_runCommands_68 : decode cX11_runCommands 68 = .ok (.getfield 327, 3) := by decide +kernel
theorem dX11_runCommands_71 : decode cX11_runCommands 71 = .ok (.iload_n 2, 1) := by decide +kernel
theorem dX11_runCommands_72 : decode cX11_runCommands 72 = .ok (.aaload, 1) := by decide +kernel
theorem dX11_runCommands_73 : decode cX11_runCommands 73 = .ok (.aload_n 0, 1) := by decide +kernel
theorem dX11_runCommands_74 : decode cX11_runCommands 74 = .ok (.getfield 43, 3) := by decide +kernel
theorem dX11_runCommands_77 : decode cX11_runCommands 77 = .ok (.getfield 331, 3) := by decide +kernel
theorem dX11_runCommands_80 : decode cX11_runCommands 80 = .ok (.iload_n 2, 1) := by decide +kernel
theorem dX11_runCommands_81 : decode cX11_runCommands 81 = .ok (.aaload, 1) := by decide +kernel
theorem dX11_runCommands_82 : decode cX11_runCommands 82 = .ok (.invokevirtual 335, 3) := by decide +kernel
theorem dX11_runCommands_85 : decode cX11_runCommands 85 = .ok (.istore_n 3, 1) := by decide +kernel
theorem dX11_runCommands_86 : decode cX11_runCommands 86 = .ok (.iload_n 3, 1) := by decide +kernel
theorem dX11_runCommands_87 : decode cX11_runCommands 87 = .ok (.ifCond .eq 45, 3) := by decide +kernel
theorem dX11_runCommands_90 : decode cX11_runCommands 90 = .ok (.aload_n 0, 1) := by decide +kernel
theorem dX11_runCommands_91 : decode cX11_runCommands 91 = .ok (.getfield 10, 3) := by decide +kernel
theorem dX11_runCommands_94 : decode cX11_runCommands 94 = .ok (.aload_n 0, 1) := by decide +kernel
theorem dX11_runCommands_95 : decode cX11_runCommands 95 = .ok (.getfield 19, 3) := by decide +kernel
theorem dX11_runCommands_98 : decode cX11_runCommands 98 = .ok (.invokevirtual 339, 3) := by decide +kernel
theorem dX11_runCommands_101 : decode cX11_runCommands 101 = .ok (.invokevirtual 343, 3) := by decide +kernel
theorem dX11_runCommands_104 : decode cX11_runCommands 104 = .ok (.aload_n 0, 1) := by decide +kernel
theorem dX11_runCommands_105 : decode cX11_runCommands 105 = .ok (.bipush 11, 2) := by decide +kernel
theorem dX11_runCommands_107 : decode cX11_runCommands 107 = .ok (.iload_n 2, 1) := by decide +kernel
theorem dX11_runCommands_108 : decode cX11_runCommands 108 = .ok (.iload_n 3, 1) := by decide +kernel
theorem dX11_runCommands_109 : decode cX11_runCommands 109 = .ok (.ifCond .le 7, 3) := by decide +kernel
theorem dX11_runCommands_112 : decode cX11_runCommands 112 = .ok (.iload_n 3, 1) := by decide +kernel
theorem dX11_runCommands_113 : decode cX11_runCommands 113 = .ok (.goto 5, 3) := by decide +kernel
theorem dX11_runCommands_116 : decode cX11_runCommands 116 = .ok (.bipush 12, 2) := by decide +kernel
theorem dX11_runCommands_118 : decode cX11_runCommands 118 = .ok (.invokevirtual 345, 3) := by decide +kernel
theorem dX11_runCommands_121 : decode cX11_runCommands 121 = .ok (.new 349, 3) := by decide +kernel
theorem dX11_runCommands_124 : decode cX11_runCommands 124 = .ok (.dup, 1) := by decide +kernel
theorem dX11_runCommands_125 : decode cX11_runCommands 125 = .ok (.ldc_w 351, 3) := by decide +kernel
theorem dX11_runCommands_128 : decode cX11_runCommands 128 = .ok (.invokespecial 353, 3) := by decide +kernel
theorem dX11_runCommands_131 : decode cX11_runCommands 131 = .ok (.athrow, 1) := by decide +kernel
theorem dX11_runCommands_132 : decode cX11_runCommands 132 = .ok (.iinc 2 1, 3) := by decide +kernel
theorem dX11_runCommands_135 : decode cX11_runCommands 135 = .ok (.goto (-86), 3) := by decide +kernel
theorem dX11_runCommands_138 : decode cX11_runCommands 138 = .ok (.aload_n 0, 1) := by decide +kernel
theorem dX11_runCommands_139 : decode cX11_runCommands 139 = .ok (.getfield 19, 3) := by decide +kernel
theorem dX11_runCommands_142 : decode cX11_runCommands 142 = .ok (.invokevirtual 354, 3) := by decide +kernel
theorem dX11_runCommands_145 : decode cX11_runCommands 145 = .ok (.aload_n 0, 1) := by decide +kernel
theorem dX11_runCommands_146 : decode cX11_runCommands 146 = .ok (.getfield 43, 3) := by decide +kernel
theorem dX11_runCommands_149 : decode cX11_runCommands 149 = .ok (.getfield 326, 3) := by decide +kernel
theorem dX11_runCommands_152 : decode cX11_runCommands 152 = .ok (.ireturn, 1) := by decide +kernel
theorem dX11_undoCount_0 : decode cX11_undoCount 0 = .ok (.aload_n 0, 1) := by decide +kernel
theorem dX11_undoCount_1 : decode cX11_undoCount 1 = .ok (.getfield 19, 3) := by decide +kernel
theorem dX11_undoCount_4 : decode cX11_undoCount 4 = .ok (.getfield 382, 3) := by decide +kernel
theorem dX11_undoCount_7 : decode cX11_undoCount 7 = .ok (.ireturn, 1) := by decide +kernel
theorem dX11_undo_0 : decode cX11_undo 0 = .ok (.aload_n 0, 1) := by decide +kernel
theorem dX11_undo_1 : decode cX11_undo 1 = .ok (.getfield 19, 3) := by decide +kernel
theorem dX11_undo_4 : decode cX11_undo 4 = .ok (.getfield 382, 3) := by decide +kernel
theorem dX11_undo_7 : decode cX11_undo 7 = .ok (.ifCond .ne 14, 3) := by decide +kernel
theorem dX11_undo_10 : decode cX11_undo 10 = .ok (.new 309, 3) := by decide +kernel
theorem dX11_undo_13 : decode cX11_undo 13 = .ok (.dup, 1) := by decide +kernel
theorem dX11_undo_14 : decode cX11_undo 14 = .ok (.ldc_w 383, 3) := by decide +kernel
theorem dX11_undo_17 : decode cX11_undo 17 = .ok (.invokespecial 313, 3) := by decide +kernel
theorem dX11_undo_20 : decode cX11_undo 20 = .ok (.athrow, 1) := by decide +kernel
theorem dX11_undo_21 : decode cX11_undo 21 = .ok (.aload_n 0, 1) := by decide +kernel
theorem dX11_undo_22 : decode cX11_undo 22 = .ok (.getfield 10, 3) := by decide +kernel
theorem dX11_undo_25 : decode cX11_undo 25 = .ok (.aload_n 0, 1) := by decide +kernel
theorem dX11_undo_26 : decode cX11_undo 26 = .ok (.getfield 19, 3) := by decide +kernel
theorem dX11_undo_29 : decode cX11_undo 29 = .ok (.invokevirtual 385, 3) := by decide +kernel
theorem dX11_undo_32 : decode cX11_undo 32 = .ok (.invokevirtual 343, 3) := by decide +kernel
theorem dX11_undo_35 : decode cX11_undo 35 = .ok (.aload_n 0, 1) := by decide +kernel
theorem dX11_undo_36 : decode cX11_undo 36 = .ok (.getfield 19, 3) := by decide +kernel
theorem dX11_undo_39 : decode cX11_undo 39 = .ok (.getfield 382, 3) := by decide +kernel
theorem dX11_undo_42 : decode cX11_undo 42 = .ok (.ireturn, 1) := by decide +kernel
theorem dX11_save_0 : decode cX11_save 0 = .ok (.aload_n 0, 1) := by decide +kernel
theorem dX11_save_1 : decode cX11_save 1 = .ok (.getfield 23, 3) := by decide +kernel
theorem dX11_save_4 : decode cX11_save 4 = .ok (.aload_n 0, 1) := by decide +kernel
theorem dX11_save_5 : decode cX11_save 5 = .ok (.getfield 10, 3) := by decide +kernel
theorem dX11_save_8 : decode cX11_save 8 = .ok (.invokevirtual 343, 3) := by decide +kernel
theorem dX11_save_11 : decode cX11_save 11 = .ok (.aload_n 0, 1) := by decide +kernel
theorem dX11_save_12 : decode cX11_save 12 = .ok (.iconst 1, 1) := by decide +kernel
theorem dX11_save_13 : decode cX11_save 13 = .ok (.putfield 388, 3) := by decide +kernel
theorem dX11_save_16 : decode cX11_save 16 = .ok (.aload_n 0, 1) := by decide +kernel
theorem dX11_save_17 : decode cX11_save 17 = .ok (.getfield 10, 3) := by decide +kernel
theorem dX11_save_20 : decode cX11_save 20 = .ok (.getfield 115, 3) := by decide +kernel
theorem dX11_save_23 : decode cX11_save 23 = .ok (.getfield 119, 3) := by decide +kernel
theorem dX11_save_26 : decode cX11_save 26 = .ok (.ireturn, 1) := by decide +kernel
theorem dX11_restore_0 : decode cX11_restore 0 = .ok (.aload_n 0, 1) := by decide +kernel
theorem dX11_restore_1 : decode cX11_restore 1 = .ok (.getfield 388, 3) := by decide +kernel
theorem dX11_restore_4 : decode cX11_restore 4 = .ok (.ifCond .ne 14, 3) := by decide +kernel
theorem dX11_restore_7 : decode cX11_restore 7 = .ok (.new 309, 3) := by decide +kernel
theorem dX11_restore_10 : decode cX11_restore 10 = .ok (.dup, 1) := by decide +kernel
theorem dX11_restore_11 : decode cX11_restore 11 = .ok (.ldc_w 391, 3) := by decide +kernel
theorem dX11_restore_14 : decode cX11_restore 14 = .ok (.invokespecial 313, 3) := by decide +kernel
theorem dX11_restore_17 : decode cX11_restore 17 = .ok (.athrow, 1) := by decide +kernel
theorem dX11_restore_18 : decode cX11_restore 18 = .ok (.aload_n 0, 1) := by decide +kernel
theorem dX11_restore_19 : decode cX11_restore 19 = .ok (.getfield 10, 3) := by decide +kernel
theorem dX11_restore_22 : decode cX11_restore 22 = .ok (.aload_n 0, 1) := by decide +kernel
theorem dX11_restore_23 : decode cX11_restore 23 = .ok (.getfield 23, 3) := by decide +kernel
theorem dX11_restore_26 : decode cX11_restore 26 = .ok (.invokevirtual 343, 3) := by decide +kernel
theorem dX11_restore_29 : decode cX11_restore 29 = .ok (.aload_n 0, 1) := by decide +kernel
theorem dX11_restore_30 : decode cX11_restore 30 = .ok (.getfield 19, 3) := by decide +kernel
theorem dX11_restore_33 : decode cX11_restore 33 = .ok (.invokevirtual 393, 3) := by decide +kernel
theorem dX11_restore_36 : decode cX11_restore 36 = .ok (.aload_n 0, 1) := by decide +kernel
theorem dX11_restore_37 : decode cX11_restore 37 = .ok (.getfield 10, 3) := by decide +kernel
theorem dX11_restore_40 : decode cX11_restore 40 = .ok (.getfield 115, 3) := by decide +kernel
theorem dX11_restore_43 : decode cX11_restore 43 = .ok (.getfield 119, 3) := by decide +kernel
theorem dX11_restore_46 : decode cX11_restore 46 = .ok (.ireturn, 1) := by decide +kernel
theorem dX11_settle_0 : decode cX11_settle 0 = .ok (.iload_n 1, 1) := by decide +kernel
theorem dX11_settle_1 : decode cX11_settle 1 = .ok (.iconst (-1), 1) := by decide +kernel
theorem dX11_settle_2 : decode cX11_settle 2 = .ok (.if_icmp .ne 14, 3) := by decide +kernel
theorem dX11_settle_5 : decode cX11_settle 5 = .ok (.new 374, 3) := by decide +kernel
theorem dX11_settle_8 : decode cX11_settle 8 = .ok (.dup, 1) := by decide +kernel
theorem dX11_settle_9 : decode cX11_settle 9 = .ok (.ldc_w 394, 3) := by decide +kernel
theorem dX11_settle_12 : decode cX11_settle 12 = .ok (.invokespecial 378, 3) := by decide +kernel
theorem dX11_settle_15 : decode cX11_settle 15 = .ok (.athrow, 1) := by decide +kernel
theorem dX11_settle_16 : decode cX11_settle 16 = .ok (.iload_n 1, 1) := by decide +kernel
theorem dX11_settle_17 : decode cX11_settle 17 = .ok (.bipush (-2), 2) := by decide +kernel
theorem dX11_settle_19 : decode cX11_settle 19 = .ok (.if_icmp .ne 14, 3) := by decide +kernel
theorem dX11_settle_22 : decode cX11_settle 22 = .ok (.new 171, 3) := by decide +kernel
theorem dX11_settle_25 : decode cX11_settle 25 = .ok (.dup, 1) := by decide +kernel
theorem dX11_settle_26 : decode cX11_settle 26 = .ok (.ldc_w 396, 3) := by decide +kernel
theorem dX11_settle_29 : decode cX11_settle 29 = .ok (.invokespecial 175, 3) := by decide +kernel
theorem dX11_settle_32 : decode cX11_settle 32 = .ok (.athrow, 1) := by decide +kernel
theorem dX11_settle_33 : decode cX11_settle 33 = .ok (.iload_n 1, 1) := by decide +kernel
theorem dX11_settle_34 : decode cX11_settle 34 = .ok (.ifCond .eq 29, 3) := by decide +kernel
theorem dX11_settle_37 : decode cX11_settle 37 = .ok (.aload_n 0, 1) := by decide +kernel
theorem dX11_settle_38 : decode cX11_settle 38 = .ok (.iload_n 1, 1) := by decide +kernel
theorem dX11_settle_39 : decode cX11_settle 39 = .ok (.aload_n 0, 1) := by decide +kernel
theorem dX11_settle_40 : decode cX11_settle 40 = .ok (.getfield 10, 3) := by decide +kernel
theorem dX11_settle_43 : decode cX11_settle 43 = .ok (.iload_n 1, 1) := by decide +kernel
theorem dX11_settle_44 : decode cX11_settle 44 = .ok (.iload_n 2, 1) := by decide +kernel
theorem dX11_settle_45 : decode cX11_settle 45 = .ok (.invokevirtual 398, 3) := by decide +kernel
theorem dX11_settle_48 : decode cX11_settle 48 = .ok (.iconst (-1), 1) := by decide +kernel
theorem dX11_settle_49 : decode cX11_settle 49 = .ok (.invokevirtual 345, 3) := by decide +kernel
theorem dX11_settle_52 : decode cX11_settle 52 = .ok (.new 349, 3) := by decide +kernel
theorem dX11_settle_55 : decode cX11_settle 55 = .ok (.dup, 1) := by decide +kernel
theorem dX11_settle_56 : decode cX11_settle 56 = .ok (.ldc_w 401, 3) := by decide +kernel
theorem dX11_settle_59 : decode cX11_settle 59 = .ok (.invokespecial 353, 3) := by decide +kernel
theorem dX11_settle_62 : decode cX11_settle 62 = .ok (.athrow, 1) := by decide +kernel
theorem dX11_settle_63 : decode cX11_settle 63 = .ok (.aload_n 0, 1) := by decide +kernel
theorem dX11_settle_64 : decode cX11_settle 64 = .ok (.getfield 19, 3) := by decide +kernel
theorem dX11_settle_67 : decode cX11_settle 67 = .ok (.invokevirtual 354, 3) := by decide +kernel
theorem dX11_settle_70 : decode cX11_settle 70 = .ok (.aload_n 0, 1) := by decide +kernel
theorem dX11_settle_71 : decode cX11_settle 71 = .ok (.getfield 10, 3) := by decide +kernel
theorem dX11_settle_74 : decode cX11_settle 74 = .ok (.getfield 403, 3) := by decide +kernel
theorem dX11_settle_77 : decode cX11_settle 77 = .ok (.ireturn, 1) := by decide +kernel
theorem dX11_keepRefusal_0 : decode cX11_keepRefusal 0 = .ok (.aload_n 0, 1) := by decide +kernel
theorem dX11_keepRefusal_1 : decode cX11_keepRefusal 1 = .ok (.iload_n 1, 1) := by decide +kernel
theorem dX11_keepRefusal_2 : decode cX11_keepRefusal 2 = .ok (.putfield 54, 3) := by decide +kernel
theorem dX11_keepRefusal_5 : decode cX11_keepRefusal 5 = .ok (.aload_n 0, 1) := by decide +kernel
theorem dX11_keepRefusal_6 : decode cX11_keepRefusal 6 = .ok (.iload_n 2, 1) := by decide +kernel
theorem dX11_keepRefusal_7 : decode cX11_keepRefusal 7 = .ok (.putfield 301, 3) := by decide +kernel
theorem dX11_keepRefusal_10 : decode cX11_keepRefusal 10 = .ok (.aload_n 0, 1) := by decide +kernel
theorem dX11_keepRefusal_11 : decode cX11_keepRefusal 11 = .ok (.iload_n 3, 1) := by decide +kernel
theorem dX11_keepRefusal_12 : decode cX11_keepRefusal 12 = .ok (.putfield 58, 3) := by decide +kernel
theorem dX11_keepRefusal_15 : decode cX11_keepRefusal 15 = .ok (.return_, 1) := by decide +kernel
theorem dX11_requireHolder_0 : decode cX11_requireHolder 0 = .ok (.aload_n 0, 1) := by decide +kernel
theorem dX11_requireHolder_1 : decode cX11_requireHolder 1 = .ok (.getfield 10, 3) := by decide +kernel
theorem dX11_requireHolder_4 : decode cX11_requireHolder 4 = .ok (.getfield 115, 3) := by decide +kernel
theorem dX11_requireHolder_7 : decode cX11_requireHolder 7 = .ok (.iload_n 1, 1) := by decide +kernel
theorem dX11_requireHolder_8 : decode cX11_requireHolder 8 = .ok (.invokevirtual 406, 3) := by decide +kernel
theorem dX11_requireHolder_11 : decode cX11_requireHolder 11 = .ok (.ifCond .ne 14, 3) := by decide +kernel
theorem dX11_requireHolder_14 : decode cX11_requireHolder 14 = .ok (.new 374, 3) := by decide +kernel
theorem dX11_requireHolder_17 : decode cX11_requireHolder 17 = .ok (.dup, 1) := by decide +kernel
theorem dX11_requireHolder_18 : decode cX11_requireHolder 18 = .ok (.ldc_w 409, 3) := by decide +kernel
theorem dX11_requireHolder_21 : decode cX11_requireHolder 21 = .ok (.invokespecial 378, 3) := by decide +kernel
theorem dX11_requireHolder_24 : decode cX11_requireHolder 24 = .ok (.athrow, 1) := by decide +kernel
theorem dX11_requireHolder_25 : decode cX11_requireHolder 25 = .ok (.return_, 1) := by decide +kernel
theorem dX11_requireGuard_0 : decode cX11_requireGuard 0 = .ok (.aload_n 0, 1) := by decide +kernel
theorem dX11_requireGuard_1 : decode cX11_requireGuard 1 = .ok (.getfield 10, 3) := by decide +kernel
theorem dX11_requireGuard_4 : decode cX11_requireGuard 4 = .ok (.getfield 109, 3) := by decide +kernel
theorem dX11_requireGuard_7 : decode cX11_requireGuard 7 = .ok (.iload_n 1, 1) := by decide +kernel
theorem dX11_requireGuard_8 : decode cX11_requireGuard 8 = .ok (.invokevirtual 411, 3) := by decide +kernel
theorem dX11_requireGuard_11 : decode cX11_requireGuard 11 = .ok (.ifCond .ne 14, 3) := by decide +kernel
theorem dX11_requireGuard_14 : decode cX11_requireGuard 14 = .ok (.new 374, 3) := by decide +kernel
theorem dX11_requireGuard_17 : decode cX11_requireGuard 17 = .ok (.dup, 1) := by decide +kernel
theorem dX11_requireGuard_18 : decode cX11_requireGuard 18 = .ok (.ldc_w 414, 3) := by decide +kernel
theorem dX11_requireGuard_21 : decode cX11_requireGuard 21 = .ok (.invokespecial 378, 3) := by decide +kernel
theorem dX11_requireGuard_24 : decode cX11_requireGuard 24 = .ok (.athrow, 1) := by decide +kernel
theorem dX11_requireGuard_25 : decode cX11_requireGuard 25 = .ok (.return_, 1) := by decide +kernel
theorem dX11_requireGuards_0 : decode cX11_requireGuards 0 = .ok (.aload_n 0, 1) := by decide +kernel
theorem dX11_requireGuards_1 : decode cX11_requireGuards 1 = .ok (.getfield 10, 3) := by decide +kernel
theorem dX11_requireGuards_4 : decode cX11_requireGuards 4 = .ok (.getfield 109, 3) := by decide +kernel
theorem dX11_requireGuards_7 : decode cX11_requireGuards 7 = .ok (.getfield 201, 3) := by decide +kernel
theorem dX11_requireGuards_10 : decode cX11_requireGuards 10 = .ok (.ifCond .ne 14, 3) := by decide +kernel
theorem dX11_requireGuards_13 : decode cX11_requireGuards 13 = .ok (.new 151, 3) := by decide +kernel
theorem dX11_requireGuards_16 : decode cX11_requireGuards 16 = .ok (.dup, 1) := by decide +kernel
theorem dX11_requireGuards_17 : decode cX11_requireGuards 17 = .ok (.ldc_w 416, 3) := by decide +kernel
theorem dX11_requireGuards_20 : decode cX11_requireGuards 20 = .ok (.invokespecial 155, 3) := by decide +kernel
theorem dX11_requireGuards_23 : decode cX11_requireGuards 23 = .ok (.athrow, 1) := by decide +kernel
theorem dX11_requireGuards_24 : decode cX11_requireGuards 24 = .ok (.return_, 1) := by decide +kernel
theorem dX11_requireZone_0 : decode cX11_requireZone 0 = .ok (.iload_n 1, 1) := by decide +kernel
theorem dX11_requireZone_1 : decode cX11_requireZone 1 = .ok (.invokestatic 418, 3) := by decide +kernel
theorem dX11_requireZone_4 : decode cX11_requireZone 4 = .ok (.ifCond .ne 14, 3) := by decide +kernel
theorem dX11_requireZone_7 : decode cX11_requireZone 7 = .ok (.new 171, 3) := by decide +kernel
theorem dX11_requireZone_10 : decode cX11_requireZone 10 = .ok (.dup, 1) := by decide +kernel
theorem dX11_requireZone_11 : decode cX11_requireZone 11 = .ok (.ldc_w 421, 3) := by decide +kernel
theorem dX11_requireZone_14 : decode cX11_requireZone 14 = .ok (.invokespecial 175, 3) := by decide +kernel
theorem dX11_requireZone_17 : decode cX11_requireZone 17 = .ok (.athrow, 1) := by decide +kernel
theorem dX11_requireZone_18 : decode cX11_requireZone 18 = .ok (.return_, 1) := by decide +kernel
theorem dX11_requireSeal_0 : decode cX11_requireSeal 0 = .ok (.aload_n 0, 1) := by decide +kernel
theorem dX11_requireSeal_1 : decode cX11_requireSeal 1 = .ok (.getfield 10, 3) := by decide +kernel
theorem dX11_requireSeal_4 : decode cX11_requireSeal 4 = .ok (.getfield 115, 3) := by decide +kernel
theorem dX11_requireSeal_7 : decode cX11_requireSeal 7 = .ok (.getfield 124, 3) := by decide +kernel
theorem dX11_requireSeal_10 : decode cX11_requireSeal 10 = .ok (.ifCond .ne 14, 3) := by decide +kernel
theorem dX11_requireSeal_13 : decode cX11_requireSeal 13 = .ok (.new 151, 3) := by decide +kernel
theorem dX11_requireSeal_16 : decode cX11_requireSeal 16 = .ok (.dup, 1) := by decide +kernel
theorem dX11_requireSeal_17 : decode cX11_requireSeal 17 = .ok (.ldc_w 423, 3) := by decide +kernel
theorem dX11_requireSeal_20 : decode cX11_requireSeal 20 = .ok (.invokespecial 155, 3) := by decide +kernel
theorem dX11_requireSeal_23 : decode cX11_requireSeal 23 = .ok (.athrow, 1) := by decide +kernel
theorem dX11_requireSeal_24 : decode cX11_requireSeal 24 = .ok (.return_, 1) := by decide +kernel
theorem dX11_requireEnoughKeys_0 : decode cX11_requireEnoughKeys 0 = .ok (.aload_n 0, 1) := by decide +kernel
theorem dX11_requireEnoughKeys_1 : decode cX11_requireEnoughKeys 1 = .ok (.getfield 10, 3) := by decide +kernel
theorem dX11_requireEnoughKeys_4 : decode cX11_requireEnoughKeys 4 = .ok (.getfield 115, 3) := by decide +kernel
theorem dX11_requireEnoughKeys_7 : decode cX11_requireEnoughKeys 7 = .ok (.invokevirtual 425, 3) := by decide +kernel
theorem dX11_requireEnoughKeys_10 : decode cX11_requireEnoughKeys 10 = .ok (.ifCond .ne 14, 3) := by decide +kernel
theorem dX11_requireEnoughKeys_13 : decode cX11_requireEnoughKeys 13 = .ok (.new 151, 3) := by decide +kernel
theorem dX11_requireEnoughKeys_16 : decode cX11_requireEnoughKeys 16 = .ok (.dup, 1) := by decide +kernel
theorem dX11_requireEnoughKeys_17 : decode cX11_requireEnoughKeys 17 = .ok (.ldc_w 428, 3) := by decide +kernel
theorem dX11_requireEnoughKeys_20 : decode cX11_requireEnoughKeys 20 = .ok (.invokespecial 155, 3) := by decide +kernel
theorem dX11_requireEnoughKeys_23 : decode cX11_requireEnoughKeys 23 = .ok (.athrow, 1) := by decide +kernel
theorem dX11_requireEnoughKeys_24 : decode cX11_requireEnoughKeys 24 = .ok (.return_, 1) := by decide +kernel
theorem dX11_requireEntry_0 : decode cX11_requireEntry 0 = .ok (.iload_n 1, 1) := by decide +kernel
theorem dX11_requireEntry_1 : decode cX11_requireEntry 1 = .ok (.ifCond .lt 17, 3) := by decide +kernel
theorem dX11_requireEntry_4 : decode cX11_requireEntry 4 = .ok (.iload_n 1, 1) := by decide +kernel
theorem dX11_requireEntry_5 : decode cX11_requireEntry 5 = .ok (.aload_n 0, 1) := by decide +kernel
theorem dX11_requireEntry_6 : decode cX11_requireEntry 6 = .ok (.getfield 10, 3) := by decide +kernel
theorem dX11_requireEntry_9 : decode cX11_requireEntry 9 = .ok (.getfield 259, 3) := by decide +kernel
theorem dX11_requireEntry_12 : decode cX11_requireEntry 12 = .ok (.getfield 263, 3) := by decide +kernel
theorem dX11_requireEntry_15 : decode cX11_requireEntry 15 = .ok (.if_icmp .lt 14, 3) := by decide +kernel
theorem dX11_requireEntry_18 : decode cX11_requireEntry 18 = .ok (.new 151, 3) := by decide +kernel
theorem dX11_requireEntry_21 : decode cX11_requireEntry 21 = .ok (.dup, 1) := by decide +kernel
theorem dX11_requireEntry_22 : decode cX11_requireEntry 22 = .ok (.ldc_w 430, 3) := by decide +kernel
theorem dX11_requireEntry_25 : decode cX11_requireEntry 25 = .ok (.invokespecial 155, 3) := by decide +kernel
theorem dX11_requireEntry_28 : decode cX11_requireEntry 28 = .ok (.athrow, 1) := by decide +kernel
theorem dX11_requireEntry_29 : decode cX11_requireEntry 29 = .ok (.return_, 1) := by decide +kernel
theorem dX11_visitByHours_0 : decode cX11_visitByHours 0 = .ok (.aload_n 0, 1) := by decide +kernel
theorem dX11_visitByHours_1 : decode cX11_visitByHours 1 = .ok (.getfield 29, 3) := by decide +kernel
theorem dX11_visitByHours_4 : decode cX11_visitByHours 4 = .ok (.aload_n 0, 1) := by decide +kernel
theorem dX11_visitByHours_5 : decode cX11_visitByHours 5 = .ok (.getfield 10, 3) := by decide +kernel
theorem dX11_visitByHours_8 : decode cX11_visitByHours 8 = .ok (.getfield 109, 3) := by decide +kernel
theorem dX11_visitByHours_11 : decode cX11_visitByHours 11 = .ok (.invokevirtual 238, 3) := by decide +kernel
theorem dX11_visitByHours_14 : decode cX11_visitByHours 14 = .ok (.iconst 0, 1) := by decide +kernel
theorem dX11_visitByHours_15 : decode cX11_visitByHours 15 = .ok (.istore_n 2, 1) := by decide +kernel
theorem dX11_visitByHours_16 : decode cX11_visitByHours 16 = .ok (.iload_n 2, 1) := by decide +kernel
theorem dX11_visitByHours_17 : decode cX11_visitByHours 17 = .ok (.bipush 32, 2) := by decide +kernel
theorem dX11_visitByHours_19 : decode cX11_visitByHours 19 = .ok (.if_icmp .ge 27, 3) := by decide +kernel
theorem dX11_visitByHours_22 : decode cX11_visitByHours 22 = .ok (.aload_n 0, 1) := by decide +kernel
theorem dX11_visitByHours_23 : decode cX11_visitByHours 23 = .ok (.getfield 29, 3) := by decide +kernel
theorem dX11_visitByHours_26 : decode cX11_visitByHours 26 = .ok (.iload_n 1, 1) := by decide +kernel
theorem dX11_visitByHours_27 : decode cX11_visitByHours 27 = .ok (.invokevirtual 220, 3) := by decide +kernel
theorem dX11_visitByHours_30 : decode cX11_visitByHours 30 = .ok (.ifCond .ne 16, 3) := by decide +kernel
theorem dX11_visitByHours_33 : decode cX11_visitByHours 33 = .ok (.aload_n 0, 1) := by decide +kernel
theorem dX11_visitByHours_34 : decode cX11_visitByHours 34 = .ok (.getfield 29, 3) := by decide +kernel
theorem dX11_visitByHours_37 : decode cX11_visitByHours 37 = .ok (.invokevirtual 434, 3) := by decide +kernel
theorem dX11_visitByHours_40 : decode cX11_visitByHours 40 = .ok (.iinc 2 1, 3) := by decide +kernel
theorem dX11_visitByHours_43 : decode cX11_visitByHours 43 = .ok (.goto (-27), 3) := by decide +kernel
theorem dX11_visitByHours_46 : decode cX11_visitByHours 46 = .ok (.iload_n 2, 1) := by decide +kernel
theorem dX11_visitByHours_47 : decode cX11_visitByHours 47 = .ok (.ireturn, 1) := by decide +kernel
theorem dX11_doVisitsMatch_0 : decode cX11_doVisitsMatch 0 = .ok (.aload_n 0, 1) := by decide +kernel
theorem dX11_doVisitsMatch_1 : decode cX11_doVisitsMatch 1 = .ok (.getfield 10, 3) := by decide +kernel
theorem dX11_doVisitsMatch_4 : decode cX11_doVisitsMatch 4 = .ok (.getfield 109, 3) := by decide +kernel
theorem dX11_doVisitsMatch_7 : decode cX11_doVisitsMatch 7 = .ok (.getfield 201, 3) := by decide +kernel
theorem dX11_doVisitsMatch_10 : decode cX11_doVisitsMatch 10 = .ok (.ifCond .ne 5, 3) := by decide +kernel
theorem dX11_doVisitsMatch_13 : decode cX11_doVisitsMatch 13 = .ok (.iconst 1, 1) := by decide +kernel
theorem dX11_doVisitsMatch_14 : decode cX11_doVisitsMatch 14 = .ok (.ireturn, 1) := by decide +kernel
theorem dX11_doVisitsMatch_15 : decode cX11_doVisitsMatch 15 = .ok (.iconst 0, 1) := by decide +kernel
theorem dX11_doVisitsMatch_16 : decode cX11_doVisitsMatch 16 = .ok (.istore_n 1, 1) := by decide +kernel
theorem dX11_doVisitsMatch_17 : decode cX11_doVisitsMatch 17 = .ok (.iload_n 1, 1) := by decide +kernel
theorem dX11_doVisitsMatch_18 : decode cX11_doVisitsMatch 18 = .ok (.bipush 8, 2) := by decide +kernel
theorem dX11_doVisitsMatch_20 : decode cX11_doVisitsMatch 20 = .ok (.if_icmp .ge 30, 3) := by decide +kernel
theorem dX11_doVisitsMatch_23 : decode cX11_doVisitsMatch 23 = .ok (.aload_n 0, 1) := by decide +kernel
theorem dX11_doVisitsMatch_24 : decode cX11_doVisitsMatch 24 = .ok (.iload_n 1, 1) := by decide +kernel
theorem dX11_doVisitsMatch_25 : decode cX11_doVisitsMatch 25 = .ok (.invokevirtual 230, 3) := by decide +kernel
theorem dX11_doVisitsMatch_28 : decode cX11_doVisitsMatch 28 = .ok (.aload_n 0, 1) := by decide +kernel
theorem dX11_doVisitsMatch_29 : decode cX11_doVisitsMatch 29 = .ok (.getfield 10, 3) := by decide +kernel
theorem dX11_doVisitsMatch_32 : decode cX11_doVisitsMatch 32 = .ok (.getfield 109, 3) := by decide +kernel
theorem dX11_doVisitsMatch_35 : decode cX11_doVisitsMatch 35 = .ok (.iload_n 1, 1) := by decide +kernel
theorem dX11_doVisitsMatch_36 : decode cX11_doVisitsMatch 36 = .ok (.invokevirtual 233, 3) := by decide +kernel
theorem dX11_doVisitsMatch_39 : decode cX11_doVisitsMatch 39 = .ok (.if_icmp .eq 5, 3) := by decide +kernel
theorem dX11_doVisitsMatch_42 : decode cX11_doVisitsMatch 42 = .ok (.iconst 0, 1) := by decide +kernel
theorem dX11_doVisitsMatch_43 : decode cX11_doVisitsMatch 43 = .ok (.ireturn, 1) := by decide +kernel
theorem dX11_doVisitsMatch_44 : decode cX11_doVisitsMatch 44 = .ok (.iinc 1 1, 3) := by decide +kernel
theorem dX11_doVisitsMatch_47 : decode cX11_doVisitsMatch 47 = .ok (.goto (-30), 3) := by decide +kernel
theorem dX11_doVisitsMatch_50 : decode cX11_doVisitsMatch 50 = .ok (.iconst 1, 1) := by decide +kernel
theorem dX11_doVisitsMatch_51 : decode cX11_doVisitsMatch 51 = .ok (.ireturn, 1) := by decide +kernel
theorem dX11_doTellingsMatch_0 : decode cX11_doTellingsMatch 0 = .ok (.aload_n 0, 1) := by decide +kernel
theorem dX11_doTellingsMatch_1 : decode cX11_doTellingsMatch 1 = .ok (.getfield 10, 3) := by decide +kernel
theorem dX11_doTellingsMatch_4 : decode cX11_doTellingsMatch 4 = .ok (.getfield 115, 3) := by decide +kernel
theorem dX11_doTellingsMatch_7 : decode cX11_doTellingsMatch 7 = .ok (.astore_n 1, 1) := by decide +kernel
theorem dX11_doTellingsMatch_8 : decode cX11_doTellingsMatch 8 = .ok (.aload_n 1, 1) := by decide +kernel
theorem dX11_doTellingsMatch_9 : decode cX11_doTellingsMatch 9 = .ok (.invokevirtual 425, 3) := by decide +kernel
theorem dX11_doTellingsMatch_12 : decode cX11_doTellingsMatch 12 = .ok (.ifCond .ne 5, 3) := by decide +kernel
theorem dX11_doTellingsMatch_15 : decode cX11_doTellingsMatch 15 = .ok (.iconst 1, 1) := by decide +kernel
theorem dX11_doTellingsMatch_16 : decode cX11_doTellingsMatch 16 = .ok (.ireturn, 1) := by decide +kernel
theorem dX11_doTellingsMatch_17 : decode cX11_doTellingsMatch 17 = .ok (.aload_n 1, 1) := by decide +kernel
theorem dX11_doTellingsMatch_18 : decode cX11_doTellingsMatch 18 = .ok (.iconst 0, 1) := by decide +kernel
theorem dX11_doTellingsMatch_19 : decode cX11_doTellingsMatch 19 = .ok (.invokevirtual 164, 3) := by decide +kernel
theorem dX11_doTellingsMatch_22 : decode cX11_doTellingsMatch 22 = .ok (.aload_n 0, 1) := by decide +kernel
theorem dX11_doTellingsMatch_23 : decode cX11_doTellingsMatch 23 = .ok (.getfield 36, 3) := by decide +kernel
theorem dX11_doTellingsMatch_26 : decode cX11_doTellingsMatch 26 = .ok (.aload_n 1, 1) := by decide +kernel
theorem dX11_doTellingsMatch_27 : decode cX11_doTellingsMatch 27 = .ok (.invokevirtual 167, 3) := by decide +kernel
theorem dX11_doTellingsMatch_30 : decode cX11_doTellingsMatch 30 = .ok (.if_icmp .ne 26, 3) := by decide +kernel
theorem dX11_doTellingsMatch_33 : decode cX11_doTellingsMatch 33 = .ok (.aload_n 0, 1) := by decide +kernel
theorem dX11_doTellingsMatch_34 : decode cX11_doTellingsMatch 34 = .ok (.getfield 36, 3) := by decide +kernel
theorem dX11_doTellingsMatch_37 : decode cX11_doTellingsMatch 37 = .ok (.aload_n 1, 1) := by decide +kernel
theorem dX11_doTellingsMatch_38 : decode cX11_doTellingsMatch 38 = .ok (.invokevirtual 180, 3) := by decide +kernel
theorem dX11_doTellingsMatch_41 : decode cX11_doTellingsMatch 41 = .ok (.aload_n 0, 1) := by decide +kernel
theorem dX11_doTellingsMatch_42 : decode cX11_doTellingsMatch 42 = .ok (.getfield 36, 3) := by decide +kernel
theorem dX11_doTellingsMatch_45 : decode cX11_doTellingsMatch 45 = .ok (.aload_n 1, 1) := by decide +kernel
theorem dX11_doTellingsMatch_46 : decode cX11_doTellingsMatch 46 = .ok (.invokevirtual 183, 3) := by decide +kernel
theorem dX11_doTellingsMatch_49 : decode cX11_doTellingsMatch 49 = .ok (.if_icmp .ne 7, 3) := by decide +kernel
theorem dX11_doTellingsMatch_52 : decode cX11_doTellingsMatch 52 = .ok (.iconst 1, 1) := by decide +kernel
theorem dX11_doTellingsMatch_53 : decode cX11_doTellingsMatch 53 = .ok (.goto 4, 3) := by decide +kernel
theorem dX11_doTellingsMatch_56 : decode cX11_doTellingsMatch 56 = .ok (.iconst 0, 1) := by decide +kernel
theorem dX11_doTellingsMatch_57 : decode cX11_doTellingsMatch 57 = .ok (.ireturn, 1) := by decide +kernel
theorem dJ5_init_d00df_0 : decode cJ5_init_d00df 0 = .ok (.aload_n 0, 1) := by decide +kernel
theorem dJ5_init_d00df_1 : decode cJ5_init_d00df 1 = .ok (.invokespecial 3, 3) := by decide +kernel
theorem dJ5_init_d00df_4 : decode cJ5_init_d00df 4 = .ok (.getstatic 18, 3) := by decide +kernel
theorem dJ5_init_d00df_7 : decode cJ5_init_d00df 7 = .ok (.ifCond .eq 18, 3) := by decide +kernel
theorem dJ5_init_d00df_10 : decode cJ5_init_d00df 10 = .ok (.aload_n 0, 1) := by decide +kernel
theorem dJ5_init_d00df_11 : decode cJ5_init_d00df 11 = .ok (.iload_n 1, 1) := by decide +kernel
theorem dJ5_init_d00df_12 : decode cJ5_init_d00df 12 = .ok (.newarray .byte, 2) := by decide +kernel
theorem dJ5_init_d00df_14 : decode cJ5_init_d00df 14 = .ok (.putfield 15, 3) := by decide +kernel
theorem dJ5_init_d00df_17 : decode cJ5_init_d00df 17 = .ok (.aload_n 0, 1) := by decide +kernel
theorem dJ5_init_d00df_18 : decode cJ5_init_d00df 18 = .ok (.iconst 0, 1) := by decide +kernel
theorem dJ5_init_d00df_19 : decode cJ5_init_d00df 19 = .ok (.putfield 22, 3) := by decide +kernel
theorem dJ5_init_d00df_22 : decode cJ5_init_d00df 22 = .ok (.goto 16, 3) := by decide +kernel
theorem dJ5_init_d00df_25 : decode cJ5_init_d00df 25 = .ok (.aload_n 0, 1) := by decide +kernel
theorem dJ5_init_d00df_26 : decode cJ5_init_d00df 26 = .ok (.iload_n 1, 1) := by decide +kernel
theorem dJ5_init_d00df_27 : decode cJ5_init_d00df 27 = .ok (.invokestatic 26, 3) := by decide +kernel
theorem dJ5_init_d00df_30 : decode cJ5_init_d00df 30 = .ok (.putfield 15, 3) := by decide +kernel
theorem dJ5_init_d00df_33 : decode cJ5_init_d00df 33 = .ok (.aload_n 0, 1) := by decide +kernel
theorem dJ5_init_d00df_34 : decode cJ5_init_d00df 34 = .ok (.iconst 1, 1) := by decide +kernel
theorem dJ5_init_d00df_35 : decode cJ5_init_d00df 35 = .ok (.putfield 22, 3) := by decide +kernel
theorem dJ5_init_d00df_38 : decode cJ5_init_d00df 38 = .ok (.return_, 1) := by decide +kernel
theorem dJ5_length_8abf5_0 : decode cJ5_length_8abf5 0 = .ok (.aload_n 0, 1) := by decide +kernel
theorem dJ5_length_8abf5_1 : decode cJ5_length_8abf5 1 = .ok (.getfield 79, 3) := by decide +kernel
theorem dJ5_length_8abf5_4 : decode cJ5_length_8abf5 4 = .ok (.ireturn, 1) := by decide +kernel
theorem dJ5_ensureCapacityInternal_d00df_0 : decode cJ5_ensureCapacityInternal_d00df 0 = .ok (.aload_n 0, 1) := by decide +kernel
theorem dJ5_ensureCapacityInternal_d00df_1 : decode cJ5_ensureCapacityInternal_d00df 1 = .ok (.getfield 15, 3) := by decide +kernel
theorem dJ5_ensureCapacityInternal_d00df_4 : decode cJ5_ensureCapacityInternal_d00df 4 = .ok (.arraylength, 1) := by decide +kernel
theorem dJ5_ensureCapacityInternal_d00df_5 : decode cJ5_ensureCapacityInternal_d00df 5 = .ok (.aload_n 0, 1) := by decide +kernel
theorem dJ5_ensureCapacityInternal_d00df_6 : decode cJ5_ensureCapacityInternal_d00df 6 = .ok (.getfield 22, 3) := by decide +kernel
theorem dJ5_ensureCapacityInternal_d00df_9 : decode cJ5_ensureCapacityInternal_d00df 9 = .ok (.ishr, 1) := by decide +kernel
theorem dJ5_ensureCapacityInternal_d00df_10 : decode cJ5_ensureCapacityInternal_d00df 10 = .ok (.istore_n 2, 1) := by decide +kernel
theorem dJ5_ensureCapacityInternal_d00df_11 : decode cJ5_ensureCapacityInternal_d00df 11 = .ok (.iload_n 1, 1) := by decide +kernel
theorem dJ5_ensureCapacityInternal_d00df_12 : decode cJ5_ensureCapacityInternal_d00df 12 = .ok (.iload_n 2, 1) := by decide +kernel
theorem dJ5_ensureCapacityInternal_d00df_13 : decode cJ5_ensureCapacityInternal_d00df 13 = .ok (.isub, 1) := by decide +kernel
theorem dJ5_ensureCapacityInternal_d00df_14 : decode cJ5_ensureCapacityInternal_d00df 14 = .ok (.ifCond .le 24, 3) := by decide +kernel
theorem dJ5_ensureCapacityInternal_d00df_17 : decode cJ5_ensureCapacityInternal_d00df 17 = .ok (.aload_n 0, 1) := by decide +kernel
theorem dJ5_ensureCapacityInternal_d00df_18 : decode cJ5_ensureCapacityInternal_d00df 18 = .ok (.aload_n 0, 1) := by decide +kernel
theorem dJ5_ensureCapacityInternal_d00df_19 : decode cJ5_ensureCapacityInternal_d00df 19 = .ok (.getfield 15, 3) := by decide +kernel
theorem dJ5_ensureCapacityInternal_d00df_22 : decode cJ5_ensureCapacityInternal_d00df 22 = .ok (.aload_n 0, 1) := by decide +kernel
theorem dJ5_ensureCapacityInternal_d00df_23 : decode cJ5_ensureCapacityInternal_d00df 23 = .ok (.iload_n 1, 1) := by decide +kernel
theorem dJ5_ensureCapacityInternal_d00df_24 : decode cJ5_ensureCapacityInternal_d00df 24 = .ok (.invokevirtual 104, 3) := by decide +kernel
theorem dJ5_ensureCapacityInternal_d00df_27 : decode cJ5_ensureCapacityInternal_d00df 27 = .ok (.aload_n 0, 1) := by decide +kernel
theorem dJ5_ensureCapacityInternal_d00df_28 : decode cJ5_ensureCapacityInternal_d00df 28 = .ok (.getfield 22, 3) := by decide +kernel
theorem dJ5_ensureCapacityInternal_d00df_31 : decode cJ5_ensureCapacityInternal_d00df 31 = .ok (.ishl, 1) := by decide +kernel
theorem dJ5_ensureCapacityInternal_d00df_32 : decode cJ5_ensureCapacityInternal_d00df 32 = .ok (.invokestatic 108, 3) := by decide +kernel
theorem dJ5_ensureCapacityInternal_d00df_35 : decode cJ5_ensureCapacityInternal_d00df 35 = .ok (.putfield 15, 3) := by decide +kernel
theorem dJ5_ensureCapacityInternal_d00df_38 : decode cJ5_ensureCapacityInternal_d00df 38 = .ok (.return_, 1) := by decide +kernel
theorem dJ5_newCapacity_0f7a4_0 : decode cJ5_newCapacity_0f7a4 0 = .ok (.aload_n 0, 1) := by decide +kernel
theorem dJ5_newCapacity_0f7a4_1 : decode cJ5_newCapacity_0f7a4 1 = .ok (.getfield 15, 3) := by decide +kernel
theorem dJ5_newCapacity_0f7a4_4 : decode cJ5_newCapacity_0f7a4 4 = .ok (.arraylength, 1) := by decide +kernel
theorem dJ5_newCapacity_0f7a4_5 : decode cJ5_newCapacity_0f7a4 5 = .ok (.istore_n 2, 1) := by decide +kernel
theorem dJ5_newCapacity_0f7a4_6 : decode cJ5_newCapacity_0f7a4 6 = .ok (.iload_n 1, 1) := by decide +kernel
theorem dJ5_newCapacity_0f7a4_7 : decode cJ5_newCapacity_0f7a4 7 = .ok (.aload_n 0, 1) := by decide +kernel
theorem dJ5_newCapacity_0f7a4_8 : decode cJ5_newCapacity_0f7a4 8 = .ok (.getfield 22, 3) := by decide +kernel
theorem dJ5_newCapacity_0f7a4_11 : decode cJ5_newCapacity_0f7a4 11 = .ok (.ishl, 1) := by decide +kernel
theorem dJ5_newCapacity_0f7a4_12 : decode cJ5_newCapacity_0f7a4 12 = .ok (.istore_n 3, 1) := by decide +kernel
theorem dJ5_newCapacity_0f7a4_13 : decode cJ5_newCapacity_0f7a4 13 = .ok (.iload_n 3, 1) := by decide +kernel
theorem dJ5_newCapacity_0f7a4_14 : decode cJ5_newCapacity_0f7a4 14 = .ok (.iload_n 2, 1) := by decide +kernel
theorem dJ5_newCapacity_0f7a4_15 : decode cJ5_newCapacity_0f7a4 15 = .ok (.isub, 1) := by decide +kernel
theorem dJ5_newCapacity_0f7a4_16 : decode cJ5_newCapacity_0f7a4 16 = .ok (.istore 4, 2) := by decide +kernel
theorem dJ5_newCapacity_0f7a4_18 : decode cJ5_newCapacity_0f7a4 18 = .ok (.iload_n 2, 1) := by decide +kernel
theorem dJ5_newCapacity_0f7a4_19 : decode cJ5_newCapacity_0f7a4 19 = .ok (.iload 4, 2) := by decide +kernel
theorem dJ5_newCapacity_0f7a4_21 : decode cJ5_newCapacity_0f7a4 21 = .ok (.iload_n 2, 1) := by decide +kernel
theorem dJ5_newCapacity_0f7a4_22 : decode cJ5_newCapacity_0f7a4 22 = .ok (.iconst 2, 1) := by decide +kernel
theorem dJ5_newCapacity_0f7a4_23 : decode cJ5_newCapacity_0f7a4 23 = .ok (.aload_n 0, 1) := by decide +kernel
theorem dJ5_newCapacity_0f7a4_24 : decode cJ5_newCapacity_0f7a4 24 = .ok (.getfield 22, 3) := by decide +kernel
theorem dJ5_newCapacity_0f7a4_27 : decode cJ5_newCapacity_0f7a4 27 = .ok (.ishl, 1) := by decide +kernel
theorem dJ5_newCapacity_0f7a4_28 : decode cJ5_newCapacity_0f7a4 28 = .ok (.iadd, 1) := by decide +kernel
theorem dJ5_newCapacity_0f7a4_29 : decode cJ5_newCapacity_0f7a4 29 = .ok (.invokestatic 114, 3) := by decide +kernel
theorem dJ5_newCapacity_0f7a4_32 : decode cJ5_newCapacity_0f7a4 32 = .ok (.istore 5, 2) := by decide +kernel
theorem dJ5_newCapacity_0f7a4_34 : decode cJ5_newCapacity_0f7a4 34 = .ok (.iload 5, 2) := by decide +kernel
theorem dJ5_newCapacity_0f7a4_36 : decode cJ5_newCapacity_0f7a4 36 = .ok (.ldc 39, 2) := by decide +kernel
theorem dJ5_newCapacity_0f7a4_38 : decode cJ5_newCapacity_0f7a4 38 = .ok (.if_icmp .ne 13, 3) := by decide +kernel
theorem dJ5_newCapacity_0f7a4_41 : decode cJ5_newCapacity_0f7a4 41 = .ok (.new 120, 3) := by decide +kernel
theorem dJ5_newCapacity_0f7a4_44 : decode cJ5_newCapacity_0f7a4 44 = .ok (.dup, 1) := by decide +kernel
theorem dJ5_newCapacity_0f7a4_45 : decode cJ5_newCapacity_0f7a4 45 = .ok (.ldc 122, 2) := by decide +kernel
theorem dJ5_newCapacity_0f7a4_47 : decode cJ5_newCapacity_0f7a4 47 = .ok (.invokespecial 124, 3) := by decide +kernel
theorem dJ5_newCapacity_0f7a4_50 : decode cJ5_newCapacity_0f7a4 50 = .ok (.athrow, 1) := by decide +kernel
theorem dJ5_newCapacity_0f7a4_51 : decode cJ5_newCapacity_0f7a4 51 = .ok (.iload 5, 2) := by decide +kernel
theorem dJ5_newCapacity_0f7a4_53 : decode cJ5_newCapacity_0f7a4 53 = .ok (.aload_n 0, 1) := by decide +kernel
theorem dJ5_newCapacity_0f7a4_54 : decode cJ5_newCapacity_0f7a4 54 = .ok (.getfield 22, 3) := by decide +kernel
theorem dJ5_newCapacity_0f7a4_57 : decode cJ5_newCapacity_0f7a4 57 = .ok (.ishr, 1) := by decide +kernel
theorem dJ5_newCapacity_0f7a4_58 : decode cJ5_newCapacity_0f7a4 58 = .ok (.ireturn, 1) := by decide +kernel
theorem dJ5_inflate_da8c8_0 : decode cJ5_inflate_da8c8 0 = .ok (.aload_n 0, 1) := by decide +kernel
theorem dJ5_inflate_da8c8_1 : decode cJ5_inflate_da8c8 1 = .ok (.invokevirtual 83, 3) := by decide +kernel
theorem dJ5_inflate_da8c8_4 : decode cJ5_inflate_da8c8 4 = .ok (.ifCond .ne 4, 3) := by decide +kernel
theorem dJ5_inflate_da8c8_7 : decode cJ5_inflate_da8c8 7 = .ok (.return_, 1) := by decide +kernel
theorem dJ5_inflate_da8c8_8 : decode cJ5_inflate_da8c8 8 = .ok (.aload_n 0, 1) := by decide +kernel
theorem dJ5_inflate_da8c8_9 : decode cJ5_inflate_da8c8 9 = .ok (.getfield 15, 3) := by decide +kernel
theorem dJ5_inflate_da8c8_12 : decode cJ5_inflate_da8c8 12 = .ok (.arraylength, 1) := by decide +kernel
theorem dJ5_inflate_da8c8_13 : decode cJ5_inflate_da8c8 13 = .ok (.invokestatic 26, 3) := by decide +kernel
theorem dJ5_inflate_da8c8_16 : decode cJ5_inflate_da8c8 16 = .ok (.astore_n 1, 1) := by decide +kernel
theorem dJ5_inflate_da8c8_17 : decode cJ5_inflate_da8c8 17 = .ok (.aload_n 0, 1) := by decide +kernel
theorem dJ5_inflate_da8c8_18 : decode cJ5_inflate_da8c8 18 = .ok (.getfield 15, 3) := by decide +kernel
theorem dJ5_inflate_da8c8_21 : decode cJ5_inflate_da8c8 21 = .ok (.iconst 0, 1) := by decide +kernel
theorem dJ5_inflate_da8c8_22 : decode cJ5_inflate_da8c8 22 = .ok (.aload_n 1, 1) := by decide +kernel
theorem dJ5_inflate_da8c8_23 : decode cJ5_inflate_da8c8 23 = .ok (.iconst 0, 1) := by decide +kernel
theorem dJ5_inflate_da8c8_24 : decode cJ5_inflate_da8c8 24 = .ok (.aload_n 0, 1) := by decide +kernel
theorem dJ5_inflate_da8c8_25 : decode cJ5_inflate_da8c8 25 = .ok (.getfield 79, 3) := by decide +kernel
theorem dJ5_inflate_da8c8_28 : decode cJ5_inflate_da8c8 28 = .ok (.invokestatic 125, 3) := by decide +kernel
theorem dJ5_inflate_da8c8_31 : decode cJ5_inflate_da8c8 31 = .ok (.aload_n 0, 1) := by decide +kernel
theorem dJ5_inflate_da8c8_32 : decode cJ5_inflate_da8c8 32 = .ok (.aload_n 1, 1) := by decide +kernel
theorem dJ5_inflate_da8c8_33 : decode cJ5_inflate_da8c8 33 = .ok (.putfield 15, 3) := by decide +kernel
theorem dJ5_inflate_da8c8_36 : decode cJ5_inflate_da8c8 36 = .ok (.aload_n 0, 1) := by decide +kernel
theorem dJ5_inflate_da8c8_37 : decode cJ5_inflate_da8c8 37 = .ok (.iconst 1, 1) := by decide +kernel
theorem dJ5_inflate_da8c8_38 : decode cJ5_inflate_da8c8 38 = .ok (.putfield 22, 3) := by decide +kernel
theorem dJ5_inflate_da8c8_41 : decode cJ5_inflate_da8c8 41 = .ok (.return_, 1) := by decide +kernel
theorem dJ5_append_cf1ce_0 : decode cJ5_append_cf1ce 0 = .ok (.aload_n 1, 1) := by decide +kernel
theorem dJ5_append_cf1ce_1 : decode cJ5_append_cf1ce 1 = .ok (.ifnonnull 8, 3) := by decide +kernel
theorem dJ5_append_cf1ce_4 : decode cJ5_append_cf1ce 4 = .ok (.aload_n 0, 1) := by decide +kernel
theorem dJ5_append_cf1ce_5 : decode cJ5_append_cf1ce 5 = .ok (.invokevirtual 204, 3) := by decide +kernel
theorem dJ5_append_cf1ce_8 : decode cJ5_append_cf1ce 8 = .ok (.areturn, 1) := by decide +kernel
theorem dJ5_append_cf1ce_9 : decode cJ5_append_cf1ce 9 = .ok (.aload_n 1, 1) := by decide +kernel
theorem dJ5_append_cf1ce_10 : decode cJ5_append_cf1ce 10 = .ok (.invokevirtual 32, 3) := by decide +kernel
theorem dJ5_append_cf1ce_13 : decode cJ5_append_cf1ce 13 = .ok (.istore_n 2, 1) := by decide +kernel
theorem dJ5_append_cf1ce_14 : decode cJ5_append_cf1ce 14 = .ok (.aload_n 0, 1) := by decide +kernel
theorem dJ5_append_cf1ce_15 : decode cJ5_append_cf1ce 15 = .ok (.aload_n 0, 1) := by decide +kernel
theorem dJ5_append_cf1ce_16 : decode cJ5_append_cf1ce 16 = .ok (.getfield 79, 3) := by decide +kernel
theorem dJ5_append_cf1ce_19 : decode cJ5_append_cf1ce 19 = .ok (.iload_n 2, 1) := by decide +kernel
theorem dJ5_append_cf1ce_20 : decode cJ5_append_cf1ce 20 = .ok (.iadd, 1) := by decide +kernel
theorem dJ5_append_cf1ce_21 : decode cJ5_append_cf1ce 21 = .ok (.invokevirtual 100, 3) := by decide +kernel
theorem dJ5_append_cf1ce_24 : decode cJ5_append_cf1ce 24 = .ok (.aload_n 0, 1) := by decide +kernel
theorem dJ5_append_cf1ce_25 : decode cJ5_append_cf1ce 25 = .ok (.aload_n 0, 1) := by decide +kernel
theorem dJ5_append_cf1ce_26 : decode cJ5_append_cf1ce 26 = .ok (.getfield 79, 3) := by decide +kernel
theorem dJ5_append_cf1ce_29 : decode cJ5_append_cf1ce 29 = .ok (.aload_n 1, 1) := by decide +kernel
theorem dJ5_append_cf1ce_30 : decode cJ5_append_cf1ce 30 = .ok (.invokevirtual 208, 3) := by decide +kernel
theorem dJ5_append_cf1ce_33 : decode cJ5_append_cf1ce 33 = .ok (.aload_n 0, 1) := by decide +kernel
theorem dJ5_append_cf1ce_34 : decode cJ5_append_cf1ce 34 = .ok (.dup, 1) := by decide +kernel
theorem dJ5_append_cf1ce_35 : decode cJ5_append_cf1ce 35 = .ok (.getfield 79, 3) := by decide +kernel
theorem dJ5_append_cf1ce_38 : decode cJ5_append_cf1ce 38 = .ok (.iload_n 2, 1) := by decide +kernel
theorem dJ5_append_cf1ce_39 : decode cJ5_append_cf1ce 39 = .ok (.iadd, 1) := by decide +kernel
theorem dJ5_append_cf1ce_40 : decode cJ5_append_cf1ce 40 = .ok (.putfield 79, 3) := by decide +kernel
theorem dJ5_append_cf1ce_43 : decode cJ5_append_cf1ce 43 = .ok (.aload_n 0, 1) := by decide +kernel
theorem dJ5_append_cf1ce_44 : decode cJ5_append_cf1ce 44 = .ok (.areturn, 1) := by decide +kernel
theorem dJ5_appendNull_278bc_0 : decode cJ5_appendNull_278bc 0 = .ok (.aload_n 0, 1) := by decide +kernel
theorem dJ5_appendNull_278bc_1 : decode cJ5_appendNull_278bc 1 = .ok (.aload_n 0, 1) := by decide +kernel
theorem dJ5_appendNull_278bc_2 : decode cJ5_appendNull_278bc 2 = .ok (.getfield 79, 3) := by decide +kernel
theorem dJ5_appendNull_278bc_5 : decode cJ5_appendNull_278bc 5 = .ok (.iconst 4, 1) := by decide +kernel
theorem dJ5_appendNull_278bc_6 : decode cJ5_appendNull_278bc 6 = .ok (.iadd, 1) := by decide +kernel
theorem dJ5_appendNull_278bc_7 : decode cJ5_appendNull_278bc 7 = .ok (.invokevirtual 100, 3) := by decide +kernel
theorem dJ5_appendNull_278bc_10 : decode cJ5_appendNull_278bc 10 = .ok (.aload_n 0, 1) := by decide +kernel
theorem dJ5_appendNull_278bc_11 : decode cJ5_appendNull_278bc 11 = .ok (.getfield 79, 3) := by decide +kernel
theorem dJ5_appendNull_278bc_14 : decode cJ5_appendNull_278bc 14 = .ok (.istore_n 1, 1) := by decide +kernel
theorem dJ5_appendNull_278bc_15 : decode cJ5_appendNull_278bc 15 = .ok (.aload_n 0, 1) := by decide +kernel
theorem dJ5_appendNull_278bc_16 : decode cJ5_appendNull_278bc 16 = .ok (.getfield 15, 3) := by decide +kernel
theorem dJ5_appendNull_278bc_19 : decode cJ5_appendNull_278bc 19 = .ok (.astore_n 2, 1) := by decide +kernel
theorem dJ5_appendNull_278bc_20 : decode cJ5_appendNull_278bc 20 = .ok (.aload_n 0, 1) := by decide +kernel
theorem dJ5_appendNull_278bc_21 : decode cJ5_appendNull_278bc 21 = .ok (.invokevirtual 83, 3) := by decide +kernel
theorem dJ5_appendNull_278bc_24 : decode cJ5_appendNull_278bc 24 = .ok (.ifCond .eq 38, 3) := by decide +kernel
theorem dJ5_appendNull_278bc_27 : decode cJ5_appendNull_278bc 27 = .ok (.aload_n 2, 1) := by decide +kernel
theorem dJ5_appendNull_278bc_28 : decode cJ5_appendNull_278bc 28 = .ok (.iload_n 1, 1) := by decide +kernel
theorem dJ5_appendNull_278bc_29 : decode cJ5_appendNull_278bc 29 = .ok (.iinc 1 1, 3) := by decide +kernel
theorem dJ5_appendNull_278bc_32 : decode cJ5_appendNull_278bc 32 = .ok (.bipush 110, 2) := by decide +kernel
theorem dJ5_appendNull_278bc_34 : decode cJ5_appendNull_278bc 34 = .ok (.bastore, 1) := by decide +kernel
theorem dJ5_appendNull_278bc_35 : decode cJ5_appendNull_278bc 35 = .ok (.aload_n 2, 1) := by decide +kernel
theorem dJ5_appendNull_278bc_36 : decode cJ5_appendNull_278bc 36 = .ok (.iload_n 1, 1) := by decide +kernel
theorem dJ5_appendNull_278bc_37 : decode cJ5_appendNull_278bc 37 = .ok (.iinc 1 1, 3) := by decide +kernel
theorem dJ5_appendNull_278bc_40 : decode cJ5_appendNull_278bc 40 = .ok (.bipush 117, 2) := by decide +kernel
theorem dJ5_appendNull_278bc_42 : decode cJ5_appendNull_278bc 42 = .ok (.bastore, 1) := by decide +kernel
theorem dJ5_appendNull_278bc_43 : decode cJ5_appendNull_278bc 43 = .ok (.aload_n 2, 1) := by decide +kernel
theorem dJ5_appendNull_278bc_44 : decode cJ5_appendNull_278bc 44 = .ok (.iload_n 1, 1) := by decide +kernel
theorem dJ5_appendNull_278bc_45 : decode cJ5_appendNull_278bc 45 = .ok (.iinc 1 1, 3) := by decide +kernel
theorem dJ5_appendNull_278bc_48 : decode cJ5_appendNull_278bc 48 = .ok (.bipush 108, 2) := by decide +kernel
theorem dJ5_appendNull_278bc_50 : decode cJ5_appendNull_278bc 50 = .ok (.bastore, 1) := by decide +kernel
theorem dJ5_appendNull_278bc_51 : decode cJ5_appendNull_278bc 51 = .ok (.aload_n 2, 1) := by decide +kernel
theorem dJ5_appendNull_278bc_52 : decode cJ5_appendNull_278bc 52 = .ok (.iload_n 1, 1) := by decide +kernel
theorem dJ5_appendNull_278bc_53 : decode cJ5_appendNull_278bc 53 = .ok (.iinc 1 1, 3) := by decide +kernel
theorem dJ5_appendNull_278bc_56 : decode cJ5_appendNull_278bc 56 = .ok (.bipush 108, 2) := by decide +kernel
theorem dJ5_appendNull_278bc_58 : decode cJ5_appendNull_278bc 58 = .ok (.bastore, 1) := by decide +kernel
theorem dJ5_appendNull_278bc_59 : decode cJ5_appendNull_278bc 59 = .ok (.goto 17, 3) := by decide +kernel
theorem dJ5_appendNull_278bc_62 : decode cJ5_appendNull_278bc 62 = .ok (.aload_n 2, 1) := by decide +kernel
theorem dJ5_appendNull_278bc_63 : decode cJ5_appendNull_278bc 63 = .ok (.iload_n 1, 1) := by decide +kernel
theorem dJ5_appendNull_278bc_64 : decode cJ5_appendNull_278bc 64 = .ok (.bipush 110, 2) := by decide +kernel
theorem dJ5_appendNull_278bc_66 : decode cJ5_appendNull_278bc 66 = .ok (.bipush 117, 2) := by decide +kernel
theorem dJ5_appendNull_278bc_68 : decode cJ5_appendNull_278bc 68 = .ok (.bipush 108, 2) := by decide +kernel
theorem dJ5_appendNull_278bc_70 : decode cJ5_appendNull_278bc 70 = .ok (.bipush 108, 2) := by decide +kernel
theorem dJ5_appendNull_278bc_72 : decode cJ5_appendNull_278bc 72 = .ok (.invokestatic 226, 3) := by decide +kernel
theorem dJ5_appendNull_278bc_75 : decode cJ5_appendNull_278bc 75 = .ok (.istore_n 1, 1) := by decide +kernel
theorem dJ5_appendNull_278bc_76 : decode cJ5_appendNull_278bc 76 = .ok (.aload_n 0, 1) := by decide +kernel
theorem dJ5_appendNull_278bc_77 : decode cJ5_appendNull_278bc 77 = .ok (.iload_n 1, 1) := by decide +kernel
theorem dJ5_appendNull_278bc_78 : decode cJ5_appendNull_278bc 78 = .ok (.putfield 79, 3) := by decide +kernel
theorem dJ5_appendNull_278bc_81 : decode cJ5_appendNull_278bc 81 = .ok (.aload_n 0, 1) := by decide +kernel
theorem dJ5_appendNull_278bc_82 : decode cJ5_appendNull_278bc 82 = .ok (.areturn, 1) := by decide +kernel
theorem dJ5_append_c97b9_0 : decode cJ5_append_c97b9 0 = .ok (.aload_n 0, 1) := by decide +kernel
theorem dJ5_append_c97b9_1 : decode cJ5_append_c97b9 1 = .ok (.getfield 79, 3) := by decide +kernel
theorem dJ5_append_c97b9_4 : decode cJ5_append_c97b9 4 = .ok (.istore_n 2, 1) := by decide +kernel
theorem dJ5_append_c97b9_5 : decode cJ5_append_c97b9 5 = .ok (.iload_n 2, 1) := by decide +kernel
theorem dJ5_append_c97b9_6 : decode cJ5_append_c97b9 6 = .ok (.iload_n 1, 1) := by decide +kernel
theorem dJ5_append_c97b9_7 : decode cJ5_append_c97b9 7 = .ok (.invokestatic 245, 3) := by decide +kernel
theorem dJ5_append_c97b9_10 : decode cJ5_append_c97b9 10 = .ok (.iadd, 1) := by decide +kernel
theorem dJ5_append_c97b9_11 : decode cJ5_append_c97b9 11 = .ok (.istore_n 3, 1) := by decide +kernel
theorem dJ5_append_c97b9_12 : decode cJ5_append_c97b9 12 = .ok (.aload_n 0, 1) := by decide +kernel
theorem dJ5_append_c97b9_13 : decode cJ5_append_c97b9 13 = .ok (.iload_n 3, 1) := by decide +kernel
theorem dJ5_append_c97b9_14 : decode cJ5_append_c97b9 14 = .ok (.invokevirtual 100, 3) := by decide +kernel
theorem dJ5_append_c97b9_17 : decode cJ5_append_c97b9 17 = .ok (.aload_n 0, 1) := by decide +kernel
theorem dJ5_append_c97b9_18 : decode cJ5_append_c97b9 18 = .ok (.invokevirtual 83, 3) := by decide +kernel
theorem dJ5_append_c97b9_21 : decode cJ5_append_c97b9 21 = .ok (.ifCond .eq 16, 3) := by decide +kernel
theorem dJ5_append_c97b9_24 : decode cJ5_append_c97b9 24 = .ok (.iload_n 1, 1) := by decide +kernel
theorem dJ5_append_c97b9_25 : decode cJ5_append_c97b9 25 = .ok (.iload_n 3, 1) := by decide +kernel
theorem dJ5_append_c97b9_26 : decode cJ5_append_c97b9 26 = .ok (.aload_n 0, 1) := by decide +kernel
theorem dJ5_append_c97b9_27 : decode cJ5_append_c97b9 27 = .ok (.getfield 15, 3) := by decide +kernel
theorem dJ5_append_c97b9_30 : decode cJ5_append_c97b9 30 = .ok (.invokestatic 248, 3) := by decide +kernel
theorem dJ5_append_c97b9_33 : decode cJ5_append_c97b9 33 = .ok (.pop, 1) := by decide +kernel
theorem dJ5_append_c97b9_34 : decode cJ5_append_c97b9 34 = .ok (.goto 14, 3) := by decide +kernel
theorem dJ5_append_c97b9_37 : decode cJ5_append_c97b9 37 = .ok (.iload_n 1, 1) := by decide +kernel
theorem dJ5_append_c97b9_38 : decode cJ5_append_c97b9 38 = .ok (.iload_n 2, 1) := by decide +kernel
theorem dJ5_append_c97b9_39 : decode cJ5_append_c97b9 39 = .ok (.iload_n 3, 1) := by decide +kernel
theorem dJ5_append_c97b9_40 : decode cJ5_append_c97b9 40 = .ok (.aload_n 0, 1) := by decide +kernel
theorem dJ5_append_c97b9_41 : decode cJ5_append_c97b9 41 = .ok (.getfield 15, 3) := by decide +kernel
theorem dJ5_append_c97b9_44 : decode cJ5_append_c97b9 44 = .ok (.invokestatic 251, 3) := by decide +kernel
theorem dJ5_append_c97b9_47 : decode cJ5_append_c97b9 47 = .ok (.pop, 1) := by decide +kernel
theorem dJ5_append_c97b9_48 : decode cJ5_append_c97b9 48 = .ok (.aload_n 0, 1) := by decide +kernel
theorem dJ5_append_c97b9_49 : decode cJ5_append_c97b9 49 = .ok (.iload_n 3, 1) := by decide +kernel
theorem dJ5_append_c97b9_50 : decode cJ5_append_c97b9 50 = .ok (.putfield 79, 3) := by decide +kernel
theorem dJ5_append_c97b9_53 : decode cJ5_append_c97b9 53 = .ok (.aload_n 0, 1) := by decide +kernel
theorem dJ5_append_c97b9_54 : decode cJ5_append_c97b9 54 = .ok (.areturn, 1) := by decide +kernel
theorem dJ5_getValue_6d5f1_0 : decode cJ5_getValue_6d5f1 0 = .ok (.aload_n 0, 1) := by decide +kernel
theorem dJ5_getValue_6d5f1_1 : decode cJ5_getValue_6d5f1 1 = .ok (.getfield 15, 3) := by decide +kernel
theorem dJ5_getValue_6d5f1_4 : decode cJ5_getValue_6d5f1 4 = .ok (.areturn, 1) := by decide +kernel
theorem dJ5_isLatin1_aae02_0 : decode cJ5_isLatin1_aae02 0 = .ok (.getstatic 18, 3) := by decide +kernel
theorem dJ5_isLatin1_aae02_3 : decode cJ5_isLatin1_aae02 3 = .ok (.ifCond .eq 14, 3) := by decide +kernel
theorem dJ5_isLatin1_aae02_6 : decode cJ5_isLatin1_aae02 6 = .ok (.aload_n 0, 1) := by decide +kernel
theorem dJ5_isLatin1_aae02_7 : decode cJ5_isLatin1_aae02 7 = .ok (.getfield 22, 3) := by decide +kernel
theorem dJ5_isLatin1_aae02_10 : decode cJ5_isLatin1_aae02 10 = .ok (.ifCond .ne 7, 3) := by decide +kernel
theorem dJ5_isLatin1_aae02_13 : decode cJ5_isLatin1_aae02 13 = .ok (.iconst 1, 1) := by decide +kernel
theorem dJ5_isLatin1_aae02_14 : decode cJ5_isLatin1_aae02 14 = .ok (.goto 4, 3) := by decide +kernel
theorem dJ5_isLatin1_aae02_17 : decode cJ5_isLatin1_aae02 17 = .ok (.iconst 0, 1) := by decide +kernel
theorem dJ5_isLatin1_aae02_18 : decode cJ5_isLatin1_aae02 18 = .ok (.ireturn, 1) := by decide +kernel
theorem dJ5_inflateIfNeededFor_a7421_0 : decode cJ5_inflateIfNeededFor_a7421 0 = .ok (.getstatic 18, 3) := by decide +kernel
theorem dJ5_inflateIfNeededFor_a7421_3 : decode cJ5_inflateIfNeededFor_a7421 3 = .ok (.ifCond .eq 18, 3) := by decide +kernel
theorem dJ5_inflateIfNeededFor_a7421_6 : decode cJ5_inflateIfNeededFor_a7421 6 = .ok (.aload_n 0, 1) := by decide +kernel
theorem dJ5_inflateIfNeededFor_a7421_7 : decode cJ5_inflateIfNeededFor_a7421 7 = .ok (.getfield 22, 3) := by decide +kernel
theorem dJ5_inflateIfNeededFor_a7421_10 : decode cJ5_inflateIfNeededFor_a7421 10 = .ok (.aload_n 1, 1) := by decide +kernel
theorem dJ5_inflateIfNeededFor_a7421_11 : decode cJ5_inflateIfNeededFor_a7421 11 = .ok (.invokevirtual 40, 3) := by decide +kernel
theorem dJ5_inflateIfNeededFor_a7421_14 : decode cJ5_inflateIfNeededFor_a7421 14 = .ok (.if_icmp .eq 7, 3) := by decide +kernel
theorem dJ5_inflateIfNeededFor_a7421_17 : decode cJ5_inflateIfNeededFor_a7421 17 = .ok (.aload_n 0, 1) := by decide +kernel
theorem dJ5_inflateIfNeededFor_a7421_18 : decode cJ5_inflateIfNeededFor_a7421 18 = .ok (.invokevirtual 195, 3) := by decide +kernel
theorem dJ5_inflateIfNeededFor_a7421_21 : decode cJ5_inflateIfNeededFor_a7421 21 = .ok (.return_, 1) := by decide +kernel
theorem dJ5_putStringAt_47b60_0 : decode cJ5_putStringAt_47b60 0 = .ok (.aload_n 0, 1) := by decide +kernel
theorem dJ5_putStringAt_47b60_1 : decode cJ5_putStringAt_47b60 1 = .ok (.aload_n 2, 1) := by decide +kernel
theorem dJ5_putStringAt_47b60_2 : decode cJ5_putStringAt_47b60 2 = .ok (.invokevirtual 397, 3) := by decide +kernel
theorem dJ5_putStringAt_47b60_5 : decode cJ5_putStringAt_47b60 5 = .ok (.aload_n 2, 1) := by decide +kernel
theorem dJ5_putStringAt_47b60_6 : decode cJ5_putStringAt_47b60 6 = .ok (.aload_n 0, 1) := by decide +kernel
theorem dJ5_putStringAt_47b60_7 : decode cJ5_putStringAt_47b60 7 = .ok (.getfield 15, 3) := by decide +kernel
theorem dJ5_putStringAt_47b60_10 : decode cJ5_putStringAt_47b60 10 = .ok (.iload_n 1, 1) := by decide +kernel
theorem dJ5_putStringAt_47b60_11 : decode cJ5_putStringAt_47b60 11 = .ok (.aload_n 0, 1) := by decide +kernel
theorem dJ5_putStringAt_47b60_12 : decode cJ5_putStringAt_47b60 12 = .ok (.getfield 22, 3) := by decide +kernel
theorem dJ5_putStringAt_47b60_15 : decode cJ5_putStringAt_47b60 15 = .ok (.invokevirtual 399, 3) := by decide +kernel
theorem dJ5_putStringAt_47b60_18 : decode cJ5_putStringAt_47b60 18 = .ok (.return_, 1) := by decide +kernel
theorem dJx00060_init_a7421_0 : decode cJx00060_init_a7421 0 = .ok (.aload_n 0, 1) := by decide +kernel
theorem dJx00060_init_a7421_1 : decode cJx00060_init_a7421 1 = .ok (.aload_n 1, 1) := by decide +kernel
theorem dJx00060_init_a7421_2 : decode cJx00060_init_a7421 2 = .ok (.invokespecial 7, 3) := by decide +kernel
theorem dJx00060_init_a7421_5 : decode cJx00060_init_a7421 5 = .ok (.return_, 1) := by decide +kernel
theorem dJx29ce0_ordinal_8abf5_0 : decode cJx29ce0_ordinal_8abf5 0 = .ok (.aload_n 0, 1) := by decide +kernel
theorem dJx29ce0_ordinal_8abf5_1 : decode cJx29ce0_ordinal_8abf5 1 = .ok (.getfield 7, 3) := by decide +kernel
theorem dJx29ce0_ordinal_8abf5_4 : decode cJx29ce0_ordinal_8abf5 4 = .ok (.ireturn, 1) := by decide +kernel
theorem dJ6_getChars_ba4f3_0 : decode cJ6_getChars_ba4f3 0 = .ok (.iload_n 1, 1) := by decide +kernel
theorem dJ6_getChars_ba4f3_1 : decode cJ6_getChars_ba4f3 1 = .ok (.istore 5, 2) := by decide +kernel
theorem dJ6_getChars_ba4f3_3 : decode cJ6_getChars_ba4f3 3 = .ok (.iload_n 0, 1) := by decide +kernel
theorem dJ6_getChars_ba4f3_4 : decode cJ6_getChars_ba4f3 4 = .ok (.ifCond .ge 7, 3) := by decide +kernel
theorem dJ6_getChars_ba4f3_7 : decode cJ6_getChars_ba4f3 7 = .ok (.iconst 1, 1) := by decide +kernel
theorem dJ6_getChars_ba4f3_8 : decode cJ6_getChars_ba4f3 8 = .ok (.goto 4, 3) := by decide +kernel
theorem dJ6_getChars_ba4f3_11 : decode cJ6_getChars_ba4f3 11 = .ok (.iconst 0, 1) := by decide +kernel
theorem dJ6_getChars_ba4f3_12 : decode cJ6_getChars_ba4f3 12 = .ok (.istore 6, 2) := by decide +kernel
theorem dJ6_getChars_ba4f3_14 : decode cJ6_getChars_ba4f3 14 = .ok (.iload 6, 2) := by decide +kernel
theorem dJ6_getChars_ba4f3_16 : decode cJ6_getChars_ba4f3 16 = .ok (.ifCond .ne 6, 3) := by decide +kernel
theorem dJ6_getChars_ba4f3_19 : decode cJ6_getChars_ba4f3 19 = .ok (.iload_n 0, 1) := by decide +kernel
theorem dJ6_getChars_ba4f3_20 : decode cJ6_getChars_ba4f3 20 = .ok (.ineg, 1) := by decide +kernel
theorem dJ6_getChars_ba4f3_21 : decode cJ6_getChars_ba4f3 21 = .ok (.istore_n 0, 1) := by decide +kernel
theorem dJ6_getChars_ba4f3_22 : decode cJ6_getChars_ba4f3 22 = .ok (.iload_n 0, 1) := by decide +kernel
theorem dJ6_getChars_ba4f3_23 : decode cJ6_getChars_ba4f3 23 = .ok (.bipush (-100), 2) := by decide +kernel
theorem dJ6_getChars_ba4f3_25 : decode cJ6_getChars_ba4f3 25 = .ok (.if_icmp .gt 47, 3) := by decide +kernel
theorem dJ6_getChars_ba4f3_28 : decode cJ6_getChars_ba4f3 28 = .ok (.iload_n 0, 1) := by decide +kernel
theorem dJ6_getChars_ba4f3_29 : decode cJ6_getChars_ba4f3 29 = .ok (.bipush 100, 2) := by decide +kernel
theorem dJ6_getChars_ba4f3_31 : decode cJ6_getChars_ba4f3 31 = .ok (.idiv, 1) := by decide +kernel
theorem dJ6_getChars_ba4f3_32 : decode cJ6_getChars_ba4f3 32 = .ok (.istore_n 3, 1) := by decide +kernel
theorem dJ6_getChars_ba4f3_33 : decode cJ6_getChars_ba4f3 33 = .ok (.iload_n 3, 1) := by decide +kernel
theorem dJ6_getChars_ba4f3_34 : decode cJ6_getChars_ba4f3 34 = .ok (.bipush 100, 2) := by decide +kernel
theorem dJ6_getChars_ba4f3_36 : decode cJ6_getChars_ba4f3 36 = .ok (.imul, 1) := by decide +kernel
theorem dJ6_getChars_ba4f3_37 : decode cJ6_getChars_ba4f3 37 = .ok (.iload_n 0, 1) := by decide +kernel
theorem dJ6_getChars_ba4f3_38 : decode cJ6_getChars_ba4f3 38 = .ok (.isub, 1) := by decide +kernel
theorem dJ6_getChars_ba4f3_39 : decode cJ6_getChars_ba4f3 39 = .ok (.istore 4, 2) := by decide +kernel
theorem dJ6_getChars_ba4f3_41 : decode cJ6_getChars_ba4f3 41 = .ok (.iload_n 3, 1) := by decide +kernel
theorem dJ6_getChars_ba4f3_42 : decode cJ6_getChars_ba4f3 42 = .ok (.istore_n 0, 1) := by decide +kernel
theorem dJ6_getChars_ba4f3_43 : decode cJ6_getChars_ba4f3 43 = .ok (.aload_n 2, 1) := by decide +kernel
theorem dJ6_getChars_ba4f3_44 : decode cJ6_getChars_ba4f3 44 = .ok (.iinc 5 (-1), 3) := by decide +kernel
theorem dJ6_getChars_ba4f3_47 : decode cJ6_getChars_ba4f3 47 = .ok (.iload 5, 2) := by decide +kernel
theorem dJ6_getChars_ba4f3_49 : decode cJ6_getChars_ba4f3 49 = .ok (.getstatic 83, 3) := by decide +kernel
theorem dJ6_getChars_ba4f3_52 : decode cJ6_getChars_ba4f3 52 = .ok (.iload 4, 2) := by decide +kernel
theorem dJ6_getChars_ba4f3_54 : decode cJ6_getChars_ba4f3 54 = .ok (.baload, 1) := by decide +kernel
theorem dJ6_getChars_ba4f3_55 : decode cJ6_getChars_ba4f3 55 = .ok (.bastore, 1) := by decide +kernel
theorem dJ6_getChars_ba4f3_56 : decode cJ6_getChars_ba4f3 56 = .ok (.aload_n 2, 1) := by decide +kernel
theorem dJ6_getChars_ba4f3_57 : decode cJ6_getChars_ba4f3 57 = .ok (.iinc 5 (-1), 3) := by decide +kernel
theorem dJ6_getChars_ba4f3_60 : decode cJ6_getChars_ba4f3 60 = .ok (.iload 5, 2) := by decide +kernel
theorem dJ6_getChars_ba4f3_62 : decode cJ6_getChars_ba4f3 62 = .ok (.getstatic 87, 3) := by decide +kernel
theorem dJ6_getChars_ba4f3_65 : decode cJ6_getChars_ba4f3 65 = .ok (.iload 4, 2) := by decide +kernel
theorem dJ6_getChars_ba4f3_67 : decode cJ6_getChars_ba4f3 67 = .ok (.baload, 1) := by decide +kernel
theorem dJ6_getChars_ba4f3_68 : decode cJ6_getChars_ba4f3 68 = .ok (.bastore, 1) := by decide +kernel
theorem dJ6_getChars_ba4f3_69 : decode cJ6_getChars_ba4f3 69 = .ok (.goto (-47), 3) := by decide +kernel
theorem dJ6_getChars_ba4f3_72 : decode cJ6_getChars_ba4f3 72 = .ok (.aload_n 2, 1) := by decide +kernel
theorem dJ6_getChars_ba4f3_73 : decode cJ6_getChars_ba4f3 73 = .ok (.iinc 5 (-1), 3) := by decide +kernel
theorem dJ6_getChars_ba4f3_76 : decode cJ6_getChars_ba4f3 76 = .ok (.iload 5, 2) := by decide +kernel
theorem dJ6_getChars_ba4f3_78 : decode cJ6_getChars_ba4f3 78 = .ok (.getstatic 83, 3) := by decide +kernel
theorem dJ6_getChars_ba4f3_81 : decode cJ6_getChars_ba4f3 81 = .ok (.iload_n 0, 1) := by decide +kernel
theorem dJ6_getChars_ba4f3_82 : decode cJ6_getChars_ba4f3 82 = .ok (.ineg, 1) := by decide +kernel
theorem dJ6_getChars_ba4f3_83 : decode cJ6_getChars_ba4f3 83 = .ok (.baload, 1) := by decide +kernel
theorem dJ6_getChars_ba4f3_84 : decode cJ6_getChars_ba4f3 84 = .ok (.bastore, 1) := by decide +kernel
theorem dJ6_getChars_ba4f3_85 : decode cJ6_getChars_ba4f3 85 = .ok (.iload_n 0, 1) := by decide +kernel
theorem dJ6_getChars_ba4f3_86 : decode cJ6_getChars_ba4f3 86 = .ok (.bipush (-9), 2) := by decide +kernel
theorem dJ6_getChars_ba4f3_88 : decode cJ6_getChars_ba4f3 88 = .ok (.if_icmp .ge 16, 3) := by decide +kernel
theorem dJ6_getChars_ba4f3_91 : decode cJ6_getChars_ba4f3 91 = .ok (.aload_n 2, 1) := by decide +kernel
theorem dJ6_getChars_ba4f3_92 : decode cJ6_getChars_ba4f3 92 = .ok (.iinc 5 (-1), 3) := by decide +kernel
theorem dJ6_getChars_ba4f3_95 : decode cJ6_getChars_ba4f3 95 = .ok (.iload 5, 2) := by decide +kernel
theorem dJ6_getChars_ba4f3_97 : decode cJ6_getChars_ba4f3 97 = .ok (.getstatic 87, 3) := by decide +kernel
theorem dJ6_getChars_ba4f3_100 : decode cJ6_getChars_ba4f3 100 = .ok (.iload_n 0, 1) := by decide +kernel
theorem dJ6_getChars_ba4f3_101 : decode cJ6_getChars_ba4f3 101 = .ok (.ineg, 1) := by decide +kernel
theorem dJ6_getChars_ba4f3_102 : decode cJ6_getChars_ba4f3 102 = .ok (.baload, 1) := by decide +kernel
theorem dJ6_getChars_ba4f3_103 : decode cJ6_getChars_ba4f3 103 = .ok (.bastore, 1) := by decide +kernel
theorem dJ6_getChars_ba4f3_104 : decode cJ6_getChars_ba4f3 104 = .ok (.iload 6, 2) := by decide +kernel
theorem dJ6_getChars_ba4f3_106 : decode cJ6_getChars_ba4f3 106 = .ok (.ifCond .eq 12, 3) := by decide +kernel
theorem dJ6_getChars_ba4f3_109 : decode cJ6_getChars_ba4f3 109 = .ok (.aload_n 2, 1) := by decide +kernel
theorem dJ6_getChars_ba4f3_110 : decode cJ6_getChars_ba4f3 110 = .ok (.iinc 5 (-1), 3) := by decide +kernel
theorem dJ6_getChars_ba4f3_113 : decode cJ6_getChars_ba4f3 113 = .ok (.iload 5, 2) := by decide +kernel
theorem dJ6_getChars_ba4f3_115 : decode cJ6_getChars_ba4f3 115 = .ok (.bipush 45, 2) := by decide +kernel
theorem dJ6_getChars_ba4f3_117 : decode cJ6_getChars_ba4f3 117 = .ok (.bastore, 1) := by decide +kernel
theorem dJ6_getChars_ba4f3_118 : decode cJ6_getChars_ba4f3 118 = .ok (.iload 5, 2) := by decide +kernel
theorem dJ6_getChars_ba4f3_120 : decode cJ6_getChars_ba4f3 120 = .ok (.ireturn, 1) := by decide +kernel
theorem dJ6_stringSize_0f7a4_0 : decode cJ6_stringSize_0f7a4 0 = .ok (.iconst 1, 1) := by decide +kernel
theorem dJ6_stringSize_0f7a4_1 : decode cJ6_stringSize_0f7a4 1 = .ok (.istore_n 1, 1) := by decide +kernel
theorem dJ6_stringSize_0f7a4_2 : decode cJ6_stringSize_0f7a4 2 = .ok (.iload_n 0, 1) := by decide +kernel
theorem dJ6_stringSize_0f7a4_3 : decode cJ6_stringSize_0f7a4 3 = .ok (.ifCond .lt 8, 3) := by decide +kernel
theorem dJ6_stringSize_0f7a4_6 : decode cJ6_stringSize_0f7a4 6 = .ok (.iconst 0, 1) := by decide +kernel
theorem dJ6_stringSize_0f7a4_7 : decode cJ6_stringSize_0f7a4 7 = .ok (.istore_n 1, 1) := by decide +kernel
theorem dJ6_stringSize_0f7a4_8 : decode cJ6_stringSize_0f7a4 8 = .ok (.iload_n 0, 1) := by decide +kernel
theorem dJ6_stringSize_0f7a4_9 : decode cJ6_stringSize_0f7a4 9 = .ok (.ineg, 1) := by decide +kernel
theorem dJ6_stringSize_0f7a4_10 : decode cJ6_stringSize_0f7a4 10 = .ok (.istore_n 0, 1) := by decide +kernel
theorem dJ6_stringSize_0f7a4_11 : decode cJ6_stringSize_0f7a4 11 = .ok (.bipush (-10), 2) := by decide +kernel
theorem dJ6_stringSize_0f7a4_13 : decode cJ6_stringSize_0f7a4 13 = .ok (.istore_n 2, 1) := by decide +kernel
theorem dJ6_stringSize_0f7a4_14 : decode cJ6_stringSize_0f7a4 14 = .ok (.iconst 1, 1) := by decide +kernel
theorem dJ6_stringSize_0f7a4_15 : decode cJ6_stringSize_0f7a4 15 = .ok (.istore_n 3, 1) := by decide +kernel
theorem dJ6_stringSize_0f7a4_16 : decode cJ6_stringSize_0f7a4 16 = .ok (.iload_n 3, 1) := by decide +kernel
theorem dJ6_stringSize_0f7a4_17 : decode cJ6_stringSize_0f7a4 17 = .ok (.bipush 10, 2) := by decide +kernel
theorem dJ6_stringSize_0f7a4_19 : decode cJ6_stringSize_0f7a4 19 = .ok (.if_icmp .ge 23, 3) := by decide +kernel
theorem dJ6_stringSize_0f7a4_22 : decode cJ6_stringSize_0f7a4 22 = .ok (.iload_n 0, 1) := by decide +kernel
theorem dJ6_stringSize_0f7a4_23 : decode cJ6_stringSize_0f7a4 23 = .ok (.iload_n 2, 1) := by decide +kernel
theorem dJ6_stringSize_0f7a4_24 : decode cJ6_stringSize_0f7a4 24 = .ok (.if_icmp .le 7, 3) := by decide +kernel
theorem dJ6_stringSize_0f7a4_27 : decode cJ6_stringSize_0f7a4 27 = .ok (.iload_n 3, 1) := by decide +kernel
theorem dJ6_stringSize_0f7a4_28 : decode cJ6_stringSize_0f7a4 28 = .ok (.iload_n 1, 1) := by decide +kernel
theorem dJ6_stringSize_0f7a4_29 : decode cJ6_stringSize_0f7a4 29 = .ok (.iadd, 1) := by decide +kernel
theorem dJ6_stringSize_0f7a4_30 : decode cJ6_stringSize_0f7a4 30 = .ok (.ireturn, 1) := by decide +kernel
theorem dJ6_stringSize_0f7a4_31 : decode cJ6_stringSize_0f7a4 31 = .ok (.bipush 10, 2) := by decide +kernel
theorem dJ6_stringSize_0f7a4_33 : decode cJ6_stringSize_0f7a4 33 = .ok (.iload_n 2, 1) := by decide +kernel
theorem dJ6_stringSize_0f7a4_34 : decode cJ6_stringSize_0f7a4 34 = .ok (.imul, 1) := by decide +kernel
theorem dJ6_stringSize_0f7a4_35 : decode cJ6_stringSize_0f7a4 35 = .ok (.istore_n 2, 1) := by decide +kernel
theorem dJ6_stringSize_0f7a4_36 : decode cJ6_stringSize_0f7a4 36 = .ok (.iinc 3 1, 3) := by decide +kernel
theorem dJ6_stringSize_0f7a4_39 : decode cJ6_stringSize_0f7a4 39 = .ok (.goto (-23), 3) := by decide +kernel
theorem dJ6_stringSize_0f7a4_42 : decode cJ6_stringSize_0f7a4 42 = .ok (.bipush 10, 2) := by decide +kernel
theorem dJ6_stringSize_0f7a4_44 : decode cJ6_stringSize_0f7a4 44 = .ok (.iload_n 1, 1) := by decide +kernel
theorem dJ6_stringSize_0f7a4_45 : decode cJ6_stringSize_0f7a4 45 = .ok (.iadd, 1) := by decide +kernel
theorem dJ6_stringSize_0f7a4_46 : decode cJ6_stringSize_0f7a4 46 = .ok (.ireturn, 1) := by decide +kernel
theorem dJ6_bitCount_0f7a4_0 : decode cJ6_bitCount_0f7a4 0 = .ok (.iload_n 0, 1) := by decide +kernel
theorem dJ6_bitCount_0f7a4_1 : decode cJ6_bitCount_0f7a4 1 = .ok (.iload_n 0, 1) := by decide +kernel
theorem dJ6_bitCount_0f7a4_2 : decode cJ6_bitCount_0f7a4 2 = .ok (.iconst 1, 1) := by decide +kernel
theorem dJ6_bitCount_0f7a4_3 : decode cJ6_bitCount_0f7a4 3 = .ok (.iushr, 1) := by decide +kernel
theorem dJ6_bitCount_0f7a4_4 : decode cJ6_bitCount_0f7a4 4 = .ok (.ldc_w 265, 3) := by decide +kernel
theorem dJ6_bitCount_0f7a4_7 : decode cJ6_bitCount_0f7a4 7 = .ok (.iand, 1) := by decide +kernel
theorem dJ6_bitCount_0f7a4_8 : decode cJ6_bitCount_0f7a4 8 = .ok (.isub, 1) := by decide +kernel
theorem dJ6_bitCount_0f7a4_9 : decode cJ6_bitCount_0f7a4 9 = .ok (.istore_n 0, 1) := by decide +kernel
theorem dJ6_bitCount_0f7a4_10 : decode cJ6_bitCount_0f7a4 10 = .ok (.iload_n 0, 1) := by decide +kernel
theorem dJ6_bitCount_0f7a4_11 : decode cJ6_bitCount_0f7a4 11 = .ok (.ldc_w 266, 3) := by decide +kernel
theorem dJ6_bitCount_0f7a4_14 : decode cJ6_bitCount_0f7a4 14 = .ok (.iand, 1) := by decide +kernel
theorem dJ6_bitCount_0f7a4_15 : decode cJ6_bitCount_0f7a4 15 = .ok (.iload_n 0, 1) := by decide +kernel
theorem dJ6_bitCount_0f7a4_16 : decode cJ6_bitCount_0f7a4 16 = .ok (.iconst 2, 1) := by decide +kernel
theorem dJ6_bitCount_0f7a4_17 : decode cJ6_bitCount_0f7a4 17 = .ok (.iushr, 1) := by decide +kernel
theorem dJ6_bitCount_0f7a4_18 : decode cJ6_bitCount_0f7a4 18 = .ok (.ldc_w 266, 3) := by decide +kernel
theorem dJ6_bitCount_0f7a4_21 : decode cJ6_bitCount_0f7a4 21 = .ok (.iand, 1) := by decide +kernel
theorem dJ6_bitCount_0f7a4_22 : decode cJ6_bitCount_0f7a4 22 = .ok (.iadd, 1) := by decide +kernel
theorem dJ6_bitCount_0f7a4_23 : decode cJ6_bitCount_0f7a4 23 = .ok (.istore_n 0, 1) := by decide +kernel
theorem dJ6_bitCount_0f7a4_24 : decode cJ6_bitCount_0f7a4 24 = .ok (.iload_n 0, 1) := by decide +kernel
theorem dJ6_bitCount_0f7a4_25 : decode cJ6_bitCount_0f7a4 25 = .ok (.iload_n 0, 1) := by decide +kernel
theorem dJ6_bitCount_0f7a4_26 : decode cJ6_bitCount_0f7a4 26 = .ok (.iconst 4, 1) := by decide +kernel
theorem dJ6_bitCount_0f7a4_27 : decode cJ6_bitCount_0f7a4 27 = .ok (.iushr, 1) := by decide +kernel
theorem dJ6_bitCount_0f7a4_28 : decode cJ6_bitCount_0f7a4 28 = .ok (.iadd, 1) := by decide +kernel
theorem dJ6_bitCount_0f7a4_29 : decode cJ6_bitCount_0f7a4 29 = .ok (.ldc_w 267, 3) := by decide +kernel
theorem dJ6_bitCount_0f7a4_32 : decode cJ6_bitCount_0f7a4 32 = .ok (.iand, 1) := by decide +kernel
theorem dJ6_bitCount_0f7a4_33 : decode cJ6_bitCount_0f7a4 33 = .ok (.istore_n 0, 1) := by decide +kernel
theorem dJ6_bitCount_0f7a4_34 : decode cJ6_bitCount_0f7a4 34 = .ok (.iload_n 0, 1) := by decide +kernel
theorem dJ6_bitCount_0f7a4_35 : decode cJ6_bitCount_0f7a4 35 = .ok (.iload_n 0, 1) := by decide +kernel
theorem dJ6_bitCount_0f7a4_36 : decode cJ6_bitCount_0f7a4 36 = .ok (.bipush 8, 2) := by decide +kernel
theorem dJ6_bitCount_0f7a4_38 : decode cJ6_bitCount_0f7a4 38 = .ok (.iushr, 1) := by decide +kernel
theorem dJ6_bitCount_0f7a4_39 : decode cJ6_bitCount_0f7a4 39 = .ok (.iadd, 1) := by decide +kernel
theorem dJ6_bitCount_0f7a4_40 : decode cJ6_bitCount_0f7a4 40 = .ok (.istore_n 0, 1) := by decide +kernel
theorem dJ6_bitCount_0f7a4_41 : decode cJ6_bitCount_0f7a4 41 = .ok (.iload_n 0, 1) := by decide +kernel
theorem dJ6_bitCount_0f7a4_42 : decode cJ6_bitCount_0f7a4 42 = .ok (.iload_n 0, 1) := by decide +kernel
theorem dJ6_bitCount_0f7a4_43 : decode cJ6_bitCount_0f7a4 43 = .ok (.bipush 16, 2) := by decide +kernel
theorem dJ6_bitCount_0f7a4_45 : decode cJ6_bitCount_0f7a4 45 = .ok (.iushr, 1) := by decide +kernel
theorem dJ6_bitCount_0f7a4_46 : decode cJ6_bitCount_0f7a4 46 = .ok (.iadd, 1) := by decide +kernel
theorem dJ6_bitCount_0f7a4_47 : decode cJ6_bitCount_0f7a4 47 = .ok (.istore_n 0, 1) := by decide +kernel
theorem dJ6_bitCount_0f7a4_48 : decode cJ6_bitCount_0f7a4 48 = .ok (.iload_n 0, 1) := by decide +kernel
theorem dJ6_bitCount_0f7a4_49 : decode cJ6_bitCount_0f7a4 49 = .ok (.bipush 63, 2) := by decide +kernel
theorem dJ6_bitCount_0f7a4_51 : decode cJ6_bitCount_0f7a4 51 = .ok (.iand, 1) := by decide +kernel
theorem dJ6_bitCount_0f7a4_52 : decode cJ6_bitCount_0f7a4 52 = .ok (.ireturn, 1) := by decide +kernel
theorem dJ9_floorMod_7cf53_0 : decode cJ9_floorMod_7cf53 0 = .ok (.iload_n 0, 1) := by decide +kernel
theorem dJ9_floorMod_7cf53_1 : decode cJ9_floorMod_7cf53 1 = .ok (.iload_n 1, 1) := by decide +kernel
theorem dJ9_floorMod_7cf53_2 : decode cJ9_floorMod_7cf53 2 = .ok (.irem, 1) := by decide +kernel
theorem dJ9_floorMod_7cf53_3 : decode cJ9_floorMod_7cf53 3 = .ok (.istore_n 2, 1) := by decide +kernel
theorem dJ9_floorMod_7cf53_4 : decode cJ9_floorMod_7cf53 4 = .ok (.iload_n 0, 1) := by decide +kernel
theorem dJ9_floorMod_7cf53_5 : decode cJ9_floorMod_7cf53 5 = .ok (.iload_n 1, 1) := by decide +kernel
theorem dJ9_floorMod_7cf53_6 : decode cJ9_floorMod_7cf53 6 = .ok (.ixor, 1) := by decide +kernel
theorem dJ9_floorMod_7cf53_7 : decode cJ9_floorMod_7cf53 7 = .ok (.ifCond .ge 11, 3) := by decide +kernel
theorem dJ9_floorMod_7cf53_10 : decode cJ9_floorMod_7cf53 10 = .ok (.iload_n 2, 1) := by decide +kernel
theorem dJ9_floorMod_7cf53_11 : decode cJ9_floorMod_7cf53 11 = .ok (.ifCond .eq 7, 3) := by decide +kernel
theorem dJ9_floorMod_7cf53_14 : decode cJ9_floorMod_7cf53 14 = .ok (.iload_n 2, 1) := by decide +kernel
theorem dJ9_floorMod_7cf53_15 : decode cJ9_floorMod_7cf53 15 = .ok (.iload_n 1, 1) := by decide +kernel
theorem dJ9_floorMod_7cf53_16 : decode cJ9_floorMod_7cf53 16 = .ok (.iadd, 1) := by decide +kernel
theorem dJ9_floorMod_7cf53_17 : decode cJ9_floorMod_7cf53 17 = .ok (.ireturn, 1) := by decide +kernel
theorem dJ9_floorMod_7cf53_18 : decode cJ9_floorMod_7cf53 18 = .ok (.iload_n 2, 1) := by decide +kernel
theorem dJ9_floorMod_7cf53_19 : decode cJ9_floorMod_7cf53 19 = .ok (.ireturn, 1) := by decide +kernel
theorem dJ9_max_7cf53_0 : decode cJ9_max_7cf53 0 = .ok (.iload_n 0, 1) := by decide +kernel
theorem dJ9_max_7cf53_1 : decode cJ9_max_7cf53 1 = .ok (.iload_n 1, 1) := by decide +kernel
theorem dJ9_max_7cf53_2 : decode cJ9_max_7cf53 2 = .ok (.if_icmp .lt 7, 3) := by decide +kernel
theorem dJ9_max_7cf53_5 : decode cJ9_max_7cf53 5 = .ok (.iload_n 0, 1) := by decide +kernel
theorem dJ9_max_7cf53_6 : decode cJ9_max_7cf53 6 = .ok (.goto 4, 3) := by decide +kernel
theorem dJ9_max_7cf53_9 : decode cJ9_max_7cf53 9 = .ok (.iload_n 1, 1) := by decide +kernel
theorem dJ9_max_7cf53_10 : decode cJ9_max_7cf53 10 = .ok (.ireturn, 1) := by decide +kernel
theorem dJ9_min_7cf53_0 : decode cJ9_min_7cf53 0 = .ok (.iload_n 0, 1) := by decide +kernel
theorem dJ9_min_7cf53_1 : decode cJ9_min_7cf53 1 = .ok (.iload_n 1, 1) := by decide +kernel
theorem dJ9_min_7cf53_2 : decode cJ9_min_7cf53 2 = .ok (.if_icmp .gt 7, 3) := by decide +kernel
theorem dJ9_min_7cf53_5 : decode cJ9_min_7cf53 5 = .ok (.iload_n 0, 1) := by decide +kernel
theorem dJ9_min_7cf53_6 : decode cJ9_min_7cf53 6 = .ok (.goto 4, 3) := by decide +kernel
theorem dJ9_min_7cf53_9 : decode cJ9_min_7cf53 9 = .ok (.iload_n 1, 1) := by decide +kernel
theorem dJ9_min_7cf53_10 : decode cJ9_min_7cf53 10 = .ok (.ireturn, 1) := by decide +kernel
theorem dJ0_init_81219_0 : decode cJ0_init_81219 0 = .ok (.aload_n 0, 1) := by decide +kernel
theorem dJ0_init_81219_1 : decode cJ0_init_81219 1 = .ok (.aload_n 1, 1) := by decide +kernel
theorem dJ0_init_81219_2 : decode cJ0_init_81219 2 = .ok (.aconst_null, 1) := by decide +kernel
theorem dJ0_init_81219_3 : decode cJ0_init_81219 3 = .ok (.invokespecial 489, 3) := by decide +kernel
theorem dJ0_init_81219_6 : decode cJ0_init_81219 6 = .ok (.return_, 1) := by decide +kernel
theorem dJ0_length_8abf5_0 : decode cJ0_length_8abf5 0 = .ok (.aload_n 0, 1) := by decide +kernel
theorem dJ0_length_8abf5_1 : decode cJ0_length_8abf5 1 = .ok (.getfield 9, 3) := by decide +kernel
theorem dJ0_length_8abf5_4 : decode cJ0_length_8abf5 4 = .ok (.arraylength, 1) := by decide +kernel
theorem dJ0_length_8abf5_5 : decode cJ0_length_8abf5 5 = .ok (.aload_n 0, 1) := by decide +kernel
theorem dJ0_length_8abf5_6 : decode cJ0_length_8abf5 6 = .ok (.invokevirtual 335, 3) := by decide +kernel
theorem dJ0_length_8abf5_9 : decode cJ0_length_8abf5 9 = .ok (.ishr, 1) := by decide +kernel
theorem dJ0_length_8abf5_10 : decode cJ0_length_8abf5 10 = .ok (.ireturn, 1) := by decide +kernel
theorem dJ0_charAt_5068e_0 : decode cJ0_charAt_5068e 0 = .ok (.aload_n 0, 1) := by decide +kernel
theorem dJ0_charAt_5068e_1 : decode cJ0_charAt_5068e 1 = .ok (.invokevirtual 492, 3) := by decide +kernel
theorem dJ0_charAt_5068e_4 : decode cJ0_charAt_5068e 4 = .ok (.ifCond .eq 12, 3) := by decide +kernel
theorem dJ0_charAt_5068e_7 : decode cJ0_charAt_5068e 7 = .ok (.aload_n 0, 1) := by decide +kernel
theorem dJ0_charAt_5068e_8 : decode cJ0_charAt_5068e 8 = .ok (.getfield 9, 3) := by decide +kernel
theorem dJ0_charAt_5068e_11 : decode cJ0_charAt_5068e 11 = .ok (.iload_n 1, 1) := by decide +kernel
theorem dJ0_charAt_5068e_12 : decode cJ0_charAt_5068e 12 = .ok (.invokestatic 495, 3) := by decide +kernel
theorem dJ0_charAt_5068e_15 : decode cJ0_charAt_5068e 15 = .ok (.ireturn, 1) := by decide +kernel
theorem dJ0_charAt_5068e_16 : decode cJ0_charAt_5068e 16 = .ok (.aload_n 0, 1) := by decide +kernel
theorem dJ0_charAt_5068e_17 : decode cJ0_charAt_5068e 17 = .ok (.getfield 9, 3) := by decide +kernel
theorem dJ0_charAt_5068e_20 : decode cJ0_charAt_5068e 20 = .ok (.iload_n 1, 1) := by decide +kernel
theorem dJ0_charAt_5068e_21 : decode cJ0_charAt_5068e 21 = .ok (.invokestatic 498, 3) := by decide +kernel
theorem dJ0_charAt_5068e_24 : decode cJ0_charAt_5068e 24 = .ok (.ireturn, 1) := by decide +kernel
theorem dJ0_getBytes_840e7_0 : decode cJ0_getBytes_840e7 0 = .ok (.aload_n 0, 1) := by decide +kernel
theorem dJ0_getBytes_840e7_1 : decode cJ0_getBytes_840e7 1 = .ok (.invokevirtual 335, 3) := by decide +kernel
theorem dJ0_getBytes_840e7_4 : decode cJ0_getBytes_840e7 4 = .ok (.iload_n 3, 1) := by decide +kernel
theorem dJ0_getBytes_840e7_5 : decode cJ0_getBytes_840e7 5 = .ok (.if_icmp .ne 23, 3) := by decide +kernel
theorem dJ0_getBytes_840e7_8 : decode cJ0_getBytes_840e7 8 = .ok (.aload_n 0, 1) := by decide +kernel
theorem dJ0_getBytes_840e7_9 : decode cJ0_getBytes_840e7 9 = .ok (.getfield 9, 3) := by decide +kernel
theorem dJ0_getBytes_840e7_12 : decode cJ0_getBytes_840e7 12 = .ok (.iconst 0, 1) := by decide +kernel
theorem dJ0_getBytes_840e7_13 : decode cJ0_getBytes_840e7 13 = .ok (.aload_n 1, 1) := by decide +kernel
theorem dJ0_getBytes_840e7_14 : decode cJ0_getBytes_840e7 14 = .ok (.iload_n 2, 1) := by decide +kernel
theorem dJ0_getBytes_840e7_15 : decode cJ0_getBytes_840e7 15 = .ok (.iload_n 3, 1) := by decide +kernel
theorem dJ0_getBytes_840e7_16 : decode cJ0_getBytes_840e7 16 = .ok (.ishl, 1) := by decide +kernel
theorem dJ0_getBytes_840e7_17 : decode cJ0_getBytes_840e7 17 = .ok (.aload_n 0, 1) := by decide +kernel
theorem dJ0_getBytes_840e7_18 : decode cJ0_getBytes_840e7 18 = .ok (.getfield 9, 3) := by decide +kernel
theorem dJ0_getBytes_840e7_21 : decode cJ0_getBytes_840e7 21 = .ok (.arraylength, 1) := by decide +kernel
theorem dJ0_getBytes_840e7_22 : decode cJ0_getBytes_840e7 22 = .ok (.invokestatic 212, 3) := by decide +kernel
theorem dJ0_getBytes_840e7_25 : decode cJ0_getBytes_840e7 25 = .ok (.goto 18, 3) := by decide +kernel
theorem dJ0_getBytes_840e7_28 : decode cJ0_getBytes_840e7 28 = .ok (.aload_n 0, 1) := by decide +kernel
theorem dJ0_getBytes_840e7_29 : decode cJ0_getBytes_840e7 29 = .ok (.getfield 9, 3) := by decide +kernel
theorem dJ0_getBytes_840e7_32 : decode cJ0_getBytes_840e7 32 = .ok (.iconst 0, 1) := by decide +kernel
theorem dJ0_getBytes_840e7_33 : decode cJ0_getBytes_840e7 33 = .ok (.aload_n 1, 1) := by decide +kernel
theorem dJ0_getBytes_840e7_34 : decode cJ0_getBytes_840e7 34 = .ok (.iload_n 2, 1) := by decide +kernel
theorem dJ0_getBytes_840e7_35 : decode cJ0_getBytes_840e7 35 = .ok (.aload_n 0, 1) := by decide +kernel
theorem dJ0_getBytes_840e7_36 : decode cJ0_getBytes_840e7 36 = .ok (.getfield 9, 3) := by decide +kernel
theorem dJ0_getBytes_840e7_39 : decode cJ0_getBytes_840e7 39 = .ok (.arraylength, 1) := by decide +kernel
theorem dJ0_getBytes_840e7_40 : decode cJ0_getBytes_840e7 40 = .ok (.invokestatic 106, 3) := by decide +kernel
theorem dJ0_getBytes_840e7_43 : decode cJ0_getBytes_840e7 43 = .ok (.return_, 1) := by decide +kernel
theorem dJ0_init_db425_0 : decode cJ0_init_db425 0 = .ok (.aload_n 0, 1) := by decide +kernel
theorem dJ0_init_db425_1 : decode cJ0_init_db425 1 = .ok (.invokespecial 1, 3) := by decide +kernel
theorem dJ0_init_db425_4 : decode cJ0_init_db425 4 = .ok (.aload_n 1, 1) := by decide +kernel
theorem dJ0_init_db425_5 : decode cJ0_init_db425 5 = .ok (.invokevirtual 552, 3) := by decide +kernel
theorem dJ0_init_db425_8 : decode cJ0_init_db425 8 = .ok (.astore_n 3, 1) := by decide +kernel
theorem dJ0_init_db425_9 : decode cJ0_init_db425 9 = .ok (.aload_n 1, 1) := by decide +kernel
theorem dJ0_init_db425_10 : decode cJ0_init_db425 10 = .ok (.invokevirtual 549, 3) := by decide +kernel
theorem dJ0_init_db425_13 : decode cJ0_init_db425 13 = .ok (.istore 4, 2) := by decide +kernel
theorem dJ0_init_db425_15 : decode cJ0_init_db425 15 = .ok (.aload_n 1, 1) := by decide +kernel
theorem dJ0_init_db425_16 : decode cJ0_init_db425 16 = .ok (.invokevirtual 1047, 3) := by decide +kernel
theorem dJ0_init_db425_19 : decode cJ0_init_db425 19 = .ok (.ifCond .eq 22, 3) := by decide +kernel
theorem dJ0_init_db425_22 : decode cJ0_init_db425 22 = .ok (.aload_n 0, 1) := by decide +kernel
theorem dJ0_init_db425_23 : decode cJ0_init_db425 23 = .ok (.iconst 0, 1) := by decide +kernel
theorem dJ0_init_db425_24 : decode cJ0_init_db425 24 = .ok (.putfield 15, 3) := by decide +kernel
theorem dJ0_init_db425_27 : decode cJ0_init_db425 27 = .ok (.aload_n 0, 1) := by decide +kernel
theorem dJ0_init_db425_28 : decode cJ0_init_db425 28 = .ok (.aload_n 3, 1) := by decide +kernel
theorem dJ0_init_db425_29 : decode cJ0_init_db425 29 = .ok (.iconst 0, 1) := by decide +kernel
theorem dJ0_init_db425_30 : decode cJ0_init_db425 30 = .ok (.iload 4, 2) := by decide +kernel
theorem dJ0_init_db425_32 : decode cJ0_init_db425 32 = .ok (.invokestatic 54, 3) := by decide +kernel
theorem dJ0_init_db425_35 : decode cJ0_init_db425 35 = .ok (.putfield 9, 3) := by decide +kernel
theorem dJ0_init_db425_38 : decode cJ0_init_db425 38 = .ok (.goto 59, 3) := by decide +kernel
theorem dJ0_init_db425_41 : decode cJ0_init_db425 41 = .ok (.getstatic 38, 3) := by decide +kernel
theorem dJ0_init_db425_44 : decode cJ0_init_db425 44 = .ok (.ifCond .eq 35, 3) := by decide +kernel
theorem dJ0_init_db425_47 : decode cJ0_init_db425 47 = .ok (.aload_n 1, 1) := by decide +kernel
theorem dJ0_init_db425_48 : decode cJ0_init_db425 48 = .ok (.getfield 1048, 3) := by decide +kernel
theorem dJ0_init_db425_51 : decode cJ0_init_db425 51 = .ok (.ifCond .eq 28, 3) := by decide +kernel
theorem dJ0_init_db425_54 : decode cJ0_init_db425 54 = .ok (.aload_n 0, 1) := by decide +kernel
theorem dJ0_init_db425_55 : decode cJ0_init_db425 55 = .ok (.aload_n 3, 1) := by decide +kernel
theorem dJ0_init_db425_56 : decode cJ0_init_db425 56 = .ok (.iconst 0, 1) := by decide +kernel
theorem dJ0_init_db425_57 : decode cJ0_init_db425 57 = .ok (.iload 4, 2) := by decide +kernel
theorem dJ0_init_db425_59 : decode cJ0_init_db425 59 = .ok (.invokestatic 1051, 3) := by decide +kernel
theorem dJ0_init_db425_62 : decode cJ0_init_db425 62 = .ok (.putfield 9, 3) := by decide +kernel
theorem dJ0_init_db425_65 : decode cJ0_init_db425 65 = .ok (.aload_n 0, 1) := by decide +kernel
theorem dJ0_init_db425_66 : decode cJ0_init_db425 66 = .ok (.aload_n 0, 1) := by decide +kernel
theorem dJ0_init_db425_67 : decode cJ0_init_db425 67 = .ok (.getfield 9, 3) := by decide +kernel
theorem dJ0_init_db425_70 : decode cJ0_init_db425 70 = .ok (.iload 4, 2) := by decide +kernel
theorem dJ0_init_db425_72 : decode cJ0_init_db425 72 = .ok (.invokestatic 47, 3) := by decide +kernel
theorem dJ0_init_db425_75 : decode cJ0_init_db425 75 = .ok (.putfield 15, 3) := by decide +kernel
theorem dJ0_init_db425_78 : decode cJ0_init_db425 78 = .ok (.return_, 1) := by decide +kernel
theorem dJ0_init_db425_79 : decode cJ0_init_db425 79 = .ok (.aload_n 0, 1) := by decide +kernel
theorem dJ0_init_db425_80 : decode cJ0_init_db425 80 = .ok (.iconst 1, 1) := by decide +kernel
theorem dJ0_init_db425_81 : decode cJ0_init_db425 81 = .ok (.putfield 15, 3) := by decide +kernel
theorem dJ0_init_db425_84 : decode cJ0_init_db425 84 = .ok (.aload_n 0, 1) := by decide +kernel
theorem dJ0_init_db425_85 : decode cJ0_init_db425 85 = .ok (.aload_n 3, 1) := by decide +kernel
theorem dJ0_init_db425_86 : decode cJ0_init_db425 86 = .ok (.iconst 0, 1) := by decide +kernel
theorem dJ0_init_db425_87 : decode cJ0_init_db425 87 = .ok (.iload 4, 2) := by decide +kernel
theorem dJ0_init_db425_89 : decode cJ0_init_db425 89 = .ok (.iconst 1, 1) := by decide +kernel
theorem dJ0_init_db425_90 : decode cJ0_init_db425 90 = .ok (.ishl, 1) := by decide +kernel
theorem dJ0_init_db425_91 : decode cJ0_init_db425 91 = .ok (.invokestatic 54, 3) := by decide +kernel
theorem dJ0_init_db425_94 : decode cJ0_init_db425 94 = .ok (.putfield 9, 3) := by decide +kernel
theorem dJ0_init_db425_97 : decode cJ0_init_db425 97 = .ok (.return_, 1) := by decide +kernel
theorem dJ0_coder_7d493_0 : decode cJ0_coder_7d493 0 = .ok (.getstatic 38, 3) := by decide +kernel
theorem dJ0_coder_7d493_3 : decode cJ0_coder_7d493 3 = .ok (.ifCond .eq 10, 3) := by decide +kernel
theorem dJ0_coder_7d493_6 : decode cJ0_coder_7d493 6 = .ok (.aload_n 0, 1) := by decide +kernel
theorem dJ0_coder_7d493_7 : decode cJ0_coder_7d493 7 = .ok (.getfield 15, 3) := by decide +kernel
theorem dJ0_coder_7d493_10 : decode cJ0_coder_7d493 10 = .ok (.goto 4, 3) := by decide +kernel
theorem dJ0_coder_7d493_13 : decode cJ0_coder_7d493 13 = .ok (.iconst 1, 1) := by decide +kernel
theorem dJ0_coder_7d493_14 : decode cJ0_coder_7d493 14 = .ok (.ireturn, 1) := by decide +kernel
theorem dJ0_isLatin1_aae02_0 : decode cJ0_isLatin1_aae02 0 = .ok (.getstatic 38, 3) := by decide +kernel
theorem dJ0_isLatin1_aae02_3 : decode cJ0_isLatin1_aae02 3 = .ok (.ifCond .eq 14, 3) := by decide +kernel
theorem dJ0_isLatin1_aae02_6 : decode cJ0_isLatin1_aae02 6 = .ok (.aload_n 0, 1) := by decide +kernel
theorem dJ0_isLatin1_aae02_7 : decode cJ0_isLatin1_aae02 7 = .ok (.getfield 15, 3) := by decide +kernel
theorem dJ0_isLatin1_aae02_10 : decode cJ0_isLatin1_aae02 10 = .ok (.ifCond .ne 7, 3) := by decide +kernel
theorem dJ0_isLatin1_aae02_13 : decode cJ0_isLatin1_aae02 13 = .ok (.iconst 1, 1) := by decide +kernel
theorem dJ0_isLatin1_aae02_14 : decode cJ0_isLatin1_aae02 14 = .ok (.goto 4, 3) := by decide +kernel
theorem dJ0_isLatin1_aae02_17 : decode cJ0_isLatin1_aae02 17 = .ok (.iconst 0, 1) := by decide +kernel
theorem dJ0_isLatin1_aae02_18 : decode cJ0_isLatin1_aae02 18 = .ok (.ireturn, 1) := by decide +kernel
theorem dJ0_checkIndex_df160_0 : decode cJ0_checkIndex_df160 0 = .ok (.iload_n 0, 1) := by decide +kernel
theorem dJ0_checkIndex_df160_1 : decode cJ0_checkIndex_df160 1 = .ok (.iload_n 1, 1) := by decide +kernel
theorem dJ0_checkIndex_df160_2 : decode cJ0_checkIndex_df160 2 = .ok (.getstatic 1053, 3) := by decide +kernel
theorem dJ0_checkIndex_df160_5 : decode cJ0_checkIndex_df160 5 = .ok (.invokestatic 1059, 3) := by decide +kernel
theorem dJ0_checkIndex_df160_8 : decode cJ0_checkIndex_df160 8 = .ok (.pop, 1) := by decide +kernel
theorem dJ0_checkIndex_df160_9 : decode cJ0_checkIndex_df160 9 = .ok (.return_, 1) := by decide +kernel
theorem dJ0_checkBoundsOffCount_cabcc_0 : decode cJ0_checkBoundsOffCount_cabcc 0 = .ok (.iload_n 0, 1) := by decide +kernel
theorem dJ0_checkBoundsOffCount_cabcc_1 : decode cJ0_checkBoundsOffCount_cabcc 1 = .ok (.iload_n 1, 1) := by decide +kernel
theorem dJ0_checkBoundsOffCount_cabcc_2 : decode cJ0_checkBoundsOffCount_cabcc 2 = .ok (.iload_n 2, 1) := by decide +kernel
theorem dJ0_checkBoundsOffCount_cabcc_3 : decode cJ0_checkBoundsOffCount_cabcc 3 = .ok (.getstatic 1053, 3) := by decide +kernel
theorem dJ0_checkBoundsOffCount_cabcc_6 : decode cJ0_checkBoundsOffCount_cabcc 6 = .ok (.invokestatic 1065, 3) := by decide +kernel
theorem dJ0_checkBoundsOffCount_cabcc_9 : decode cJ0_checkBoundsOffCount_cabcc 9 = .ok (.ireturn, 1) := by decide +kernel
theorem dJ0_checkBoundsBeginEnd_23922_0 : decode cJ0_checkBoundsBeginEnd_23922 0 = .ok (.iload_n 0, 1) := by decide +kernel
theorem dJ0_checkBoundsBeginEnd_23922_1 : decode cJ0_checkBoundsBeginEnd_23922 1 = .ok (.iload_n 1, 1) := by decide +kernel
theorem dJ0_checkBoundsBeginEnd_23922_2 : decode cJ0_checkBoundsBeginEnd_23922 2 = .ok (.iload_n 2, 1) := by decide +kernel
theorem dJ0_checkBoundsBeginEnd_23922_3 : decode cJ0_checkBoundsBeginEnd_23922 3 = .ok (.getstatic 1053, 3) := by decide +kernel
theorem dJ0_checkBoundsBeginEnd_23922_6 : decode cJ0_checkBoundsBeginEnd_23922 6 = .ok (.invokestatic 1062, 3) := by decide +kernel
theorem dJ0_checkBoundsBeginEnd_23922_9 : decode cJ0_checkBoundsBeginEnd_23922 9 = .ok (.pop, 1) := by decide +kernel
theorem dJ0_checkBoundsBeginEnd_23922_10 : decode cJ0_checkBoundsBeginEnd_23922 10 = .ok (.return_, 1) := by decide +kernel
theorem dJ4_init_da8c8_0 : decode cJ4_init_da8c8 0 = .ok (.aload_n 0, 1) := by decide +kernel
theorem dJ4_init_da8c8_1 : decode cJ4_init_da8c8 1 = .ok (.bipush 16, 2) := by decide +kernel
theorem dJ4_init_da8c8_3 : decode cJ4_init_da8c8 3 = .ok (.invokespecial 1, 3) := by decide +kernel
theorem dJ4_init_da8c8_6 : decode cJ4_init_da8c8 6 = .ok (.return_, 1) := by decide +kernel
theorem dJ4_append_15ec4_0 : decode cJ4_append_15ec4 0 = .ok (.aload_n 0, 1) := by decide +kernel
theorem dJ4_append_15ec4_1 : decode cJ4_append_15ec4 1 = .ok (.aload_n 1, 1) := by decide +kernel
theorem dJ4_append_15ec4_2 : decode cJ4_append_15ec4 2 = .ok (.invokespecial 29, 3) := by decide +kernel
theorem dJ4_append_15ec4_5 : decode cJ4_append_15ec4 5 = .ok (.pop, 1) := by decide +kernel
theorem dJ4_append_15ec4_6 : decode cJ4_append_15ec4 6 = .ok (.aload_n 0, 1) := by decide +kernel
theorem dJ4_append_15ec4_7 : decode cJ4_append_15ec4 7 = .ok (.areturn, 1) := by decide +kernel
theorem dJ4_append_bf812_0 : decode cJ4_append_bf812 0 = .ok (.aload_n 0, 1) := by decide +kernel
theorem dJ4_append_bf812_1 : decode cJ4_append_bf812 1 = .ok (.iload_n 1, 1) := by decide +kernel
theorem dJ4_append_bf812_2 : decode cJ4_append_bf812 2 = .ok (.invokespecial 53, 3) := by decide +kernel
theorem dJ4_append_bf812_5 : decode cJ4_append_bf812 5 = .ok (.pop, 1) := by decide +kernel
theorem dJ4_append_bf812_6 : decode cJ4_append_bf812 6 = .ok (.aload_n 0, 1) := by decide +kernel
theorem dJ4_append_bf812_7 : decode cJ4_append_bf812 7 = .ok (.areturn, 1) := by decide +kernel
theorem dJ4_toString_0e30d_0 : decode cJ4_toString_0e30d 0 = .ok (.new 18, 3) := by decide +kernel
theorem dJ4_toString_0e30d_3 : decode cJ4_toString_0e30d 3 = .ok (.dup, 1) := by decide +kernel
theorem dJ4_toString_0e30d_4 : decode cJ4_toString_0e30d 4 = .ok (.aload_n 0, 1) := by decide +kernel
theorem dJ4_toString_0e30d_5 : decode cJ4_toString_0e30d 5 = .ok (.invokespecial 137, 3) := by decide +kernel
theorem dJ4_toString_0e30d_8 : decode cJ4_toString_0e30d 8 = .ok (.areturn, 1) := by decide +kernel
theorem dJ4_length_8abf5_0 : decode cJ4_length_8abf5 0 = .ok (.aload_n 0, 1) := by decide +kernel
theorem dJ4_length_8abf5_1 : decode cJ4_length_8abf5 1 = .ok (.invokespecial 343, 3) := by decide +kernel
theorem dJ4_length_8abf5_4 : decode cJ4_length_8abf5 4 = .ok (.ireturn, 1) := by decide +kernel
theorem dJ1_charAt_3b067_0 : decode cJ1_charAt_3b067 0 = .ok (.iload_n 1, 1) := by decide +kernel
theorem dJ1_charAt_3b067_1 : decode cJ1_charAt_3b067 1 = .ok (.aload_n 0, 1) := by decide +kernel
theorem dJ1_charAt_3b067_2 : decode cJ1_charAt_3b067 2 = .ok (.arraylength, 1) := by decide +kernel
theorem dJ1_charAt_3b067_3 : decode cJ1_charAt_3b067 3 = .ok (.invokestatic 9, 3) := by decide +kernel
theorem dJ1_charAt_3b067_6 : decode cJ1_charAt_3b067 6 = .ok (.aload_n 0, 1) := by decide +kernel
theorem dJ1_charAt_3b067_7 : decode cJ1_charAt_3b067 7 = .ok (.iload_n 1, 1) := by decide +kernel
theorem dJ1_charAt_3b067_8 : decode cJ1_charAt_3b067 8 = .ok (.baload, 1) := by decide +kernel
theorem dJ1_charAt_3b067_9 : decode cJ1_charAt_3b067 9 = .ok (.sipush 255, 3) := by decide +kernel
theorem dJ1_charAt_3b067_12 : decode cJ1_charAt_3b067 12 = .ok (.iand, 1) := by decide +kernel
theorem dJ1_charAt_3b067_13 : decode cJ1_charAt_3b067 13 = .ok (.i2c, 1) := by decide +kernel
theorem dJ1_charAt_3b067_14 : decode cJ1_charAt_3b067 14 = .ok (.ireturn, 1) := by decide +kernel
theorem dJ1_inflate_0e8fd_0 : decode cJ1_inflate_0e8fd 0 = .ok (.aload_n 0, 1) := by decide +kernel
theorem dJ1_inflate_0e8fd_1 : decode cJ1_inflate_0e8fd 1 = .ok (.iload_n 1, 1) := by decide +kernel
theorem dJ1_inflate_0e8fd_2 : decode cJ1_inflate_0e8fd 2 = .ok (.aload_n 2, 1) := by decide +kernel
theorem dJ1_inflate_0e8fd_3 : decode cJ1_inflate_0e8fd 3 = .ok (.iload_n 3, 1) := by decide +kernel
theorem dJ1_inflate_0e8fd_4 : decode cJ1_inflate_0e8fd 4 = .ok (.iload 4, 2) := by decide +kernel
theorem dJ1_inflate_0e8fd_6 : decode cJ1_inflate_0e8fd 6 = .ok (.invokestatic 240, 3) := by decide +kernel
theorem dJ1_inflate_0e8fd_9 : decode cJ1_inflate_0e8fd 9 = .ok (.return_, 1) := by decide +kernel
theorem dJ2_newBytesFor_77867_0 : decode cJ2_newBytesFor_77867 0 = .ok (.iload_n 0, 1) := by decide +kernel
theorem dJ2_newBytesFor_77867_1 : decode cJ2_newBytesFor_77867 1 = .ok (.invokestatic 11, 3) := by decide +kernel
theorem dJ2_newBytesFor_77867_4 : decode cJ2_newBytesFor_77867 4 = .ok (.newarray .byte, 2) := by decide +kernel
theorem dJ2_newBytesFor_77867_6 : decode cJ2_newBytesFor_77867 6 = .ok (.areturn, 1) := by decide +kernel
theorem dJ2_newBytesLength_0f7a4_0 : decode cJ2_newBytesLength_0f7a4 0 = .ok (.iload_n 0, 1) := by decide +kernel
theorem dJ2_newBytesLength_0f7a4_1 : decode cJ2_newBytesLength_0f7a4 1 = .ok (.ifCond .ge 11, 3) := by decide +kernel
theorem dJ2_newBytesLength_0f7a4_4 : decode cJ2_newBytesLength_0f7a4 4 = .ok (.new 17, 3) := by decide +kernel
theorem dJ2_newBytesLength_0f7a4_7 : decode cJ2_newBytesLength_0f7a4 7 = .ok (.dup, 1) := by decide +kernel
theorem dJ2_newBytesLength_0f7a4_8 : decode cJ2_newBytesLength_0f7a4 8 = .ok (.invokespecial 19, 3) := by decide +kernel
theorem dJ2_newBytesLength_0f7a4_11 : decode cJ2_newBytesLength_0f7a4 11 = .ok (.athrow, 1) := by decide +kernel
theorem dJ2_newBytesLength_0f7a4_12 : decode cJ2_newBytesLength_0f7a4 12 = .ok (.iload_n 0, 1) := by decide +kernel
theorem dJ2_newBytesLength_0f7a4_13 : decode cJ2_newBytesLength_0f7a4 13 = .ok (.ldc 20, 2) := by decide +kernel
theorem dJ2_newBytesLength_0f7a4_15 : decode cJ2_newBytesLength_0f7a4 15 = .ok (.if_icmp .lt 40, 3) := by decide +kernel
theorem dJ2_newBytesLength_0f7a4_18 : decode cJ2_newBytesLength_0f7a4 18 = .ok (.new 21, 3) := by decide +kernel
theorem dJ2_newBytesLength_0f7a4_21 : decode cJ2_newBytesLength_0f7a4 21 = .ok (.dup, 1) := by decide +kernel
theorem dJ2_newBytesLength_0f7a4_22 : decode cJ2_newBytesLength_0f7a4 22 = .ok (.new 23, 3) := by decide +kernel
theorem dJ2_newBytesLength_0f7a4_25 : decode cJ2_newBytesLength_0f7a4 25 = .ok (.dup, 1) := by decide +kernel
theorem dJ2_newBytesLength_0f7a4_26 : decode cJ2_newBytesLength_0f7a4 26 = .ok (.invokespecial 25, 3) := by decide +kernel
theorem dJ2_newBytesLength_0f7a4_29 : decode cJ2_newBytesLength_0f7a4 29 = .ok (.ldc 26, 2) := by decide +kernel
theorem dJ2_newBytesLength_0f7a4_31 : decode cJ2_newBytesLength_0f7a4 31 = .ok (.invokevirtual 28, 3) := by decide +kernel
theorem dJ2_newBytesLength_0f7a4_34 : decode cJ2_newBytesLength_0f7a4 34 = .ok (.iload_n 0, 1) := by decide +kernel
theorem dJ2_newBytesLength_0f7a4_35 : decode cJ2_newBytesLength_0f7a4 35 = .ok (.invokevirtual 32, 3) := by decide +kernel
theorem dJ2_newBytesLength_0f7a4_38 : decode cJ2_newBytesLength_0f7a4 38 = .ok (.ldc 35, 2) := by decide +kernel
theorem dJ2_newBytesLength_0f7a4_40 : decode cJ2_newBytesLength_0f7a4 40 = .ok (.invokevirtual 28, 3) := by decide +kernel
theorem dJ2_newBytesLength_0f7a4_43 : decode cJ2_newBytesLength_0f7a4 43 = .ok (.ldc 20, 2) := by decide +kernel
theorem dJ2_newBytesLength_0f7a4_45 : decode cJ2_newBytesLength_0f7a4 45 = .ok (.invokevirtual 32, 3) := by decide +kernel
theorem dJ2_newBytesLength_0f7a4_48 : decode cJ2_newBytesLength_0f7a4 48 = .ok (.invokevirtual 37, 3) := by decide +kernel
theorem dJ2_newBytesLength_0f7a4_51 : decode cJ2_newBytesLength_0f7a4 51 = .ok (.invokespecial 41, 3) := by decide +kernel
theorem dJ2_newBytesLength_0f7a4_54 : decode cJ2_newBytesLength_0f7a4 54 = .ok (.athrow, 1) := by decide +kernel
theorem dJ2_newBytesLength_0f7a4_55 : decode cJ2_newBytesLength_0f7a4 55 = .ok (.iload_n 0, 1) := by decide +kernel
theorem dJ2_newBytesLength_0f7a4_56 : decode cJ2_newBytesLength_0f7a4 56 = .ok (.iconst 1, 1) := by decide +kernel
theorem dJ2_newBytesLength_0f7a4_57 : decode cJ2_newBytesLength_0f7a4 57 = .ok (.ishl, 1) := by decide +kernel
theorem dJ2_newBytesLength_0f7a4_58 : decode cJ2_newBytesLength_0f7a4 58 = .ok (.ireturn, 1) := by decide +kernel
theorem dJ2_putChar_b72d1_0 : decode cJ2_putChar_b72d1 0 = .ok (.getstatic 44, 3) := by decide +kernel
theorem dJ2_putChar_b72d1_3 : decode cJ2_putChar_b72d1 3 = .ok (.ifCond .ne 25, 3) := by decide +kernel
theorem dJ2_putChar_b72d1_6 : decode cJ2_putChar_b72d1 6 = .ok (.iload_n 1, 1) := by decide +kernel
theorem dJ2_putChar_b72d1_7 : decode cJ2_putChar_b72d1 7 = .ok (.ifCond .lt 11, 3) := by decide +kernel
theorem dJ2_putChar_b72d1_10 : decode cJ2_putChar_b72d1 10 = .ok (.iload_n 1, 1) := by decide +kernel
theorem dJ2_putChar_b72d1_11 : decode cJ2_putChar_b72d1 11 = .ok (.aload_n 0, 1) := by decide +kernel
theorem dJ2_putChar_b72d1_12 : decode cJ2_putChar_b72d1 12 = .ok (.invokestatic 48, 3) := by decide +kernel
theorem dJ2_putChar_b72d1_15 : decode cJ2_putChar_b72d1 15 = .ok (.if_icmp .lt 13, 3) := by decide +kernel
theorem dJ2_putChar_b72d1_18 : decode cJ2_putChar_b72d1 18 = .ok (.new 52, 3) := by decide +kernel
theorem dJ2_putChar_b72d1_21 : decode cJ2_putChar_b72d1 21 = .ok (.dup, 1) := by decide +kernel
theorem dJ2_putChar_b72d1_22 : decode cJ2_putChar_b72d1 22 = .ok (.ldc 54, 2) := by decide +kernel
theorem dJ2_putChar_b72d1_24 : decode cJ2_putChar_b72d1 24 = .ok (.invokespecial 56, 3) := by decide +kernel
theorem dJ2_putChar_b72d1_27 : decode cJ2_putChar_b72d1 27 = .ok (.athrow, 1) := by decide +kernel
theorem dJ2_putChar_b72d1_28 : decode cJ2_putChar_b72d1 28 = .ok (.iload_n 1, 1) := by decide +kernel
theorem dJ2_putChar_b72d1_29 : decode cJ2_putChar_b72d1 29 = .ok (.iconst 1, 1) := by decide +kernel
theorem dJ2_putChar_b72d1_30 : decode cJ2_putChar_b72d1 30 = .ok (.ishl, 1) := by decide +kernel
theorem dJ2_putChar_b72d1_31 : decode cJ2_putChar_b72d1 31 = .ok (.istore_n 1, 1) := by decide +kernel
theorem dJ2_putChar_b72d1_32 : decode cJ2_putChar_b72d1 32 = .ok (.aload_n 0, 1) := by decide +kernel
theorem dJ2_putChar_b72d1_33 : decode cJ2_putChar_b72d1 33 = .ok (.iload_n 1, 1) := by decide +kernel
theorem dJ2_putChar_b72d1_34 : decode cJ2_putChar_b72d1 34 = .ok (.iinc 1 1, 3) := by decide +kernel
theorem dJ2_putChar_b72d1_37 : decode cJ2_putChar_b72d1 37 = .ok (.iload_n 2, 1) := by decide +kernel
theorem dJ2_putChar_b72d1_38 : decode cJ2_putChar_b72d1 38 = .ok (.getstatic 59, 3) := by decide +kernel
theorem dJ2_putChar_b72d1_41 : decode cJ2_putChar_b72d1 41 = .ok (.ishr, 1) := by decide +kernel
theorem dJ2_putChar_b72d1_42 : decode cJ2_putChar_b72d1 42 = .ok (.i2b, 1) := by decide +kernel
theorem dJ2_putChar_b72d1_43 : decode cJ2_putChar_b72d1 43 = .ok (.bastore, 1) := by decide +kernel
theorem dJ2_putChar_b72d1_44 : decode cJ2_putChar_b72d1 44 = .ok (.aload_n 0, 1) := by decide +kernel
theorem dJ2_putChar_b72d1_45 : decode cJ2_putChar_b72d1 45 = .ok (.iload_n 1, 1) := by decide +kernel
theorem dJ2_putChar_b72d1_46 : decode cJ2_putChar_b72d1 46 = .ok (.iload_n 2, 1) := by decide +kernel
theorem dJ2_putChar_b72d1_47 : decode cJ2_putChar_b72d1 47 = .ok (.getstatic 63, 3) := by decide +kernel
theorem dJ2_putChar_b72d1_50 : decode cJ2_putChar_b72d1 50 = .ok (.ishr, 1) := by decide +kernel
theorem dJ2_putChar_b72d1_51 : decode cJ2_putChar_b72d1 51 = .ok (.i2b, 1) := by decide +kernel
theorem dJ2_putChar_b72d1_52 : decode cJ2_putChar_b72d1 52 = .ok (.bastore, 1) := by decide +kernel
theorem dJ2_putChar_b72d1_53 : decode cJ2_putChar_b72d1 53 = .ok (.return_, 1) := by decide +kernel
theorem dJ2_getChar_3b067_0 : decode cJ2_getChar_3b067 0 = .ok (.getstatic 44, 3) := by decide +kernel
theorem dJ2_getChar_3b067_3 : decode cJ2_getChar_3b067 3 = .ok (.ifCond .ne 25, 3) := by decide +kernel
theorem dJ2_getChar_3b067_6 : decode cJ2_getChar_3b067 6 = .ok (.iload_n 1, 1) := by decide +kernel
theorem dJ2_getChar_3b067_7 : decode cJ2_getChar_3b067 7 = .ok (.ifCond .lt 11, 3) := by decide +kernel
theorem dJ2_getChar_3b067_10 : decode cJ2_getChar_3b067 10 = .ok (.iload_n 1, 1) := by decide +kernel
theorem dJ2_getChar_3b067_11 : decode cJ2_getChar_3b067 11 = .ok (.aload_n 0, 1) := by decide +kernel
theorem dJ2_getChar_3b067_12 : decode cJ2_getChar_3b067 12 = .ok (.invokestatic 48, 3) := by decide +kernel
theorem dJ2_getChar_3b067_15 : decode cJ2_getChar_3b067 15 = .ok (.if_icmp .lt 13, 3) := by decide +kernel
theorem dJ2_getChar_3b067_18 : decode cJ2_getChar_3b067 18 = .ok (.new 52, 3) := by decide +kernel
theorem dJ2_getChar_3b067_21 : decode cJ2_getChar_3b067 21 = .ok (.dup, 1) := by decide +kernel
theorem dJ2_getChar_3b067_22 : decode cJ2_getChar_3b067 22 = .ok (.ldc 54, 2) := by decide +kernel
theorem dJ2_getChar_3b067_24 : decode cJ2_getChar_3b067 24 = .ok (.invokespecial 56, 3) := by decide +kernel
theorem dJ2_getChar_3b067_27 : decode cJ2_getChar_3b067 27 = .ok (.athrow, 1) := by decide +kernel
theorem dJ2_getChar_3b067_28 : decode cJ2_getChar_3b067 28 = .ok (.iload_n 1, 1) := by decide +kernel
theorem dJ2_getChar_3b067_29 : decode cJ2_getChar_3b067 29 = .ok (.iconst 1, 1) := by decide +kernel
theorem dJ2_getChar_3b067_30 : decode cJ2_getChar_3b067 30 = .ok (.ishl, 1) := by decide +kernel
theorem dJ2_getChar_3b067_31 : decode cJ2_getChar_3b067 31 = .ok (.istore_n 1, 1) := by decide +kernel
theorem dJ2_getChar_3b067_32 : decode cJ2_getChar_3b067 32 = .ok (.aload_n 0, 1) := by decide +kernel
theorem dJ2_getChar_3b067_33 : decode cJ2_getChar_3b067 33 = .ok (.iload_n 1, 1) := by decide +kernel
theorem dJ2_getChar_3b067_34 : decode cJ2_getChar_3b067 34 = .ok (.iinc 1 1, 3) := by decide +kernel
theorem dJ2_getChar_3b067_37 : decode cJ2_getChar_3b067 37 = .ok (.baload, 1) := by decide +kernel
theorem dJ2_getChar_3b067_38 : decode cJ2_getChar_3b067 38 = .ok (.sipush 255, 3) := by decide +kernel
theorem dJ2_getChar_3b067_41 : decode cJ2_getChar_3b067 41 = .ok (.iand, 1) := by decide +kernel
theorem dJ2_getChar_3b067_42 : decode cJ2_getChar_3b067 42 = .ok (.getstatic 59, 3) := by decide +kernel
theorem dJ2_getChar_3b067_45 : decode cJ2_getChar_3b067 45 = .ok (.ishl, 1) := by decide +kernel
theorem dJ2_getChar_3b067_46 : decode cJ2_getChar_3b067 46 = .ok (.aload_n 0, 1) := by decide +kernel
theorem dJ2_getChar_3b067_47 : decode cJ2_getChar_3b067 47 = .ok (.iload_n 1, 1) := by decide +kernel
theorem dJ2_getChar_3b067_48 : decode cJ2_getChar_3b067 48 = .ok (.baload, 1) := by decide +kernel
theorem dJ2_getChar_3b067_49 : decode cJ2_getChar_3b067 49 = .ok (.sipush 255, 3) := by decide +kernel
theorem dJ2_getChar_3b067_52 : decode cJ2_getChar_3b067 52 = .ok (.iand, 1) := by decide +kernel
theorem dJ2_getChar_3b067_53 : decode cJ2_getChar_3b067 53 = .ok (.getstatic 63, 3) := by decide +kernel
theorem dJ2_getChar_3b067_56 : decode cJ2_getChar_3b067 56 = .ok (.ishl, 1) := by decide +kernel
theorem dJ2_getChar_3b067_57 : decode cJ2_getChar_3b067 57 = .ok (.ior, 1) := by decide +kernel
theorem dJ2_getChar_3b067_58 : decode cJ2_getChar_3b067 58 = .ok (.i2c, 1) := by decide +kernel
theorem dJ2_getChar_3b067_59 : decode cJ2_getChar_3b067 59 = .ok (.ireturn, 1) := by decide +kernel
theorem dJ2_length_9d52b_0 : decode cJ2_length_9d52b 0 = .ok (.aload_n 0, 1) := by decide +kernel
theorem dJ2_length_9d52b_1 : decode cJ2_length_9d52b 1 = .ok (.arraylength, 1) := by decide +kernel
theorem dJ2_length_9d52b_2 : decode cJ2_length_9d52b 2 = .ok (.iconst 1, 1) := by decide +kernel
theorem dJ2_length_9d52b_3 : decode cJ2_length_9d52b 3 = .ok (.ishr, 1) := by decide +kernel
theorem dJ2_length_9d52b_4 : decode cJ2_length_9d52b 4 = .ok (.ireturn, 1) := by decide +kernel
theorem dJ2_coderFromArrayLen_85cad_0 : decode cJ2_coderFromArrayLen_85cad 0 = .ok (.iload_n 1, 1) := by decide +kernel
theorem dJ2_coderFromArrayLen_85cad_1 : decode cJ2_coderFromArrayLen_85cad 1 = .ok (.aload_n 0, 1) := by decide +kernel
theorem dJ2_coderFromArrayLen_85cad_2 : decode cJ2_coderFromArrayLen_85cad 2 = .ok (.arraylength, 1) := by decide +kernel
theorem dJ2_coderFromArrayLen_85cad_3 : decode cJ2_coderFromArrayLen_85cad 3 = .ok (.isub, 1) := by decide +kernel
theorem dJ2_coderFromArrayLen_85cad_4 : decode cJ2_coderFromArrayLen_85cad 4 = .ok (.bipush 31, 2) := by decide +kernel
theorem dJ2_coderFromArrayLen_85cad_6 : decode cJ2_coderFromArrayLen_85cad 6 = .ok (.iushr, 1) := by decide +kernel
theorem dJ2_coderFromArrayLen_85cad_7 : decode cJ2_coderFromArrayLen_85cad 7 = .ok (.i2b, 1) := by decide +kernel
theorem dJ2_coderFromArrayLen_85cad_8 : decode cJ2_coderFromArrayLen_85cad 8 = .ok (.ireturn, 1) := by decide +kernel
theorem dJ2_compress_39247_0 : decode cJ2_compress_39247 0 = .ok (.iload_n 2, 1) := by decide +kernel
theorem dJ2_compress_39247_1 : decode cJ2_compress_39247 1 = .ok (.newarray .byte, 2) := by decide +kernel
theorem dJ2_compress_39247_3 : decode cJ2_compress_39247 3 = .ok (.astore_n 3, 1) := by decide +kernel
theorem dJ2_compress_39247_4 : decode cJ2_compress_39247 4 = .ok (.aload_n 0, 1) := by decide +kernel
theorem dJ2_compress_39247_5 : decode cJ2_compress_39247 5 = .ok (.iload_n 1, 1) := by decide +kernel
theorem dJ2_compress_39247_6 : decode cJ2_compress_39247 6 = .ok (.aload_n 3, 1) := by decide +kernel
theorem dJ2_compress_39247_7 : decode cJ2_compress_39247 7 = .ok (.iconst 0, 1) := by decide +kernel
theorem dJ2_compress_39247_8 : decode cJ2_compress_39247 8 = .ok (.iload_n 2, 1) := by decide +kernel
theorem dJ2_compress_39247_9 : decode cJ2_compress_39247 9 = .ok (.invokestatic 123, 3) := by decide +kernel
theorem dJ2_compress_39247_12 : decode cJ2_compress_39247 12 = .ok (.istore 4, 2) := by decide +kernel
theorem dJ2_compress_39247_14 : decode cJ2_compress_39247 14 = .ok (.iload 4, 2) := by decide +kernel
theorem dJ2_compress_39247_16 : decode cJ2_compress_39247 16 = .ok (.iload_n 2, 1) := by decide +kernel
theorem dJ2_compress_39247_17 : decode cJ2_compress_39247 17 = .ok (.if_icmp .eq 47, 3) := by decide +kernel
theorem dJ2_compress_39247_20 : decode cJ2_compress_39247 20 = .ok (.aload_n 0, 1) := by decide +kernel
theorem dJ2_compress_39247_21 : decode cJ2_compress_39247 21 = .ok (.iload_n 1, 1) := by decide +kernel
theorem dJ2_compress_39247_22 : decode cJ2_compress_39247 22 = .ok (.iconst 1, 1) := by decide +kernel
theorem dJ2_compress_39247_23 : decode cJ2_compress_39247 23 = .ok (.ishl, 1) := by decide +kernel
theorem dJ2_compress_39247_24 : decode cJ2_compress_39247 24 = .ok (.iload_n 1, 1) := by decide +kernel
theorem dJ2_compress_39247_25 : decode cJ2_compress_39247 25 = .ok (.iload_n 2, 1) := by decide +kernel
theorem dJ2_compress_39247_26 : decode cJ2_compress_39247 26 = .ok (.iadd, 1) := by decide +kernel
theorem dJ2_compress_39247_27 : decode cJ2_compress_39247 27 = .ok (.invokestatic 11, 3) := by decide +kernel
theorem dJ2_compress_39247_30 : decode cJ2_compress_39247 30 = .ok (.invokestatic 126, 3) := by decide +kernel
theorem dJ2_compress_39247_33 : decode cJ2_compress_39247 33 = .ok (.astore 5, 2) := by decide +kernel
theorem dJ2_compress_39247_35 : decode cJ2_compress_39247 35 = .ok (.aload 5, 2) := by decide +kernel
theorem dJ2_compress_39247_37 : decode cJ2_compress_39247 37 = .ok (.iload 4, 2) := by decide +kernel
theorem dJ2_compress_39247_39 : decode cJ2_compress_39247 39 = .ok (.invokestatic 71, 3) := by decide +kernel
theorem dJ2_compress_39247_42 : decode cJ2_compress_39247 42 = .ok (.sipush 255, 3) := by decide +kernel
theorem dJ2_compress_39247_45 : decode cJ2_compress_39247 45 = .ok (.if_icmp .gt 16, 3) := by decide +kernel
theorem dJ2_compress_39247_48 : decode cJ2_compress_39247 48 = .ok (.aload 5, 2) := by decide +kernel
theorem dJ2_compress_39247_50 : decode cJ2_compress_39247 50 = .ok (.iconst 0, 1) := by decide +kernel
theorem dJ2_compress_39247_51 : decode cJ2_compress_39247 51 = .ok (.aload_n 3, 1) := by decide +kernel
theorem dJ2_compress_39247_52 : decode cJ2_compress_39247 52 = .ok (.iconst 0, 1) := by decide +kernel
theorem dJ2_compress_39247_53 : decode cJ2_compress_39247 53 = .ok (.iload_n 2, 1) := by decide +kernel
theorem dJ2_compress_39247_54 : decode cJ2_compress_39247 54 = .ok (.invokestatic 123, 3) := by decide +kernel
theorem dJ2_compress_39247_57 : decode cJ2_compress_39247 57 = .ok (.iload_n 2, 1) := by decide +kernel
theorem dJ2_compress_39247_58 : decode cJ2_compress_39247 58 = .ok (.if_icmp .eq 6, 3) := by decide +kernel
theorem dJ2_compress_39247_61 : decode cJ2_compress_39247 61 = .ok (.aload 5, 2) := by decide +kernel
theorem dJ2_compress_39247_63 : decode cJ2_compress_39247 63 = .ok (.areturn, 1) := by decide +kernel
theorem dJ2_compress_39247_64 : decode cJ2_compress_39247 64 = .ok (.aload_n 3, 1) := by decide +kernel
theorem dJ2_compress_39247_65 : decode cJ2_compress_39247 65 = .ok (.areturn, 1) := by decide +kernel
theorem dJ2_compress_5af95_0 : decode cJ2_compress_5af95 0 = .ok (.iload_n 1, 1) := by decide +kernel
theorem dJ2_compress_5af95_1 : decode cJ2_compress_5af95 1 = .ok (.iload 4, 2) := by decide +kernel
theorem dJ2_compress_5af95_3 : decode cJ2_compress_5af95 3 = .ok (.aload_n 0, 1) := by decide +kernel
theorem dJ2_compress_5af95_4 : decode cJ2_compress_5af95 4 = .ok (.invokestatic 173, 3) := by decide +kernel
theorem dJ2_compress_5af95_7 : decode cJ2_compress_5af95 7 = .ok (.iconst 0, 1) := by decide +kernel
theorem dJ2_compress_5af95_8 : decode cJ2_compress_5af95 8 = .ok (.istore 5, 2) := by decide +kernel
theorem dJ2_compress_5af95_10 : decode cJ2_compress_5af95 10 = .ok (.iload 5, 2) := by decide +kernel
theorem dJ2_compress_5af95_12 : decode cJ2_compress_5af95 12 = .ok (.iload 4, 2) := by decide +kernel
theorem dJ2_compress_5af95_14 : decode cJ2_compress_5af95 14 = .ok (.if_icmp .ge 39, 3) := by decide +kernel
theorem dJ2_compress_5af95_17 : decode cJ2_compress_5af95 17 = .ok (.aload_n 0, 1) := by decide +kernel
theorem dJ2_compress_5af95_18 : decode cJ2_compress_5af95 18 = .ok (.iload_n 1, 1) := by decide +kernel
theorem dJ2_compress_5af95_19 : decode cJ2_compress_5af95 19 = .ok (.invokestatic 71, 3) := by decide +kernel
theorem dJ2_compress_5af95_22 : decode cJ2_compress_5af95 22 = .ok (.istore 6, 2) := by decide +kernel
theorem dJ2_compress_5af95_24 : decode cJ2_compress_5af95 24 = .ok (.iload 6, 2) := by decide +kernel
theorem dJ2_compress_5af95_26 : decode cJ2_compress_5af95 26 = .ok (.sipush 255, 3) := by decide +kernel
theorem dJ2_compress_5af95_29 : decode cJ2_compress_5af95 29 = .ok (.if_icmp .le 6, 3) := by decide +kernel
theorem dJ2_compress_5af95_32 : decode cJ2_compress_5af95 32 = .ok (.iload 5, 2) := by decide +kernel
theorem dJ2_compress_5af95_34 : decode cJ2_compress_5af95 34 = .ok (.ireturn, 1) := by decide +kernel
theorem dJ2_compress_5af95_35 : decode cJ2_compress_5af95 35 = .ok (.aload_n 2, 1) := by decide +kernel
theorem dJ2_compress_5af95_36 : decode cJ2_compress_5af95 36 = .ok (.iload_n 3, 1) := by decide +kernel
theorem dJ2_compress_5af95_37 : decode cJ2_compress_5af95 37 = .ok (.iload 6, 2) := by decide +kernel
theorem dJ2_compress_5af95_39 : decode cJ2_compress_5af95 39 = .ok (.i2b, 1) := by decide +kernel
theorem dJ2_compress_5af95_40 : decode cJ2_compress_5af95 40 = .ok (.bastore, 1) := by decide +kernel
theorem dJ2_compress_5af95_41 : decode cJ2_compress_5af95 41 = .ok (.iinc 1 1, 3) := by decide +kernel
theorem dJ2_compress_5af95_44 : decode cJ2_compress_5af95 44 = .ok (.iinc 3 1, 3) := by decide +kernel
theorem dJ2_compress_5af95_47 : decode cJ2_compress_5af95 47 = .ok (.iinc 5 1, 3) := by decide +kernel
theorem dJ2_compress_5af95_50 : decode cJ2_compress_5af95 50 = .ok (.goto (-40), 3) := by decide +kernel
theorem dJ2_compress_5af95_53 : decode cJ2_compress_5af95 53 = .ok (.iload 4, 2) := by decide +kernel
theorem dJ2_compress_5af95_55 : decode cJ2_compress_5af95 55 = .ok (.ireturn, 1) := by decide +kernel
theorem dJ2_getChars_46870_0 : decode cJ2_getChars_46870 0 = .ok (.iload_n 1, 1) := by decide +kernel
theorem dJ2_getChars_46870_1 : decode cJ2_getChars_46870 1 = .ok (.iload_n 2, 1) := by decide +kernel
theorem dJ2_getChars_46870_2 : decode cJ2_getChars_46870 2 = .ok (.aload_n 3, 1) := by decide +kernel
theorem dJ2_getChars_46870_3 : decode cJ2_getChars_46870 3 = .ok (.invokestatic 96, 3) := by decide +kernel
theorem dJ2_getChars_46870_6 : decode cJ2_getChars_46870 6 = .ok (.iload_n 0, 1) := by decide +kernel
theorem dJ2_getChars_46870_7 : decode cJ2_getChars_46870 7 = .ok (.iload_n 2, 1) := by decide +kernel
theorem dJ2_getChars_46870_8 : decode cJ2_getChars_46870 8 = .ok (.aload_n 3, 1) := by decide +kernel
theorem dJ2_getChars_46870_9 : decode cJ2_getChars_46870 9 = .ok (.invokestatic 393, 3) := by decide +kernel
theorem dJ2_getChars_46870_12 : decode cJ2_getChars_46870 12 = .ok (.istore 4, 2) := by decide +kernel
theorem dJ2_getChars_46870_14 : decode cJ2_getChars_46870 14 = .ok (.getstatic 44, 3) := by decide +kernel
theorem dJ2_getChars_46870_17 : decode cJ2_getChars_46870 17 = .ok (.ifCond .ne 17, 3) := by decide +kernel
theorem dJ2_getChars_46870_20 : decode cJ2_getChars_46870 20 = .ok (.iload_n 1, 1) := by decide +kernel
theorem dJ2_getChars_46870_21 : decode cJ2_getChars_46870 21 = .ok (.iload 4, 2) := by decide +kernel
theorem dJ2_getChars_46870_23 : decode cJ2_getChars_46870 23 = .ok (.if_icmp .eq 11, 3) := by decide +kernel
theorem dJ2_getChars_46870_26 : decode cJ2_getChars_46870 26 = .ok (.new 52, 3) := by decide +kernel
theorem dJ2_getChars_46870_29 : decode cJ2_getChars_46870 29 = .ok (.dup, 1) := by decide +kernel
theorem dJ2_getChars_46870_30 : decode cJ2_getChars_46870 30 = .ok (.invokespecial 66, 3) := by decide +kernel
theorem dJ2_getChars_46870_33 : decode cJ2_getChars_46870 33 = .ok (.athrow, 1) := by decide +kernel
theorem dJ2_getChars_46870_34 : decode cJ2_getChars_46870 34 = .ok (.iload 4, 2) := by decide +kernel
theorem dJ2_getChars_46870_36 : decode cJ2_getChars_46870 36 = .ok (.ireturn, 1) := by decide +kernel
theorem dJ2_putCharsAt_cd4e5_0 : decode cJ2_putCharsAt_cd4e5 0 = .ok (.iload_n 1, 1) := by decide +kernel
theorem dJ2_putCharsAt_cd4e5_1 : decode cJ2_putCharsAt_cd4e5 1 = .ok (.iconst 4, 1) := by decide +kernel
theorem dJ2_putCharsAt_cd4e5_2 : decode cJ2_putCharsAt_cd4e5 2 = .ok (.iadd, 1) := by decide +kernel
theorem dJ2_putCharsAt_cd4e5_3 : decode cJ2_putCharsAt_cd4e5 3 = .ok (.istore 6, 2) := by decide +kernel
theorem dJ2_putCharsAt_cd4e5_5 : decode cJ2_putCharsAt_cd4e5 5 = .ok (.iload_n 1, 1) := by decide +kernel
theorem dJ2_putCharsAt_cd4e5_6 : decode cJ2_putCharsAt_cd4e5 6 = .ok (.iload 6, 2) := by decide +kernel
theorem dJ2_putCharsAt_cd4e5_8 : decode cJ2_putCharsAt_cd4e5 8 = .ok (.aload_n 0, 1) := by decide +kernel
theorem dJ2_putCharsAt_cd4e5_9 : decode cJ2_putCharsAt_cd4e5 9 = .ok (.invokestatic 96, 3) := by decide +kernel
theorem dJ2_putCharsAt_cd4e5_12 : decode cJ2_putCharsAt_cd4e5 12 = .ok (.aload_n 0, 1) := by decide +kernel
theorem dJ2_putCharsAt_cd4e5_13 : decode cJ2_putCharsAt_cd4e5 13 = .ok (.iload_n 1, 1) := by decide +kernel
theorem dJ2_putCharsAt_cd4e5_14 : decode cJ2_putCharsAt_cd4e5 14 = .ok (.iinc 1 1, 3) := by decide +kernel
theorem dJ2_putCharsAt_cd4e5_17 : decode cJ2_putCharsAt_cd4e5 17 = .ok (.iload_n 2, 1) := by decide +kernel
theorem dJ2_putCharsAt_cd4e5_18 : decode cJ2_putCharsAt_cd4e5 18 = .ok (.invokestatic 111, 3) := by decide +kernel
theorem dJ2_putCharsAt_cd4e5_21 : decode cJ2_putCharsAt_cd4e5 21 = .ok (.aload_n 0, 1) := by decide +kernel
theorem dJ2_putCharsAt_cd4e5_22 : decode cJ2_putCharsAt_cd4e5 22 = .ok (.iload_n 1, 1) := by decide +kernel
theorem dJ2_putCharsAt_cd4e5_23 : decode cJ2_putCharsAt_cd4e5 23 = .ok (.iinc 1 1, 3) := by decide +kernel
theorem dJ2_putCharsAt_cd4e5_26 : decode cJ2_putCharsAt_cd4e5 26 = .ok (.iload_n 3, 1) := by decide +kernel
theorem dJ2_putCharsAt_cd4e5_27 : decode cJ2_putCharsAt_cd4e5 27 = .ok (.invokestatic 111, 3) := by decide +kernel
theorem dJ2_putCharsAt_cd4e5_30 : decode cJ2_putCharsAt_cd4e5 30 = .ok (.aload_n 0, 1) := by decide +kernel
theorem dJ2_putCharsAt_cd4e5_31 : decode cJ2_putCharsAt_cd4e5 31 = .ok (.iload_n 1, 1) := by decide +kernel
theorem dJ2_putCharsAt_cd4e5_32 : decode cJ2_putCharsAt_cd4e5 32 = .ok (.iinc 1 1, 3) := by decide +kernel
theorem dJ2_putCharsAt_cd4e5_35 : decode cJ2_putCharsAt_cd4e5 35 = .ok (.iload 4, 2) := by decide +kernel
theorem dJ2_putCharsAt_cd4e5_37 : decode cJ2_putCharsAt_cd4e5 37 = .ok (.invokestatic 111, 3) := by decide +kernel
theorem dJ2_putCharsAt_cd4e5_40 : decode cJ2_putCharsAt_cd4e5 40 = .ok (.aload_n 0, 1) := by decide +kernel
theorem dJ2_putCharsAt_cd4e5_41 : decode cJ2_putCharsAt_cd4e5 41 = .ok (.iload_n 1, 1) := by decide +kernel
theorem dJ2_putCharsAt_cd4e5_42 : decode cJ2_putCharsAt_cd4e5 42 = .ok (.iinc 1 1, 3) := by decide +kernel
theorem dJ2_putCharsAt_cd4e5_45 : decode cJ2_putCharsAt_cd4e5 45 = .ok (.iload 5, 2) := by decide +kernel
theorem dJ2_putCharsAt_cd4e5_47 : decode cJ2_putCharsAt_cd4e5 47 = .ok (.invokestatic 111, 3) := by decide +kernel
theorem dJ2_putCharsAt_cd4e5_50 : decode cJ2_putCharsAt_cd4e5 50 = .ok (.getstatic 44, 3) := by decide +kernel
theorem dJ2_putCharsAt_cd4e5_53 : decode cJ2_putCharsAt_cd4e5 53 = .ok (.ifCond .ne 17, 3) := by decide +kernel
theorem dJ2_putCharsAt_cd4e5_56 : decode cJ2_putCharsAt_cd4e5 56 = .ok (.iload_n 1, 1) := by decide +kernel
theorem dJ2_putCharsAt_cd4e5_57 : decode cJ2_putCharsAt_cd4e5 57 = .ok (.iload 6, 2) := by decide +kernel
theorem dJ2_putCharsAt_cd4e5_59 : decode cJ2_putCharsAt_cd4e5 59 = .ok (.if_icmp .eq 11, 3) := by decide +kernel
theorem dJ2_putCharsAt_cd4e5_62 : decode cJ2_putCharsAt_cd4e5 62 = .ok (.new 52, 3) := by decide +kernel
theorem dJ2_putCharsAt_cd4e5_65 : decode cJ2_putCharsAt_cd4e5 65 = .ok (.dup, 1) := by decide +kernel
theorem dJ2_putCharsAt_cd4e5_66 : decode cJ2_putCharsAt_cd4e5 66 = .ok (.invokespecial 66, 3) := by decide +kernel
theorem dJ2_putCharsAt_cd4e5_69 : decode cJ2_putCharsAt_cd4e5 69 = .ok (.athrow, 1) := by decide +kernel
theorem dJ2_putCharsAt_cd4e5_70 : decode cJ2_putCharsAt_cd4e5 70 = .ok (.iload 6, 2) := by decide +kernel
theorem dJ2_putCharsAt_cd4e5_72 : decode cJ2_putCharsAt_cd4e5 72 = .ok (.ireturn, 1) := by decide +kernel
theorem dJ2_charAt_3b067_0 : decode cJ2_charAt_3b067 0 = .ok (.iload_n 1, 1) := by decide +kernel
theorem dJ2_charAt_3b067_1 : decode cJ2_charAt_3b067 1 = .ok (.aload_n 0, 1) := by decide +kernel
theorem dJ2_charAt_3b067_2 : decode cJ2_charAt_3b067 2 = .ok (.invokestatic 67, 3) := by decide +kernel
theorem dJ2_charAt_3b067_5 : decode cJ2_charAt_3b067 5 = .ok (.aload_n 0, 1) := by decide +kernel
theorem dJ2_charAt_3b067_6 : decode cJ2_charAt_3b067 6 = .ok (.iload_n 1, 1) := by decide +kernel
theorem dJ2_charAt_3b067_7 : decode cJ2_charAt_3b067 7 = .ok (.invokestatic 71, 3) := by decide +kernel
theorem dJ2_charAt_3b067_10 : decode cJ2_charAt_3b067 10 = .ok (.ireturn, 1) := by decide +kernel
theorem dJ2_inflate_0e8fd_0 : decode cJ2_inflate_0e8fd 0 = .ok (.iload_n 3, 1) := by decide +kernel
theorem dJ2_inflate_0e8fd_1 : decode cJ2_inflate_0e8fd 1 = .ok (.iload 4, 2) := by decide +kernel
theorem dJ2_inflate_0e8fd_3 : decode cJ2_inflate_0e8fd 3 = .ok (.aload_n 2, 1) := by decide +kernel
theorem dJ2_inflate_0e8fd_4 : decode cJ2_inflate_0e8fd 4 = .ok (.invokestatic 173, 3) := by decide +kernel
theorem dJ2_inflate_0e8fd_7 : decode cJ2_inflate_0e8fd 7 = .ok (.iconst 0, 1) := by decide +kernel
theorem dJ2_inflate_0e8fd_8 : decode cJ2_inflate_0e8fd 8 = .ok (.istore 5, 2) := by decide +kernel
theorem dJ2_inflate_0e8fd_10 : decode cJ2_inflate_0e8fd 10 = .ok (.iload 5, 2) := by decide +kernel
theorem dJ2_inflate_0e8fd_12 : decode cJ2_inflate_0e8fd 12 = .ok (.iload 4, 2) := by decide +kernel
theorem dJ2_inflate_0e8fd_14 : decode cJ2_inflate_0e8fd 14 = .ok (.if_icmp .ge 27, 3) := by decide +kernel
theorem dJ2_inflate_0e8fd_17 : decode cJ2_inflate_0e8fd 17 = .ok (.aload_n 2, 1) := by decide +kernel
theorem dJ2_inflate_0e8fd_18 : decode cJ2_inflate_0e8fd 18 = .ok (.iload_n 3, 1) := by decide +kernel
theorem dJ2_inflate_0e8fd_19 : decode cJ2_inflate_0e8fd 19 = .ok (.iinc 3 1, 3) := by decide +kernel
theorem dJ2_inflate_0e8fd_22 : decode cJ2_inflate_0e8fd 22 = .ok (.aload_n 0, 1) := by decide +kernel
theorem dJ2_inflate_0e8fd_23 : decode cJ2_inflate_0e8fd 23 = .ok (.iload_n 1, 1) := by decide +kernel
theorem dJ2_inflate_0e8fd_24 : decode cJ2_inflate_0e8fd 24 = .ok (.iinc 1 1, 3) := by decide +kernel
theorem dJ2_inflate_0e8fd_27 : decode cJ2_inflate_0e8fd 27 = .ok (.baload, 1) := by decide +kernel
theorem dJ2_inflate_0e8fd_28 : decode cJ2_inflate_0e8fd 28 = .ok (.sipush 255, 3) := by decide +kernel
theorem dJ2_inflate_0e8fd_31 : decode cJ2_inflate_0e8fd 31 = .ok (.iand, 1) := by decide +kernel
theorem dJ2_inflate_0e8fd_32 : decode cJ2_inflate_0e8fd 32 = .ok (.invokestatic 111, 3) := by decide +kernel
theorem dJ2_inflate_0e8fd_35 : decode cJ2_inflate_0e8fd 35 = .ok (.iinc 5 1, 3) := by decide +kernel
theorem dJ2_inflate_0e8fd_38 : decode cJ2_inflate_0e8fd 38 = .ok (.goto (-28), 3) := by decide +kernel
theorem dJ2_inflate_0e8fd_41 : decode cJ2_inflate_0e8fd 41 = .ok (.return_, 1) := by decide +kernel
theorem dJ2_getChars_ba4f3_0 : decode cJ2_getChars_ba4f3 0 = .ok (.iload_n 1, 1) := by decide +kernel
theorem dJ2_getChars_ba4f3_1 : decode cJ2_getChars_ba4f3 1 = .ok (.istore 5, 2) := by decide +kernel
theorem dJ2_getChars_ba4f3_3 : decode cJ2_getChars_ba4f3 3 = .ok (.iload_n 0, 1) := by decide +kernel
theorem dJ2_getChars_ba4f3_4 : decode cJ2_getChars_ba4f3 4 = .ok (.ifCond .ge 7, 3) := by decide +kernel
theorem dJ2_getChars_ba4f3_7 : decode cJ2_getChars_ba4f3 7 = .ok (.iconst 1, 1) := by decide +kernel
theorem dJ2_getChars_ba4f3_8 : decode cJ2_getChars_ba4f3 8 = .ok (.goto 4, 3) := by decide +kernel
theorem dJ2_getChars_ba4f3_11 : decode cJ2_getChars_ba4f3 11 = .ok (.iconst 0, 1) := by decide +kernel
theorem dJ2_getChars_ba4f3_12 : decode cJ2_getChars_ba4f3 12 = .ok (.istore 6, 2) := by decide +kernel
theorem dJ2_getChars_ba4f3_14 : decode cJ2_getChars_ba4f3 14 = .ok (.iload 6, 2) := by decide +kernel
theorem dJ2_getChars_ba4f3_16 : decode cJ2_getChars_ba4f3 16 = .ok (.ifCond .ne 6, 3) := by decide +kernel
theorem dJ2_getChars_ba4f3_19 : decode cJ2_getChars_ba4f3 19 = .ok (.iload_n 0, 1) := by decide +kernel
theorem dJ2_getChars_ba4f3_20 : decode cJ2_getChars_ba4f3 20 = .ok (.ineg, 1) := by decide +kernel
theorem dJ2_getChars_ba4f3_21 : decode cJ2_getChars_ba4f3 21 = .ok (.istore_n 0, 1) := by decide +kernel
theorem dJ2_getChars_ba4f3_22 : decode cJ2_getChars_ba4f3 22 = .ok (.iload_n 0, 1) := by decide +kernel
theorem dJ2_getChars_ba4f3_23 : decode cJ2_getChars_ba4f3 23 = .ok (.bipush (-100), 2) := by decide +kernel
theorem dJ2_getChars_ba4f3_25 : decode cJ2_getChars_ba4f3 25 = .ok (.if_icmp .gt 51, 3) := by decide +kernel
theorem dJ2_getChars_ba4f3_28 : decode cJ2_getChars_ba4f3 28 = .ok (.iload_n 0, 1) := by decide +kernel
theorem dJ2_getChars_ba4f3_29 : decode cJ2_getChars_ba4f3 29 = .ok (.bipush 100, 2) := by decide +kernel
theorem dJ2_getChars_ba4f3_31 : decode cJ2_getChars_ba4f3 31 = .ok (.idiv, 1) := by decide +kernel
theorem dJ2_getChars_ba4f3_32 : decode cJ2_getChars_ba4f3 32 = .ok (.istore_n 3, 1) := by decide +kernel
theorem dJ2_getChars_ba4f3_33 : decode cJ2_getChars_ba4f3 33 = .ok (.iload_n 3, 1) := by decide +kernel
theorem dJ2_getChars_ba4f3_34 : decode cJ2_getChars_ba4f3 34 = .ok (.bipush 100, 2) := by decide +kernel
theorem dJ2_getChars_ba4f3_36 : decode cJ2_getChars_ba4f3 36 = .ok (.imul, 1) := by decide +kernel
theorem dJ2_getChars_ba4f3_37 : decode cJ2_getChars_ba4f3 37 = .ok (.iload_n 0, 1) := by decide +kernel
theorem dJ2_getChars_ba4f3_38 : decode cJ2_getChars_ba4f3 38 = .ok (.isub, 1) := by decide +kernel
theorem dJ2_getChars_ba4f3_39 : decode cJ2_getChars_ba4f3 39 = .ok (.istore 4, 2) := by decide +kernel
theorem dJ2_getChars_ba4f3_41 : decode cJ2_getChars_ba4f3 41 = .ok (.iload_n 3, 1) := by decide +kernel
theorem dJ2_getChars_ba4f3_42 : decode cJ2_getChars_ba4f3 42 = .ok (.istore_n 0, 1) := by decide +kernel
theorem dJ2_getChars_ba4f3_43 : decode cJ2_getChars_ba4f3 43 = .ok (.aload_n 2, 1) := by decide +kernel
theorem dJ2_getChars_ba4f3_44 : decode cJ2_getChars_ba4f3 44 = .ok (.iinc 5 (-1), 3) := by decide +kernel
theorem dJ2_getChars_ba4f3_47 : decode cJ2_getChars_ba4f3 47 = .ok (.iload 5, 2) := by decide +kernel
theorem dJ2_getChars_ba4f3_49 : decode cJ2_getChars_ba4f3 49 = .ok (.getstatic 403, 3) := by decide +kernel
theorem dJ2_getChars_ba4f3_52 : decode cJ2_getChars_ba4f3 52 = .ok (.iload 4, 2) := by decide +kernel
theorem dJ2_getChars_ba4f3_54 : decode cJ2_getChars_ba4f3 54 = .ok (.baload, 1) := by decide +kernel
theorem dJ2_getChars_ba4f3_55 : decode cJ2_getChars_ba4f3 55 = .ok (.invokestatic 111, 3) := by decide +kernel
theorem dJ2_getChars_ba4f3_58 : decode cJ2_getChars_ba4f3 58 = .ok (.aload_n 2, 1) := by decide +kernel
theorem dJ2_getChars_ba4f3_59 : decode cJ2_getChars_ba4f3 59 = .ok (.iinc 5 (-1), 3) := by decide +kernel
theorem dJ2_getChars_ba4f3_62 : decode cJ2_getChars_ba4f3 62 = .ok (.iload 5, 2) := by decide +kernel
theorem dJ2_getChars_ba4f3_64 : decode cJ2_getChars_ba4f3 64 = .ok (.getstatic 407, 3) := by decide +kernel
theorem dJ2_getChars_ba4f3_67 : decode cJ2_getChars_ba4f3 67 = .ok (.iload 4, 2) := by decide +kernel
theorem dJ2_getChars_ba4f3_69 : decode cJ2_getChars_ba4f3 69 = .ok (.baload, 1) := by decide +kernel
theorem dJ2_getChars_ba4f3_70 : decode cJ2_getChars_ba4f3 70 = .ok (.invokestatic 111, 3) := by decide +kernel
theorem dJ2_getChars_ba4f3_73 : decode cJ2_getChars_ba4f3 73 = .ok (.goto (-51), 3) := by decide +kernel
theorem dJ2_getChars_ba4f3_76 : decode cJ2_getChars_ba4f3 76 = .ok (.aload_n 2, 1) := by decide +kernel
theorem dJ2_getChars_ba4f3_77 : decode cJ2_getChars_ba4f3 77 = .ok (.iinc 5 (-1), 3) := by decide +kernel
theorem dJ2_getChars_ba4f3_80 : decode cJ2_getChars_ba4f3 80 = .ok (.iload 5, 2) := by decide +kernel
theorem dJ2_getChars_ba4f3_82 : decode cJ2_getChars_ba4f3 82 = .ok (.getstatic 403, 3) := by decide +kernel
theorem dJ2_getChars_ba4f3_85 : decode cJ2_getChars_ba4f3 85 = .ok (.iload_n 0, 1) := by decide +kernel
theorem dJ2_getChars_ba4f3_86 : decode cJ2_getChars_ba4f3 86 = .ok (.ineg, 1) := by decide +kernel
theorem dJ2_getChars_ba4f3_87 : decode cJ2_getChars_ba4f3 87 = .ok (.baload, 1) := by decide +kernel
theorem dJ2_getChars_ba4f3_88 : decode cJ2_getChars_ba4f3 88 = .ok (.invokestatic 111, 3) := by decide +kernel
theorem dJ2_getChars_ba4f3_91 : decode cJ2_getChars_ba4f3 91 = .ok (.iload_n 0, 1) := by decide +kernel
theorem dJ2_getChars_ba4f3_92 : decode cJ2_getChars_ba4f3 92 = .ok (.bipush (-9), 2) := by decide +kernel
theorem dJ2_getChars_ba4f3_94 : decode cJ2_getChars_ba4f3 94 = .ok (.if_icmp .ge 18, 3) := by decide +kernel
theorem dJ2_getChars_ba4f3_97 : decode cJ2_getChars_ba4f3 97 = .ok (.aload_n 2, 1) := by decide +kernel
theorem dJ2_getChars_ba4f3_98 : decode cJ2_getChars_ba4f3 98 = .ok (.iinc 5 (-1), 3) := by decide +kernel
theorem dJ2_getChars_ba4f3_101 : decode cJ2_getChars_ba4f3 101 = .ok (.iload 5, 2) := by decide +kernel
theorem dJ2_getChars_ba4f3_103 : decode cJ2_getChars_ba4f3 103 = .ok (.getstatic 407, 3) := by decide +kernel
theorem dJ2_getChars_ba4f3_106 : decode cJ2_getChars_ba4f3 106 = .ok (.iload_n 0, 1) := by decide +kernel
theorem dJ2_getChars_ba4f3_107 : decode cJ2_getChars_ba4f3 107 = .ok (.ineg, 1) := by decide +kernel
theorem dJ2_getChars_ba4f3_108 : decode cJ2_getChars_ba4f3 108 = .ok (.baload, 1) := by decide +kernel
theorem dJ2_getChars_ba4f3_109 : decode cJ2_getChars_ba4f3 109 = .ok (.invokestatic 111, 3) := by decide +kernel
theorem dJ2_getChars_ba4f3_112 : decode cJ2_getChars_ba4f3 112 = .ok (.iload 6, 2) := by decide +kernel
theorem dJ2_getChars_ba4f3_114 : decode cJ2_getChars_ba4f3 114 = .ok (.ifCond .eq 14, 3) := by decide +kernel
theorem dJ2_getChars_ba4f3_117 : decode cJ2_getChars_ba4f3 117 = .ok (.aload_n 2, 1) := by decide +kernel
theorem dJ2_getChars_ba4f3_118 : decode cJ2_getChars_ba4f3 118 = .ok (.iinc 5 (-1), 3) := by decide +kernel
theorem dJ2_getChars_ba4f3_121 : decode cJ2_getChars_ba4f3 121 = .ok (.iload 5, 2) := by decide +kernel
theorem dJ2_getChars_ba4f3_123 : decode cJ2_getChars_ba4f3 123 = .ok (.bipush 45, 2) := by decide +kernel
theorem dJ2_getChars_ba4f3_125 : decode cJ2_getChars_ba4f3 125 = .ok (.invokestatic 111, 3) := by decide +kernel
theorem dJ2_getChars_ba4f3_128 : decode cJ2_getChars_ba4f3 128 = .ok (.iload 5, 2) := by decide +kernel
theorem dJ2_getChars_ba4f3_130 : decode cJ2_getChars_ba4f3 130 = .ok (.ireturn, 1) := by decide +kernel
theorem dJ2_checkIndex_2214a_0 : decode cJ2_checkIndex_2214a 0 = .ok (.iload_n 0, 1) := by decide +kernel
theorem dJ2_checkIndex_2214a_1 : decode cJ2_checkIndex_2214a 1 = .ok (.aload_n 1, 1) := by decide +kernel
theorem dJ2_checkIndex_2214a_2 : decode cJ2_checkIndex_2214a 2 = .ok (.invokestatic 48, 3) := by decide +kernel
theorem dJ2_checkIndex_2214a_5 : decode cJ2_checkIndex_2214a 5 = .ok (.invokestatic 414, 3) := by decide +kernel
theorem dJ2_checkIndex_2214a_8 : decode cJ2_checkIndex_2214a 8 = .ok (.return_, 1) := by decide +kernel
theorem dJ2_checkBoundsBeginEnd_d044e_0 : decode cJ2_checkBoundsBeginEnd_d044e 0 = .ok (.iload_n 0, 1) := by decide +kernel
theorem dJ2_checkBoundsBeginEnd_d044e_1 : decode cJ2_checkBoundsBeginEnd_d044e 1 = .ok (.iload_n 1, 1) := by decide +kernel
theorem dJ2_checkBoundsBeginEnd_d044e_2 : decode cJ2_checkBoundsBeginEnd_d044e 2 = .ok (.aload_n 2, 1) := by decide +kernel
theorem dJ2_checkBoundsBeginEnd_d044e_3 : decode cJ2_checkBoundsBeginEnd_d044e 3 = .ok (.invokestatic 48, 3) := by decide +kernel
theorem dJ2_checkBoundsBeginEnd_d044e_6 : decode cJ2_checkBoundsBeginEnd_d044e 6 = .ok (.invokestatic 241, 3) := by decide +kernel
theorem dJ2_checkBoundsBeginEnd_d044e_9 : decode cJ2_checkBoundsBeginEnd_d044e 9 = .ok (.return_, 1) := by decide +kernel
theorem dJ2_checkBoundsOffCount_d044e_0 : decode cJ2_checkBoundsOffCount_d044e 0 = .ok (.iload_n 0, 1) := by decide +kernel
theorem dJ2_checkBoundsOffCount_d044e_1 : decode cJ2_checkBoundsOffCount_d044e 1 = .ok (.iload_n 1, 1) := by decide +kernel
theorem dJ2_checkBoundsOffCount_d044e_2 : decode cJ2_checkBoundsOffCount_d044e 2 = .ok (.aload_n 2, 1) := by decide +kernel
theorem dJ2_checkBoundsOffCount_d044e_3 : decode cJ2_checkBoundsOffCount_d044e 3 = .ok (.invokestatic 48, 3) := by decide +kernel
theorem dJ2_checkBoundsOffCount_d044e_6 : decode cJ2_checkBoundsOffCount_d044e 6 = .ok (.invokestatic 419, 3) := by decide +kernel
theorem dJ2_checkBoundsOffCount_d044e_9 : decode cJ2_checkBoundsOffCount_d044e 9 = .ok (.pop, 1) := by decide +kernel
theorem dJ2_checkBoundsOffCount_d044e_10 : decode cJ2_checkBoundsOffCount_d044e 10 = .ok (.return_, 1) := by decide +kernel
theorem dJ7_copyOf_9075b_0 : decode cJ7_copyOf_9075b 0 = .ok (.iload_n 1, 1) := by decide +kernel
theorem dJ7_copyOf_9075b_1 : decode cJ7_copyOf_9075b 1 = .ok (.aload_n 0, 1) := by decide +kernel
theorem dJ7_copyOf_9075b_2 : decode cJ7_copyOf_9075b 2 = .ok (.arraylength, 1) := by decide +kernel
theorem dJ7_copyOf_9075b_3 : decode cJ7_copyOf_9075b 3 = .ok (.if_icmp .ne 11, 3) := by decide +kernel
theorem dJ7_copyOf_9075b_6 : decode cJ7_copyOf_9075b 6 = .ok (.aload_n 0, 1) := by decide +kernel
theorem dJ7_copyOf_9075b_7 : decode cJ7_copyOf_9075b 7 = .ok (.invokevirtual 310, 3) := by decide +kernel
theorem dJ7_copyOf_9075b_10 : decode cJ7_copyOf_9075b 10 = .ok (.checkcast 311, 3) := by decide +kernel
theorem dJ7_copyOf_9075b_13 : decode cJ7_copyOf_9075b 13 = .ok (.areturn, 1) := by decide +kernel
theorem dJ7_copyOf_9075b_14 : decode cJ7_copyOf_9075b 14 = .ok (.iload_n 1, 1) := by decide +kernel
theorem dJ7_copyOf_9075b_15 : decode cJ7_copyOf_9075b 15 = .ok (.newarray .byte, 2) := by decide +kernel
theorem dJ7_copyOf_9075b_17 : decode cJ7_copyOf_9075b 17 = .ok (.astore_n 2, 1) := by decide +kernel
theorem dJ7_copyOf_9075b_18 : decode cJ7_copyOf_9075b 18 = .ok (.aload_n 0, 1) := by decide +kernel
theorem dJ7_copyOf_9075b_19 : decode cJ7_copyOf_9075b 19 = .ok (.iconst 0, 1) := by decide +kernel
theorem dJ7_copyOf_9075b_20 : decode cJ7_copyOf_9075b 20 = .ok (.aload_n 2, 1) := by decide +kernel
theorem dJ7_copyOf_9075b_21 : decode cJ7_copyOf_9075b 21 = .ok (.iconst 0, 1) := by decide +kernel
theorem dJ7_copyOf_9075b_22 : decode cJ7_copyOf_9075b 22 = .ok (.aload_n 0, 1) := by decide +kernel
theorem dJ7_copyOf_9075b_23 : decode cJ7_copyOf_9075b 23 = .ok (.arraylength, 1) := by decide +kernel
theorem dJ7_copyOf_9075b_24 : decode cJ7_copyOf_9075b 24 = .ok (.iload_n 1, 1) := by decide +kernel
theorem dJ7_copyOf_9075b_25 : decode cJ7_copyOf_9075b 25 = .ok (.invokestatic 304, 3) := by decide +kernel
theorem dJ7_copyOf_9075b_28 : decode cJ7_copyOf_9075b 28 = .ok (.invokestatic 150, 3) := by decide +kernel
theorem dJ7_copyOf_9075b_31 : decode cJ7_copyOf_9075b 31 = .ok (.aload_n 2, 1) := by decide +kernel
theorem dJ7_copyOf_9075b_32 : decode cJ7_copyOf_9075b 32 = .ok (.areturn, 1) := by decide +kernel
theorem dJ7_checkLength_df160_0 : decode cJ7_checkLength_df160 0 = .ok (.iload_n 1, 1) := by decide +kernel
theorem dJ7_checkLength_df160_1 : decode cJ7_checkLength_df160 1 = .ok (.iload_n 0, 1) := by decide +kernel
theorem dJ7_checkLength_df160_2 : decode cJ7_checkLength_df160 2 = .ok (.if_icmp .ge 35, 3) := by decide +kernel
theorem dJ7_checkLength_df160_5 : decode cJ7_checkLength_df160 5 = .ok (.new 43, 3) := by decide +kernel
theorem dJ7_checkLength_df160_8 : decode cJ7_checkLength_df160 8 = .ok (.dup, 1) := by decide +kernel
theorem dJ7_checkLength_df160_9 : decode cJ7_checkLength_df160 9 = .ok (.new 45, 3) := by decide +kernel
theorem dJ7_checkLength_df160_12 : decode cJ7_checkLength_df160 12 = .ok (.dup, 1) := by decide +kernel
theorem dJ7_checkLength_df160_13 : decode cJ7_checkLength_df160 13 = .ok (.invokespecial 47, 3) := by decide +kernel
theorem dJ7_checkLength_df160_16 : decode cJ7_checkLength_df160 16 = .ok (.iload_n 0, 1) := by decide +kernel
theorem dJ7_checkLength_df160_17 : decode cJ7_checkLength_df160 17 = .ok (.invokevirtual 54, 3) := by decide +kernel
theorem dJ7_checkLength_df160_20 : decode cJ7_checkLength_df160 20 = .ok (.ldc_w 337, 3) := by decide +kernel
theorem dJ7_checkLength_df160_23 : decode cJ7_checkLength_df160 23 = .ok (.invokevirtual 50, 3) := by decide +kernel
theorem dJ7_checkLength_df160_26 : decode cJ7_checkLength_df160 26 = .ok (.iload_n 1, 1) := by decide +kernel
theorem dJ7_checkLength_df160_27 : decode cJ7_checkLength_df160 27 = .ok (.invokevirtual 54, 3) := by decide +kernel
theorem dJ7_checkLength_df160_30 : decode cJ7_checkLength_df160 30 = .ok (.invokevirtual 61, 3) := by decide +kernel
theorem dJ7_checkLength_df160_33 : decode cJ7_checkLength_df160 33 = .ok (.invokespecial 65, 3) := by decide +kernel
theorem dJ7_checkLength_df160_36 : decode cJ7_checkLength_df160 36 = .ok (.athrow, 1) := by decide +kernel
theorem dJ7_checkLength_df160_37 : decode cJ7_checkLength_df160 37 = .ok (.return_, 1) := by decide +kernel
theorem dJ7_copyOfRange_39247_0 : decode cJ7_copyOfRange_39247 0 = .ok (.iload_n 1, 1) := by decide +kernel
theorem dJ7_copyOfRange_39247_1 : decode cJ7_copyOfRange_39247 1 = .ok (.ifCond .ne 9, 3) := by decide +kernel
theorem dJ7_copyOfRange_39247_4 : decode cJ7_copyOfRange_39247 4 = .ok (.iload_n 2, 1) := by decide +kernel
theorem dJ7_copyOfRange_39247_5 : decode cJ7_copyOfRange_39247 5 = .ok (.aload_n 0, 1) := by decide +kernel
theorem dJ7_copyOfRange_39247_6 : decode cJ7_copyOfRange_39247 6 = .ok (.arraylength, 1) := by decide +kernel
theorem dJ7_copyOfRange_39247_7 : decode cJ7_copyOfRange_39247 7 = .ok (.if_icmp .eq 10, 3) := by decide +kernel
theorem dJ7_copyOfRange_39247_10 : decode cJ7_copyOfRange_39247 10 = .ok (.aload_n 0, 1) := by decide +kernel
theorem dJ7_copyOfRange_39247_11 : decode cJ7_copyOfRange_39247 11 = .ok (.iload_n 1, 1) := by decide +kernel
theorem dJ7_copyOfRange_39247_12 : decode cJ7_copyOfRange_39247 12 = .ok (.iload_n 2, 1) := by decide +kernel
theorem dJ7_copyOfRange_39247_13 : decode cJ7_copyOfRange_39247 13 = .ok (.invokestatic 339, 3) := by decide +kernel
theorem dJ7_copyOfRange_39247_16 : decode cJ7_copyOfRange_39247 16 = .ok (.areturn, 1) := by decide +kernel
theorem dJ7_copyOfRange_39247_17 : decode cJ7_copyOfRange_39247 17 = .ok (.aload_n 0, 1) := by decide +kernel
theorem dJ7_copyOfRange_39247_18 : decode cJ7_copyOfRange_39247 18 = .ok (.invokevirtual 310, 3) := by decide +kernel
theorem dJ7_copyOfRange_39247_21 : decode cJ7_copyOfRange_39247 21 = .ok (.checkcast 311, 3) := by decide +kernel
theorem dJ7_copyOfRange_39247_24 : decode cJ7_copyOfRange_39247 24 = .ok (.areturn, 1) := by decide +kernel
theorem dJ7_copyOfRangeByte_39247_0 : decode cJ7_copyOfRangeByte_39247 0 = .ok (.iload_n 1, 1) := by decide +kernel
theorem dJ7_copyOfRangeByte_39247_1 : decode cJ7_copyOfRangeByte_39247 1 = .ok (.iload_n 2, 1) := by decide +kernel
theorem dJ7_copyOfRangeByte_39247_2 : decode cJ7_copyOfRangeByte_39247 2 = .ok (.invokestatic 343, 3) := by decide +kernel
theorem dJ7_copyOfRangeByte_39247_5 : decode cJ7_copyOfRangeByte_39247 5 = .ok (.iload_n 2, 1) := by decide +kernel
theorem dJ7_copyOfRangeByte_39247_6 : decode cJ7_copyOfRangeByte_39247 6 = .ok (.iload_n 1, 1) := by decide +kernel
theorem dJ7_copyOfRangeByte_39247_7 : decode cJ7_copyOfRangeByte_39247 7 = .ok (.isub, 1) := by decide +kernel
theorem dJ7_copyOfRangeByte_39247_8 : decode cJ7_copyOfRangeByte_39247 8 = .ok (.istore_n 3, 1) := by decide +kernel
theorem dJ7_copyOfRangeByte_39247_9 : decode cJ7_copyOfRangeByte_39247 9 = .ok (.iload_n 3, 1) := by decide +kernel
theorem dJ7_copyOfRangeByte_39247_10 : decode cJ7_copyOfRangeByte_39247 10 = .ok (.newarray .byte, 2) := by decide +kernel
theorem dJ7_copyOfRangeByte_39247_12 : decode cJ7_copyOfRangeByte_39247 12 = .ok (.astore 4, 2) := by decide +kernel
theorem dJ7_copyOfRangeByte_39247_14 : decode cJ7_copyOfRangeByte_39247 14 = .ok (.aload_n 0, 1) := by decide +kernel
theorem dJ7_copyOfRangeByte_39247_15 : decode cJ7_copyOfRangeByte_39247 15 = .ok (.iload_n 1, 1) := by decide +kernel
theorem dJ7_copyOfRangeByte_39247_16 : decode cJ7_copyOfRangeByte_39247 16 = .ok (.aload 4, 2) := by decide +kernel
theorem dJ7_copyOfRangeByte_39247_18 : decode cJ7_copyOfRangeByte_39247 18 = .ok (.iconst 0, 1) := by decide +kernel
theorem dJ7_copyOfRangeByte_39247_19 : decode cJ7_copyOfRangeByte_39247 19 = .ok (.aload_n 0, 1) := by decide +kernel
theorem dJ7_copyOfRangeByte_39247_20 : decode cJ7_copyOfRangeByte_39247 20 = .ok (.arraylength, 1) := by decide +kernel
theorem dJ7_copyOfRangeByte_39247_21 : decode cJ7_copyOfRangeByte_39247 21 = .ok (.iload_n 1, 1) := by decide +kernel
theorem dJ7_copyOfRangeByte_39247_22 : decode cJ7_copyOfRangeByte_39247 22 = .ok (.isub, 1) := by decide +kernel
theorem dJ7_copyOfRangeByte_39247_23 : decode cJ7_copyOfRangeByte_39247 23 = .ok (.iload_n 3, 1) := by decide +kernel
theorem dJ7_copyOfRangeByte_39247_24 : decode cJ7_copyOfRangeByte_39247 24 = .ok (.invokestatic 304, 3) := by decide +kernel
theorem dJ7_copyOfRangeByte_39247_27 : decode cJ7_copyOfRangeByte_39247 27 = .ok (.invokestatic 150, 3) := by decide +kernel
theorem dJ7_copyOfRangeByte_39247_30 : decode cJ7_copyOfRangeByte_39247 30 = .ok (.aload 4, 2) := by decide +kernel
theorem dJ7_copyOfRangeByte_39247_32 : decode cJ7_copyOfRangeByte_39247 32 = .ok (.areturn, 1) := by decide +kernel
theorem dJ8_newLength_cabcc_0 : decode cJ8_newLength_cabcc 0 = .ok (.iload_n 0, 1) := by decide +kernel
theorem dJ8_newLength_cabcc_1 : decode cJ8_newLength_cabcc 1 = .ok (.iload_n 1, 1) := by decide +kernel
theorem dJ8_newLength_cabcc_2 : decode cJ8_newLength_cabcc 2 = .ok (.iload_n 2, 1) := by decide +kernel
theorem dJ8_newLength_cabcc_3 : decode cJ8_newLength_cabcc 3 = .ok (.invokestatic 194, 3) := by decide +kernel
theorem dJ8_newLength_cabcc_6 : decode cJ8_newLength_cabcc 6 = .ok (.iadd, 1) := by decide +kernel
theorem dJ8_newLength_cabcc_7 : decode cJ8_newLength_cabcc 7 = .ok (.istore_n 3, 1) := by decide +kernel
theorem dJ8_newLength_cabcc_8 : decode cJ8_newLength_cabcc 8 = .ok (.iconst 0, 1) := by decide +kernel
theorem dJ8_newLength_cabcc_9 : decode cJ8_newLength_cabcc 9 = .ok (.iload_n 3, 1) := by decide +kernel
theorem dJ8_newLength_cabcc_10 : decode cJ8_newLength_cabcc 10 = .ok (.if_icmp .ge 11, 3) := by decide +kernel
theorem dJ8_newLength_cabcc_13 : decode cJ8_newLength_cabcc 13 = .ok (.iload_n 3, 1) := by decide +kernel
theorem dJ8_newLength_cabcc_14 : decode cJ8_newLength_cabcc 14 = .ok (.ldc 200, 2) := by decide +kernel
theorem dJ8_newLength_cabcc_16 : decode cJ8_newLength_cabcc 16 = .ok (.if_icmp .gt 5, 3) := by decide +kernel
theorem dJ8_newLength_cabcc_19 : decode cJ8_newLength_cabcc 19 = .ok (.iload_n 3, 1) := by decide +kernel
theorem dJ8_newLength_cabcc_20 : decode cJ8_newLength_cabcc 20 = .ok (.ireturn, 1) := by decide +kernel
theorem dJ8_newLength_cabcc_21 : decode cJ8_newLength_cabcc 21 = .ok (.iload_n 0, 1) := by decide +kernel
theorem dJ8_newLength_cabcc_22 : decode cJ8_newLength_cabcc 22 = .ok (.iload_n 1, 1) := by decide +kernel
theorem dJ8_newLength_cabcc_23 : decode cJ8_newLength_cabcc 23 = .ok (.invokestatic 201, 3) := by decide +kernel
theorem dJ8_newLength_cabcc_26 : decode cJ8_newLength_cabcc 26 = .ok (.ireturn, 1) := by decide +kernel
theorem dJ8_hugeLength_7cf53_0 : decode cJ8_hugeLength_7cf53 0 = .ok (.iload_n 0, 1) := by decide +kernel
theorem dJ8_hugeLength_7cf53_1 : decode cJ8_hugeLength_7cf53 1 = .ok (.iload_n 1, 1) := by decide +kernel
theorem dJ8_hugeLength_7cf53_2 : decode cJ8_hugeLength_7cf53 2 = .ok (.iadd, 1) := by decide +kernel
theorem dJ8_hugeLength_7cf53_3 : decode cJ8_hugeLength_7cf53 3 = .ok (.istore_n 2, 1) := by decide +kernel
theorem dJ8_hugeLength_7cf53_4 : decode cJ8_hugeLength_7cf53 4 = .ok (.iload_n 2, 1) := by decide +kernel
theorem dJ8_hugeLength_7cf53_5 : decode cJ8_hugeLength_7cf53 5 = .ok (.ifCond .ge 44, 3) := by decide +kernel
theorem dJ8_hugeLength_7cf53_8 : decode cJ8_hugeLength_7cf53 8 = .ok (.new 204, 3) := by decide +kernel
theorem dJ8_hugeLength_7cf53_11 : decode cJ8_hugeLength_7cf53 11 = .ok (.dup, 1) := by decide +kernel
theorem dJ8_hugeLength_7cf53_12 : decode cJ8_hugeLength_7cf53 12 = .ok (.new 89, 3) := by decide +kernel
theorem dJ8_hugeLength_7cf53_15 : decode cJ8_hugeLength_7cf53 15 = .ok (.dup, 1) := by decide +kernel
theorem dJ8_hugeLength_7cf53_16 : decode cJ8_hugeLength_7cf53 16 = .ok (.invokespecial 91, 3) := by decide +kernel
theorem dJ8_hugeLength_7cf53_19 : decode cJ8_hugeLength_7cf53 19 = .ok (.ldc 206, 2) := by decide +kernel
theorem dJ8_hugeLength_7cf53_21 : decode cJ8_hugeLength_7cf53 21 = .ok (.invokevirtual 94, 3) := by decide +kernel
theorem dJ8_hugeLength_7cf53_24 : decode cJ8_hugeLength_7cf53 24 = .ok (.iload_n 0, 1) := by decide +kernel
theorem dJ8_hugeLength_7cf53_25 : decode cJ8_hugeLength_7cf53 25 = .ok (.invokevirtual 98, 3) := by decide +kernel
theorem dJ8_hugeLength_7cf53_28 : decode cJ8_hugeLength_7cf53 28 = .ok (.ldc 208, 2) := by decide +kernel
theorem dJ8_hugeLength_7cf53_30 : decode cJ8_hugeLength_7cf53 30 = .ok (.invokevirtual 94, 3) := by decide +kernel
theorem dJ8_hugeLength_7cf53_33 : decode cJ8_hugeLength_7cf53 33 = .ok (.iload_n 1, 1) := by decide +kernel
theorem dJ8_hugeLength_7cf53_34 : decode cJ8_hugeLength_7cf53 34 = .ok (.invokevirtual 98, 3) := by decide +kernel
theorem dJ8_hugeLength_7cf53_37 : decode cJ8_hugeLength_7cf53 37 = .ok (.ldc 210, 2) := by decide +kernel
theorem dJ8_hugeLength_7cf53_39 : decode cJ8_hugeLength_7cf53 39 = .ok (.invokevirtual 94, 3) := by decide +kernel
theorem dJ8_hugeLength_7cf53_42 : decode cJ8_hugeLength_7cf53 42 = .ok (.invokevirtual 101, 3) := by decide +kernel
theorem dJ8_hugeLength_7cf53_45 : decode cJ8_hugeLength_7cf53 45 = .ok (.invokespecial 212, 3) := by decide +kernel
theorem dJ8_hugeLength_7cf53_48 : decode cJ8_hugeLength_7cf53 48 = .ok (.athrow, 1) := by decide +kernel
theorem dJ8_hugeLength_7cf53_49 : decode cJ8_hugeLength_7cf53 49 = .ok (.iload_n 2, 1) := by decide +kernel
theorem dJ8_hugeLength_7cf53_50 : decode cJ8_hugeLength_7cf53 50 = .ok (.ldc 200, 2) := by decide +kernel
theorem dJ8_hugeLength_7cf53_52 : decode cJ8_hugeLength_7cf53 52 = .ok (.if_icmp .gt 6, 3) := by decide +kernel
theorem dJ8_hugeLength_7cf53_55 : decode cJ8_hugeLength_7cf53 55 = .ok (.ldc 200, 2) := by decide +kernel
theorem dJ8_hugeLength_7cf53_57 : decode cJ8_hugeLength_7cf53 57 = .ok (.ireturn, 1) := by decide +kernel
theorem dJ8_hugeLength_7cf53_58 : decode cJ8_hugeLength_7cf53 58 = .ok (.iload_n 2, 1) := by decide +kernel
theorem dJ8_hugeLength_7cf53_59 : decode cJ8_hugeLength_7cf53 59 = .ok (.ireturn, 1) := by decide +kernel
theorem dJ3_checkIndex_8e157_0 : decode cJ3_checkIndex_8e157 0 = .ok (.iload_n 0, 1) := by decide +kernel
theorem dJ3_checkIndex_8e157_1 : decode cJ3_checkIndex_8e157 1 = .ok (.ifCond .lt 8, 3) := by decide +kernel
theorem dJ3_checkIndex_8e157_4 : decode cJ3_checkIndex_8e157 4 = .ok (.iload_n 0, 1) := by decide +kernel
theorem dJ3_checkIndex_8e157_5 : decode cJ3_checkIndex_8e157 5 = .ok (.iload_n 1, 1) := by decide +kernel
theorem dJ3_checkIndex_8e157_6 : decode cJ3_checkIndex_8e157 6 = .ok (.if_icmp .lt 10, 3) := by decide +kernel
theorem dJ3_checkIndex_8e157_9 : decode cJ3_checkIndex_8e157 9 = .ok (.aload_n 2, 1) := by decide +kernel
theorem dJ3_checkIndex_8e157_10 : decode cJ3_checkIndex_8e157 10 = .ok (.iload_n 0, 1) := by decide +kernel
theorem dJ3_checkIndex_8e157_11 : decode cJ3_checkIndex_8e157 11 = .ok (.iload_n 1, 1) := by decide +kernel
theorem dJ3_checkIndex_8e157_12 : decode cJ3_checkIndex_8e157 12 = .ok (.invokestatic 95, 3) := by decide +kernel
theorem dJ3_checkIndex_8e157_15 : decode cJ3_checkIndex_8e157 15 = .ok (.athrow, 1) := by decide +kernel
theorem dJ3_checkIndex_8e157_16 : decode cJ3_checkIndex_8e157 16 = .ok (.iload_n 0, 1) := by decide +kernel
theorem dJ3_checkIndex_8e157_17 : decode cJ3_checkIndex_8e157 17 = .ok (.ireturn, 1) := by decide +kernel
theorem dJ3_checkFromToIndex_8c36e_0 : decode cJ3_checkFromToIndex_8c36e 0 = .ok (.iload_n 0, 1) := by decide +kernel
theorem dJ3_checkFromToIndex_8c36e_1 : decode cJ3_checkFromToIndex_8c36e 1 = .ok (.ifCond .lt 13, 3) := by decide +kernel
theorem dJ3_checkFromToIndex_8c36e_4 : decode cJ3_checkFromToIndex_8c36e 4 = .ok (.iload_n 0, 1) := by decide +kernel
theorem dJ3_checkFromToIndex_8c36e_5 : decode cJ3_checkFromToIndex_8c36e 5 = .ok (.iload_n 1, 1) := by decide +kernel
theorem dJ3_checkFromToIndex_8c36e_6 : decode cJ3_checkFromToIndex_8c36e 6 = .ok (.if_icmp .gt 8, 3) := by decide +kernel
theorem dJ3_checkFromToIndex_8c36e_9 : decode cJ3_checkFromToIndex_8c36e 9 = .ok (.iload_n 1, 1) := by decide +kernel
theorem dJ3_checkFromToIndex_8c36e_10 : decode cJ3_checkFromToIndex_8c36e 10 = .ok (.iload_n 2, 1) := by decide +kernel
theorem dJ3_checkFromToIndex_8c36e_11 : decode cJ3_checkFromToIndex_8c36e 11 = .ok (.if_icmp .le 11, 3) := by decide +kernel
theorem dJ3_checkFromToIndex_8c36e_14 : decode cJ3_checkFromToIndex_8c36e 14 = .ok (.aload_n 3, 1) := by decide +kernel
theorem dJ3_checkFromToIndex_8c36e_15 : decode cJ3_checkFromToIndex_8c36e 15 = .ok (.iload_n 0, 1) := by decide +kernel
theorem dJ3_checkFromToIndex_8c36e_16 : decode cJ3_checkFromToIndex_8c36e 16 = .ok (.iload_n 1, 1) := by decide +kernel
theorem dJ3_checkFromToIndex_8c36e_17 : decode cJ3_checkFromToIndex_8c36e 17 = .ok (.iload_n 2, 1) := by decide +kernel
theorem dJ3_checkFromToIndex_8c36e_18 : decode cJ3_checkFromToIndex_8c36e 18 = .ok (.invokestatic 99, 3) := by decide +kernel
theorem dJ3_checkFromToIndex_8c36e_21 : decode cJ3_checkFromToIndex_8c36e 21 = .ok (.athrow, 1) := by decide +kernel
theorem dJ3_checkFromToIndex_8c36e_22 : decode cJ3_checkFromToIndex_8c36e 22 = .ok (.iload_n 0, 1) := by decide +kernel
theorem dJ3_checkFromToIndex_8c36e_23 : decode cJ3_checkFromToIndex_8c36e 23 = .ok (.ireturn, 1) := by decide +kernel
theorem dJ3_checkFromIndexSize_8c36e_0 : decode cJ3_checkFromIndexSize_8c36e 0 = .ok (.iload_n 2, 1) := by decide +kernel
theorem dJ3_checkFromIndexSize_8c36e_1 : decode cJ3_checkFromIndexSize_8c36e 1 = .ok (.iload_n 0, 1) := by decide +kernel
theorem dJ3_checkFromIndexSize_8c36e_2 : decode cJ3_checkFromIndexSize_8c36e 2 = .ok (.ior, 1) := by decide +kernel
theorem dJ3_checkFromIndexSize_8c36e_3 : decode cJ3_checkFromIndexSize_8c36e 3 = .ok (.iload_n 1, 1) := by decide +kernel
theorem dJ3_checkFromIndexSize_8c36e_4 : decode cJ3_checkFromIndexSize_8c36e 4 = .ok (.ior, 1) := by decide +kernel
theorem dJ3_checkFromIndexSize_8c36e_5 : decode cJ3_checkFromIndexSize_8c36e 5 = .ok (.ifCond .lt 10, 3) := by decide +kernel
theorem dJ3_checkFromIndexSize_8c36e_8 : decode cJ3_checkFromIndexSize_8c36e 8 = .ok (.iload_n 1, 1) := by decide +kernel
theorem dJ3_checkFromIndexSize_8c36e_9 : decode cJ3_checkFromIndexSize_8c36e 9 = .ok (.iload_n 2, 1) := by decide +kernel
theorem dJ3_checkFromIndexSize_8c36e_10 : decode cJ3_checkFromIndexSize_8c36e 10 = .ok (.iload_n 0, 1) := by decide +kernel
theorem dJ3_checkFromIndexSize_8c36e_11 : decode cJ3_checkFromIndexSize_8c36e 11 = .ok (.isub, 1) := by decide +kernel
theorem dJ3_checkFromIndexSize_8c36e_12 : decode cJ3_checkFromIndexSize_8c36e 12 = .ok (.if_icmp .le 11, 3) := by decide +kernel
theorem dJ3_checkFromIndexSize_8c36e_15 : decode cJ3_checkFromIndexSize_8c36e 15 = .ok (.aload_n 3, 1) := by decide +kernel
theorem dJ3_checkFromIndexSize_8c36e_16 : decode cJ3_checkFromIndexSize_8c36e 16 = .ok (.iload_n 0, 1) := by decide +kernel
theorem dJ3_checkFromIndexSize_8c36e_17 : decode cJ3_checkFromIndexSize_8c36e 17 = .ok (.iload_n 1, 1) := by decide +kernel
theorem dJ3_checkFromIndexSize_8c36e_18 : decode cJ3_checkFromIndexSize_8c36e 18 = .ok (.iload_n 2, 1) := by decide +kernel
theorem dJ3_checkFromIndexSize_8c36e_19 : decode cJ3_checkFromIndexSize_8c36e 19 = .ok (.invokestatic 103, 3) := by decide +kernel
theorem dJ3_checkFromIndexSize_8c36e_22 : decode cJ3_checkFromIndexSize_8c36e 22 = .ok (.athrow, 1) := by decide +kernel
theorem dJ3_checkFromIndexSize_8c36e_23 : decode cJ3_checkFromIndexSize_8c36e 23 = .ok (.iload_n 0, 1) := by decide +kernel
theorem dJ3_checkFromIndexSize_8c36e_24 : decode cJ3_checkFromIndexSize_8c36e 24 = .ok (.ireturn, 1) := by decide +kernel
theorem dL_cell_0 : decode cL_cell 0 = .ok (.iload_n 1, 1) := by decide +kernel
theorem dL_cell_1 : decode cL_cell 1 = .ok (.aload_n 0, 1) := by decide +kernel
theorem dL_cell_2 : decode cL_cell 2 = .ok (.arraylength, 1) := by decide +kernel
theorem dL_cell_3 : decode cL_cell 3 = .ok (.if_icmp .ge 9, 3) := by decide +kernel
theorem dL_cell_6 : decode cL_cell 6 = .ok (.aload_n 0, 1) := by decide +kernel
theorem dL_cell_7 : decode cL_cell 7 = .ok (.iload_n 1, 1) := by decide +kernel
theorem dL_cell_8 : decode cL_cell 8 = .ok (.iaload, 1) := by decide +kernel
theorem dL_cell_9 : decode cL_cell 9 = .ok (.goto 7, 3) := by decide +kernel
theorem dL_cell_12 : decode cL_cell 12 = .ok (.ldc 7, 2) := by decide +kernel
theorem dL_cell_14 : decode cL_cell 14 = .ok (.iload_n 1, 1) := by decide +kernel
theorem dL_cell_15 : decode cL_cell 15 = .ok (.imul, 1) := by decide +kernel
theorem dL_cell_16 : decode cL_cell 16 = .ok (.ireturn, 1) := by decide +kernel
theorem dL_pick_0 : decode cL_pick 0 = .ok (.aload_n 0, 1) := by decide +kernel
theorem dL_pick_1 : decode cL_pick 1 = .ok (.iload_n 1, 1) := by decide +kernel
theorem dL_pick_2 : decode cL_pick 2 = .ok (.invokestatic 8, 3) := by decide +kernel
theorem dL_pick_5 : decode cL_pick 5 = .ok (.iconst 1, 1) := by decide +kernel
theorem dL_pick_6 : decode cL_pick 6 = .ok (.iushr, 1) := by decide +kernel
theorem dL_pick_7 : decode cL_pick 7 = .ok (.iload_n 2, 1) := by decide +kernel
theorem dL_pick_8 : decode cL_pick 8 = .ok (.irem, 1) := by decide +kernel
theorem dL_pick_9 : decode cL_pick 9 = .ok (.ireturn, 1) := by decide +kernel
theorem dL_addHolder_0 : decode cL_addHolder 0 = .ok (.aload_n 0, 1) := by decide +kernel
theorem dL_addHolder_1 : decode cL_addHolder 1 = .ok (.invokevirtual 14, 3) := by decide +kernel
theorem dL_addHolder_4 : decode cL_addHolder 4 = .ok (.ireturn, 1) := by decide +kernel
theorem dL_addHolder_5 : decode cL_addHolder 5 = .ok (.astore_n 1, 1) := by decide +kernel
theorem dL_addHolder_6 : decode cL_addHolder 6 = .ok (.bipush (-76), 2) := by decide +kernel
theorem dL_addHolder_8 : decode cL_addHolder 8 = .ok (.ireturn, 1) := by decide +kernel
theorem dL_seal_0 : decode cL_seal 0 = .ok (.aload_n 0, 1) := by decide +kernel
theorem dL_seal_1 : decode cL_seal 1 = .ok (.iload_n 1, 1) := by decide +kernel
theorem dL_seal_2 : decode cL_seal 2 = .ok (.iload_n 2, 1) := by decide +kernel
theorem dL_seal_3 : decode cL_seal 3 = .ok (.iload_n 3, 1) := by decide +kernel
theorem dL_seal_4 : decode cL_seal 4 = .ok (.iload 4, 2) := by decide +kernel
theorem dL_seal_6 : decode cL_seal 6 = .ok (.invokevirtual 22, 3) := by decide +kernel
theorem dL_seal_9 : decode cL_seal 9 = .ok (.ireturn, 1) := by decide +kernel
theorem dL_seal_10 : decode cL_seal 10 = .ok (.astore 5, 2) := by decide +kernel
theorem dL_seal_12 : decode cL_seal 12 = .ok (.bipush (-78), 2) := by decide +kernel
theorem dL_seal_14 : decode cL_seal 14 = .ok (.ireturn, 1) := by decide +kernel
theorem dL_seal_15 : decode cL_seal 15 = .ok (.astore 5, 2) := by decide +kernel
theorem dL_seal_17 : decode cL_seal 17 = .ok (.bipush (-76), 2) := by decide +kernel
theorem dL_seal_19 : decode cL_seal 19 = .ok (.ireturn, 1) := by decide +kernel
theorem dL_setShare_0 : decode cL_setShare 0 = .ok (.aload_n 0, 1) := by decide +kernel
theorem dL_setShare_1 : decode cL_setShare 1 = .ok (.iload_n 1, 1) := by decide +kernel
theorem dL_setShare_2 : decode cL_setShare 2 = .ok (.iload_n 2, 1) := by decide +kernel
theorem dL_setShare_3 : decode cL_setShare 3 = .ok (.invokevirtual 28, 3) := by decide +kernel
theorem dL_setShare_6 : decode cL_setShare 6 = .ok (.ireturn, 1) := by decide +kernel
theorem dL_setShare_7 : decode cL_setShare 7 = .ok (.astore_n 3, 1) := by decide +kernel
theorem dL_setShare_8 : decode cL_setShare 8 = .ok (.bipush (-77), 2) := by decide +kernel
theorem dL_setShare_10 : decode cL_setShare 10 = .ok (.ireturn, 1) := by decide +kernel
theorem dL_setShare_11 : decode cL_setShare 11 = .ok (.astore_n 3, 1) := by decide +kernel
theorem dL_setShare_12 : decode cL_setShare 12 = .ok (.bipush (-78), 2) := by decide +kernel
theorem dL_setShare_14 : decode cL_setShare 14 = .ok (.ireturn, 1) := by decide +kernel
theorem dL_setShare_15 : decode cL_setShare 15 = .ok (.astore_n 3, 1) := by decide +kernel
theorem dL_setShare_16 : decode cL_setShare 16 = .ok (.bipush (-76), 2) := by decide +kernel
theorem dL_setShare_18 : decode cL_setShare 18 = .ok (.ireturn, 1) := by decide +kernel
theorem dL_present_0 : decode cL_present 0 = .ok (.aload_n 0, 1) := by decide +kernel
theorem dL_present_1 : decode cL_present 1 = .ok (.iload_n 1, 1) := by decide +kernel
theorem dL_present_2 : decode cL_present 2 = .ok (.invokevirtual 34, 3) := by decide +kernel
theorem dL_present_5 : decode cL_present 5 = .ok (.ireturn, 1) := by decide +kernel
theorem dL_present_6 : decode cL_present 6 = .ok (.astore_n 2, 1) := by decide +kernel
theorem dL_present_7 : decode cL_present 7 = .ok (.bipush (-77), 2) := by decide +kernel
theorem dL_present_9 : decode cL_present 9 = .ok (.ireturn, 1) := by decide +kernel
theorem dL_present_10 : decode cL_present 10 = .ok (.astore_n 2, 1) := by decide +kernel
theorem dL_present_11 : decode cL_present 11 = .ok (.bipush (-76), 2) := by decide +kernel
theorem dL_present_13 : decode cL_present 13 = .ok (.ireturn, 1) := by decide +kernel
theorem dL_takeBack_0 : decode cL_takeBack 0 = .ok (.aload_n 0, 1) := by decide +kernel
theorem dL_takeBack_1 : decode cL_takeBack 1 = .ok (.iload_n 1, 1) := by decide +kernel
theorem dL_takeBack_2 : decode cL_takeBack 2 = .ok (.invokevirtual 38, 3) := by decide +kernel
theorem dL_takeBack_5 : decode cL_takeBack 5 = .ok (.ireturn, 1) := by decide +kernel
theorem dL_takeBack_6 : decode cL_takeBack 6 = .ok (.astore_n 2, 1) := by decide +kernel
theorem dL_takeBack_7 : decode cL_takeBack 7 = .ok (.bipush (-77), 2) := by decide +kernel
theorem dL_takeBack_9 : decode cL_takeBack 9 = .ok (.ireturn, 1) := by decide +kernel
theorem dL_takeBack_10 : decode cL_takeBack 10 = .ok (.astore_n 2, 1) := by decide +kernel
theorem dL_takeBack_11 : decode cL_takeBack 11 = .ok (.bipush (-76), 2) := by decide +kernel
theorem dL_takeBack_13 : decode cL_takeBack 13 = .ok (.ireturn, 1) := by decide +kernel
theorem dL_openVault_0 : decode cL_openVault 0 = .ok (.aload_n 0, 1) := by decide +kernel
theorem dL_openVault_1 : decode cL_openVault 1 = .ok (.invokevirtual 41, 3) := by decide +kernel
theorem dL_openVault_4 : decode cL_openVault 4 = .ok (.ifCond .eq 7, 3) := by decide +kernel
theorem dL_openVault_7 : decode cL_openVault 7 = .ok (.iconst 1, 1) := by decide +kernel
theorem dL_openVault_8 : decode cL_openVault 8 = .ok (.goto 4, 3) := by decide +kernel
theorem dL_openVault_11 : decode cL_openVault 11 = .ok (.iconst 0, 1) := by decide +kernel
theorem dL_openVault_12 : decode cL_openVault 12 = .ok (.ireturn, 1) := by decide +kernel
theorem dL_openVault_13 : decode cL_openVault 13 = .ok (.astore_n 1, 1) := by decide +kernel
theorem dL_openVault_14 : decode cL_openVault 14 = .ok (.bipush (-76), 2) := by decide +kernel
theorem dL_openVault_16 : decode cL_openVault 16 = .ok (.ireturn, 1) := by decide +kernel
theorem dL_closeVault_0 : decode cL_closeVault 0 = .ok (.aload_n 0, 1) := by decide +kernel
theorem dL_closeVault_1 : decode cL_closeVault 1 = .ok (.invokevirtual 45, 3) := by decide +kernel
theorem dL_closeVault_4 : decode cL_closeVault 4 = .ok (.ireturn, 1) := by decide +kernel
theorem dL_closeVault_5 : decode cL_closeVault 5 = .ok (.astore_n 1, 1) := by decide +kernel
theorem dL_closeVault_6 : decode cL_closeVault 6 = .ok (.bipush (-76), 2) := by decide +kernel
theorem dL_closeVault_8 : decode cL_closeVault 8 = .ok (.ireturn, 1) := by decide +kernel
theorem dL_addGuard_0 : decode cL_addGuard 0 = .ok (.aload_n 0, 1) := by decide +kernel
theorem dL_addGuard_1 : decode cL_addGuard 1 = .ok (.iload_n 1, 1) := by decide +kernel
theorem dL_addGuard_2 : decode cL_addGuard 2 = .ok (.iload_n 2, 1) := by decide +kernel
theorem dL_addGuard_3 : decode cL_addGuard 3 = .ok (.iload_n 3, 1) := by decide +kernel
theorem dL_addGuard_4 : decode cL_addGuard 4 = .ok (.invokevirtual 48, 3) := by decide +kernel
theorem dL_addGuard_7 : decode cL_addGuard 7 = .ok (.ireturn, 1) := by decide +kernel
theorem dL_addGuard_8 : decode cL_addGuard 8 = .ok (.astore 4, 2) := by decide +kernel
theorem dL_addGuard_10 : decode cL_addGuard 10 = .ok (.bipush (-78), 2) := by decide +kernel
theorem dL_addGuard_12 : decode cL_addGuard 12 = .ok (.ireturn, 1) := by decide +kernel
theorem dL_addGuard_13 : decode cL_addGuard 13 = .ok (.astore 4, 2) := by decide +kernel
theorem dL_addGuard_15 : decode cL_addGuard 15 = .ok (.bipush (-76), 2) := by decide +kernel
theorem dL_addGuard_17 : decode cL_addGuard 17 = .ok (.ireturn, 1) := by decide +kernel
theorem dL_turnGuard_0 : decode cL_turnGuard 0 = .ok (.aload_n 0, 1) := by decide +kernel
theorem dL_turnGuard_1 : decode cL_turnGuard 1 = .ok (.iload_n 1, 1) := by decide +kernel
theorem dL_turnGuard_2 : decode cL_turnGuard 2 = .ok (.invokevirtual 52, 3) := by decide +kernel
theorem dL_turnGuard_5 : decode cL_turnGuard 5 = .ok (.ifCond .eq 7, 3) := by decide +kernel
theorem dL_turnGuard_8 : decode cL_turnGuard 8 = .ok (.iconst 1, 1) := by decide +kernel
theorem dL_turnGuard_9 : decode cL_turnGuard 9 = .ok (.goto 4, 3) := by decide +kernel
theorem dL_turnGuard_12 : decode cL_turnGuard 12 = .ok (.iconst 0, 1) := by decide +kernel
theorem dL_turnGuard_13 : decode cL_turnGuard 13 = .ok (.ireturn, 1) := by decide +kernel
theorem dL_turnGuard_14 : decode cL_turnGuard 14 = .ok (.astore_n 2, 1) := by decide +kernel
theorem dL_turnGuard_15 : decode cL_turnGuard 15 = .ok (.bipush (-77), 2) := by decide +kernel
theorem dL_turnGuard_17 : decode cL_turnGuard 17 = .ok (.ireturn, 1) := by decide +kernel
theorem dL_hum_0 : decode cL_hum 0 = .ok (.aload_n 0, 1) := by decide +kernel
theorem dL_hum_1 : decode cL_hum 1 = .ok (.iload_n 1, 1) := by decide +kernel
theorem dL_hum_2 : decode cL_hum 2 = .ok (.iload_n 2, 1) := by decide +kernel
theorem dL_hum_3 : decode cL_hum 3 = .ok (.invokevirtual 56, 3) := by decide +kernel
theorem dL_hum_6 : decode cL_hum 6 = .ok (.ireturn, 1) := by decide +kernel
theorem dL_hum_7 : decode cL_hum 7 = .ok (.astore_n 3, 1) := by decide +kernel
theorem dL_hum_8 : decode cL_hum 8 = .ok (.bipush (-78), 2) := by decide +kernel
theorem dL_hum_10 : decode cL_hum 10 = .ok (.ireturn, 1) := by decide +kernel
theorem dL_passHours_0 : decode cL_passHours 0 = .ok (.aload_n 0, 1) := by decide +kernel
theorem dL_passHours_1 : decode cL_passHours 1 = .ok (.iload_n 1, 1) := by decide +kernel
theorem dL_passHours_2 : decode cL_passHours 2 = .ok (.invokevirtual 59, 3) := by decide +kernel
theorem dL_passHours_5 : decode cL_passHours 5 = .ok (.ireturn, 1) := by decide +kernel
theorem dL_passHours_6 : decode cL_passHours 6 = .ok (.astore_n 2, 1) := by decide +kernel
theorem dL_passHours_7 : decode cL_passHours 7 = .ok (.bipush (-78), 2) := by decide +kernel
theorem dL_passHours_9 : decode cL_passHours 9 = .ok (.ireturn, 1) := by decide +kernel
theorem dL_threshold_0 : decode cL_threshold 0 = .ok (.aload_n 0, 1) := by decide +kernel
theorem dL_threshold_1 : decode cL_threshold 1 = .ok (.invokevirtual 62, 3) := by decide +kernel
theorem dL_threshold_4 : decode cL_threshold 4 = .ok (.ireturn, 1) := by decide +kernel
theorem dL_threshold_5 : decode cL_threshold 5 = .ok (.astore_n 1, 1) := by decide +kernel
theorem dL_threshold_6 : decode cL_threshold 6 = .ok (.bipush (-75), 2) := by decide +kernel
theorem dL_threshold_8 : decode cL_threshold 8 = .ok (.ireturn, 1) := by decide +kernel
theorem dL_share_0 : decode cL_share 0 = .ok (.aload_n 0, 1) := by decide +kernel
theorem dL_share_1 : decode cL_share 1 = .ok (.iload_n 1, 1) := by decide +kernel
theorem dL_share_2 : decode cL_share 2 = .ok (.invokevirtual 67, 3) := by decide +kernel
theorem dL_share_5 : decode cL_share 5 = .ok (.ireturn, 1) := by decide +kernel
theorem dL_share_6 : decode cL_share 6 = .ok (.astore_n 2, 1) := by decide +kernel
theorem dL_share_7 : decode cL_share 7 = .ok (.bipush (-77), 2) := by decide +kernel
theorem dL_share_9 : decode cL_share 9 = .ok (.ireturn, 1) := by decide +kernel
theorem dL_share_10 : decode cL_share 10 = .ok (.astore_n 2, 1) := by decide +kernel
theorem dL_share_11 : decode cL_share 11 = .ok (.bipush (-75), 2) := by decide +kernel
theorem dL_share_13 : decode cL_share 13 = .ok (.ireturn, 1) := by decide +kernel
theorem dL_isCorrect_0 : decode cL_isCorrect 0 = .ok (.aload_n 0, 1) := by decide +kernel
theorem dL_isCorrect_1 : decode cL_isCorrect 1 = .ok (.iload_n 1, 1) := by decide +kernel
theorem dL_isCorrect_2 : decode cL_isCorrect 2 = .ok (.invokevirtual 70, 3) := by decide +kernel
theorem dL_isCorrect_5 : decode cL_isCorrect 5 = .ok (.ifCond .eq 7, 3) := by decide +kernel
theorem dL_isCorrect_8 : decode cL_isCorrect 8 = .ok (.iconst 1, 1) := by decide +kernel
theorem dL_isCorrect_9 : decode cL_isCorrect 9 = .ok (.goto 4, 3) := by decide +kernel
theorem dL_isCorrect_12 : decode cL_isCorrect 12 = .ok (.iconst 0, 1) := by decide +kernel
theorem dL_isCorrect_13 : decode cL_isCorrect 13 = .ok (.ireturn, 1) := by decide +kernel
theorem dL_isCorrect_14 : decode cL_isCorrect 14 = .ok (.astore_n 2, 1) := by decide +kernel
theorem dL_isCorrect_15 : decode cL_isCorrect 15 = .ok (.bipush (-77), 2) := by decide +kernel
theorem dL_isCorrect_17 : decode cL_isCorrect 17 = .ok (.ireturn, 1) := by decide +kernel
theorem dL_isCorrect_18 : decode cL_isCorrect 18 = .ok (.astore_n 2, 1) := by decide +kernel
theorem dL_isCorrect_19 : decode cL_isCorrect 19 = .ok (.bipush (-75), 2) := by decide +kernel
theorem dL_isCorrect_21 : decode cL_isCorrect 21 = .ok (.ireturn, 1) := by decide +kernel
theorem dL_isPresented_0 : decode cL_isPresented 0 = .ok (.aload_n 0, 1) := by decide +kernel
theorem dL_isPresented_1 : decode cL_isPresented 1 = .ok (.iload_n 1, 1) := by decide +kernel
theorem dL_isPresented_2 : decode cL_isPresented 2 = .ok (.invokevirtual 73, 3) := by decide +kernel
theorem dL_isPresented_5 : decode cL_isPresented 5 = .ok (.ifCond .eq 7, 3) := by decide +kernel
theorem dL_isPresented_8 : decode cL_isPresented 8 = .ok (.iconst 1, 1) := by decide +kernel
theorem dL_isPresented_9 : decode cL_isPresented 9 = .ok (.goto 4, 3) := by decide +kernel
theorem dL_isPresented_12 : decode cL_isPresented 12 = .ok (.iconst 0, 1) := by decide +kernel
theorem dL_isPresented_13 : decode cL_isPresented 13 = .ok (.ireturn, 1) := by decide +kernel
theorem dL_isPresented_14 : decode cL_isPresented 14 = .ok (.astore_n 2, 1) := by decide +kernel
theorem dL_isPresented_15 : decode cL_isPresented 15 = .ok (.bipush (-77), 2) := by decide +kernel
theorem dL_isPresented_17 : decode cL_isPresented 17 = .ok (.ireturn, 1) := by decide +kernel
theorem dL_presentedAt_0 : decode cL_presentedAt 0 = .ok (.aload_n 0, 1) := by decide +kernel
theorem dL_presentedAt_1 : decode cL_presentedAt 1 = .ok (.iload_n 1, 1) := by decide +kernel
theorem dL_presentedAt_2 : decode cL_presentedAt 2 = .ok (.invokevirtual 76, 3) := by decide +kernel
theorem dL_presentedAt_5 : decode cL_presentedAt 5 = .ok (.ireturn, 1) := by decide +kernel
theorem dL_presentedAt_6 : decode cL_presentedAt 6 = .ok (.astore_n 2, 1) := by decide +kernel
theorem dL_presentedAt_7 : decode cL_presentedAt 7 = .ok (.bipush (-75), 2) := by decide +kernel
theorem dL_presentedAt_9 : decode cL_presentedAt 9 = .ok (.ireturn, 1) := by decide +kernel
theorem dL_toldSecret_0 : decode cL_toldSecret 0 = .ok (.aload_n 0, 1) := by decide +kernel
theorem dL_toldSecret_1 : decode cL_toldSecret 1 = .ok (.invokevirtual 79, 3) := by decide +kernel
theorem dL_toldSecret_4 : decode cL_toldSecret 4 = .ok (.ireturn, 1) := by decide +kernel
theorem dL_toldSecret_5 : decode cL_toldSecret 5 = .ok (.astore_n 1, 1) := by decide +kernel
theorem dL_toldSecret_6 : decode cL_toldSecret 6 = .ok (.bipush (-75), 2) := by decide +kernel
theorem dL_toldSecret_8 : decode cL_toldSecret 8 = .ok (.ireturn, 1) := by decide +kernel
theorem dL_toldSecretByElimination_0 : decode cL_toldSecretByElimination 0 = .ok (.aload_n 0, 1) := by decide +kernel
theorem dL_toldSecretByElimination_1 : decode cL_toldSecretByElimination 1 = .ok (.invokevirtual 82, 3) := by decide +kernel
theorem dL_toldSecretByElimination_4 : decode cL_toldSecretByElimination 4 = .ok (.ireturn, 1) := by decide +kernel
theorem dL_toldSecretByElimination_5 : decode cL_toldSecretByElimination 5 = .ok (.astore_n 1, 1) := by decide +kernel
theorem dL_toldSecretByElimination_6 : decode cL_toldSecretByElimination 6 = .ok (.bipush (-75), 2) := by decide +kernel
theorem dL_toldSecretByElimination_8 : decode cL_toldSecretByElimination 8 = .ok (.ireturn, 1) := by decide +kernel
theorem dL_toldValue_0 : decode cL_toldValue 0 = .ok (.aload_n 0, 1) := by decide +kernel
theorem dL_toldValue_1 : decode cL_toldValue 1 = .ok (.iload_n 1, 1) := by decide +kernel
theorem dL_toldValue_2 : decode cL_toldValue 2 = .ok (.invokevirtual 85, 3) := by decide +kernel
theorem dL_toldValue_5 : decode cL_toldValue 5 = .ok (.ireturn, 1) := by decide +kernel
theorem dL_toldValue_6 : decode cL_toldValue 6 = .ok (.astore_n 2, 1) := by decide +kernel
theorem dL_toldValue_7 : decode cL_toldValue 7 = .ok (.bipush (-78), 2) := by decide +kernel
theorem dL_toldValue_9 : decode cL_toldValue 9 = .ok (.ireturn, 1) := by decide +kernel
theorem dL_toldValue_10 : decode cL_toldValue 10 = .ok (.astore_n 2, 1) := by decide +kernel
theorem dL_toldValue_11 : decode cL_toldValue 11 = .ok (.bipush (-75), 2) := by decide +kernel
theorem dL_toldValue_13 : decode cL_toldValue 13 = .ok (.ireturn, 1) := by decide +kernel
theorem dL_doAgree_0 : decode cL_doAgree 0 = .ok (.aload_n 0, 1) := by decide +kernel
theorem dL_doAgree_1 : decode cL_doAgree 1 = .ok (.invokevirtual 88, 3) := by decide +kernel
theorem dL_doAgree_4 : decode cL_doAgree 4 = .ok (.ifCond .eq 7, 3) := by decide +kernel
theorem dL_doAgree_7 : decode cL_doAgree 7 = .ok (.iconst 1, 1) := by decide +kernel
theorem dL_doAgree_8 : decode cL_doAgree 8 = .ok (.goto 4, 3) := by decide +kernel
theorem dL_doAgree_11 : decode cL_doAgree 11 = .ok (.iconst 0, 1) := by decide +kernel
theorem dL_doAgree_12 : decode cL_doAgree 12 = .ok (.ireturn, 1) := by decide +kernel
theorem dL_doAgree_13 : decode cL_doAgree 13 = .ok (.astore_n 1, 1) := by decide +kernel
theorem dL_doAgree_14 : decode cL_doAgree 14 = .ok (.bipush (-75), 2) := by decide +kernel
theorem dL_doAgree_16 : decode cL_doAgree 16 = .ok (.ireturn, 1) := by decide +kernel
theorem dL_mostAgreeing_0 : decode cL_mostAgreeing 0 = .ok (.aload_n 0, 1) := by decide +kernel
theorem dL_mostAgreeing_1 : decode cL_mostAgreeing 1 = .ok (.invokevirtual 91, 3) := by decide +kernel
theorem dL_mostAgreeing_4 : decode cL_mostAgreeing 4 = .ok (.ireturn, 1) := by decide +kernel
theorem dL_mostAgreeing_5 : decode cL_mostAgreeing 5 = .ok (.astore_n 1, 1) := by decide +kernel
theorem dL_mostAgreeing_6 : decode cL_mostAgreeing 6 = .ok (.bipush (-75), 2) := by decide +kernel
theorem dL_mostAgreeing_8 : decode cL_mostAgreeing 8 = .ok (.ireturn, 1) := by decide +kernel
theorem dL_mostAgreeingBySets_0 : decode cL_mostAgreeingBySets 0 = .ok (.aload_n 0, 1) := by decide +kernel
theorem dL_mostAgreeingBySets_1 : decode cL_mostAgreeingBySets 1 = .ok (.invokevirtual 94, 3) := by decide +kernel
theorem dL_mostAgreeingBySets_4 : decode cL_mostAgreeingBySets 4 = .ok (.ireturn, 1) := by decide +kernel
theorem dL_mostAgreeingBySets_5 : decode cL_mostAgreeingBySets 5 = .ok (.astore_n 1, 1) := by decide +kernel
theorem dL_mostAgreeingBySets_6 : decode cL_mostAgreeingBySets 6 = .ok (.bipush (-75), 2) := by decide +kernel
theorem dL_mostAgreeingBySets_8 : decode cL_mostAgreeingBySets 8 = .ok (.ireturn, 1) := by decide +kernel
theorem dL_zoneOf_0 : decode cL_zoneOf 0 = .ok (.aload_n 0, 1) := by decide +kernel
theorem dL_zoneOf_1 : decode cL_zoneOf 1 = .ok (.iload_n 1, 1) := by decide +kernel
theorem dL_zoneOf_2 : decode cL_zoneOf 2 = .ok (.invokevirtual 97, 3) := by decide +kernel
theorem dL_zoneOf_5 : decode cL_zoneOf 5 = .ok (.ireturn, 1) := by decide +kernel
theorem dL_zoneOf_6 : decode cL_zoneOf 6 = .ok (.astore_n 2, 1) := by decide +kernel
theorem dL_zoneOf_7 : decode cL_zoneOf 7 = .ok (.bipush (-77), 2) := by decide +kernel
theorem dL_zoneOf_9 : decode cL_zoneOf 9 = .ok (.ireturn, 1) := by decide +kernel
theorem dL_isForwards_0 : decode cL_isForwards 0 = .ok (.aload_n 0, 1) := by decide +kernel
theorem dL_isForwards_1 : decode cL_isForwards 1 = .ok (.iload_n 1, 1) := by decide +kernel
theorem dL_isForwards_2 : decode cL_isForwards 2 = .ok (.invokevirtual 100, 3) := by decide +kernel
theorem dL_isForwards_5 : decode cL_isForwards 5 = .ok (.ifCond .eq 7, 3) := by decide +kernel
theorem dL_isForwards_8 : decode cL_isForwards 8 = .ok (.iconst 1, 1) := by decide +kernel
theorem dL_isForwards_9 : decode cL_isForwards 9 = .ok (.goto 4, 3) := by decide +kernel
theorem dL_isForwards_12 : decode cL_isForwards 12 = .ok (.iconst 0, 1) := by decide +kernel
theorem dL_isForwards_13 : decode cL_isForwards 13 = .ok (.ireturn, 1) := by decide +kernel
theorem dL_isForwards_14 : decode cL_isForwards 14 = .ok (.astore_n 2, 1) := by decide +kernel
theorem dL_isForwards_15 : decode cL_isForwards 15 = .ok (.bipush (-77), 2) := by decide +kernel
theorem dL_isForwards_17 : decode cL_isForwards 17 = .ok (.ireturn, 1) := by decide +kernel
theorem dL_noise_0 : decode cL_noise 0 = .ok (.aload_n 0, 1) := by decide +kernel
theorem dL_noise_1 : decode cL_noise 1 = .ok (.iload_n 1, 1) := by decide +kernel
theorem dL_noise_2 : decode cL_noise 2 = .ok (.invokevirtual 103, 3) := by decide +kernel
theorem dL_noise_5 : decode cL_noise 5 = .ok (.ireturn, 1) := by decide +kernel
theorem dL_noise_6 : decode cL_noise 6 = .ok (.astore_n 2, 1) := by decide +kernel
theorem dL_noise_7 : decode cL_noise 7 = .ok (.bipush (-78), 2) := by decide +kernel
theorem dL_noise_9 : decode cL_noise 9 = .ok (.ireturn, 1) := by decide +kernel
theorem dL_isGuarded_0 : decode cL_isGuarded 0 = .ok (.aload_n 0, 1) := by decide +kernel
theorem dL_isGuarded_1 : decode cL_isGuarded 1 = .ok (.iload_n 1, 1) := by decide +kernel
theorem dL_isGuarded_2 : decode cL_isGuarded 2 = .ok (.invokevirtual 106, 3) := by decide +kernel
theorem dL_isGuarded_5 : decode cL_isGuarded 5 = .ok (.ifCond .eq 7, 3) := by decide +kernel
theorem dL_isGuarded_8 : decode cL_isGuarded 8 = .ok (.iconst 1, 1) := by decide +kernel
theorem dL_isGuarded_9 : decode cL_isGuarded 9 = .ok (.goto 4, 3) := by decide +kernel
theorem dL_isGuarded_12 : decode cL_isGuarded 12 = .ok (.iconst 0, 1) := by decide +kernel
theorem dL_isGuarded_13 : decode cL_isGuarded 13 = .ok (.ireturn, 1) := by decide +kernel
theorem dL_isGuarded_14 : decode cL_isGuarded 14 = .ok (.astore_n 2, 1) := by decide +kernel
theorem dL_isGuarded_15 : decode cL_isGuarded 15 = .ok (.bipush (-78), 2) := by decide +kernel
theorem dL_isGuarded_17 : decode cL_isGuarded 17 = .ok (.ireturn, 1) := by decide +kernel
theorem dL_hoursUntilVisit_0 : decode cL_hoursUntilVisit 0 = .ok (.aload_n 0, 1) := by decide +kernel
theorem dL_hoursUntilVisit_1 : decode cL_hoursUntilVisit 1 = .ok (.iload_n 1, 1) := by decide +kernel
theorem dL_hoursUntilVisit_2 : decode cL_hoursUntilVisit 2 = .ok (.invokevirtual 109, 3) := by decide +kernel
theorem dL_hoursUntilVisit_5 : decode cL_hoursUntilVisit 5 = .ok (.ireturn, 1) := by decide +kernel
theorem dL_hoursUntilVisit_6 : decode cL_hoursUntilVisit 6 = .ok (.astore_n 2, 1) := by decide +kernel
theorem dL_hoursUntilVisit_7 : decode cL_hoursUntilVisit 7 = .ok (.bipush (-78), 2) := by decide +kernel
theorem dL_hoursUntilVisit_9 : decode cL_hoursUntilVisit 9 = .ok (.ireturn, 1) := by decide +kernel
theorem dL_hoursUntilVisit_10 : decode cL_hoursUntilVisit 10 = .ok (.astore_n 2, 1) := by decide +kernel
theorem dL_hoursUntilVisit_11 : decode cL_hoursUntilVisit 11 = .ok (.bipush (-75), 2) := by decide +kernel
theorem dL_hoursUntilVisit_13 : decode cL_hoursUntilVisit 13 = .ok (.ireturn, 1) := by decide +kernel
theorem dL_hoursUntilVisitByRemainders_0 : decode cL_hoursUntilVisitByRemainders 0 = .ok (.aload_n 0, 1) := by decide +kernel
theorem dL_hoursUntilVisitByRemainders_1 : decode cL_hoursUntilVisitByRemainders 1 = .ok (.iload_n 1, 1) := by decide +kernel
theorem dL_hoursUntilVisitByRemainders_2 : decode cL_hoursUntilVisitByRemainders 2 = .ok (.invokevirtual 112, 3) := by decide +kernel
theorem dL_hoursUntilVisitByRemainders_5 : decode cL_hoursUntilVisitByRemainders 5 = .ok (.ireturn, 1) := by decide +kernel
theorem dL_hoursUntilVisitByRemainders_6 : decode cL_hoursUntilVisitByRemainders 6 = .ok (.astore_n 2, 1) := by decide +kernel
theorem dL_hoursUntilVisitByRemainders_7 : decode cL_hoursUntilVisitByRemainders 7 = .ok (.bipush (-78), 2) := by decide +kernel
theorem dL_hoursUntilVisitByRemainders_9 : decode cL_hoursUntilVisitByRemainders 9 = .ok (.ireturn, 1) := by decide +kernel
theorem dL_hoursUntilVisitByRemainders_10 : decode cL_hoursUntilVisitByRemainders 10 = .ok (.astore_n 2, 1) := by decide +kernel
theorem dL_hoursUntilVisitByRemainders_11 : decode cL_hoursUntilVisitByRemainders 11 = .ok (.bipush (-75), 2) := by decide +kernel
theorem dL_hoursUntilVisitByRemainders_13 : decode cL_hoursUntilVisitByRemainders 13 = .ok (.ireturn, 1) := by decide +kernel
theorem dL_alarmsIn_0 : decode cL_alarmsIn 0 = .ok (.aload_n 0, 1) := by decide +kernel
theorem dL_alarmsIn_1 : decode cL_alarmsIn 1 = .ok (.iload_n 1, 1) := by decide +kernel
theorem dL_alarmsIn_2 : decode cL_alarmsIn 2 = .ok (.invokevirtual 115, 3) := by decide +kernel
theorem dL_alarmsIn_5 : decode cL_alarmsIn 5 = .ok (.ireturn, 1) := by decide +kernel
theorem dL_alarmsIn_6 : decode cL_alarmsIn 6 = .ok (.astore_n 2, 1) := by decide +kernel
theorem dL_alarmsIn_7 : decode cL_alarmsIn 7 = .ok (.bipush (-78), 2) := by decide +kernel
theorem dL_alarmsIn_9 : decode cL_alarmsIn 9 = .ok (.ireturn, 1) := by decide +kernel
theorem dL_zoneByNoise_0 : decode cL_zoneByNoise 0 = .ok (.aload_n 0, 1) := by decide +kernel
theorem dL_zoneByNoise_1 : decode cL_zoneByNoise 1 = .ok (.iload_n 1, 1) := by decide +kernel
theorem dL_zoneByNoise_2 : decode cL_zoneByNoise 2 = .ok (.invokevirtual 118, 3) := by decide +kernel
theorem dL_zoneByNoise_5 : decode cL_zoneByNoise 5 = .ok (.ireturn, 1) := by decide +kernel
theorem dL_zoneByNoise_6 : decode cL_zoneByNoise 6 = .ok (.astore_n 2, 1) := by decide +kernel
theorem dL_zoneByNoise_7 : decode cL_zoneByNoise 7 = .ok (.bipush (-75), 2) := by decide +kernel
theorem dL_zoneByNoise_9 : decode cL_zoneByNoise 9 = .ok (.ireturn, 1) := by decide +kernel
theorem dL_alarmsOf_0 : decode cL_alarmsOf 0 = .ok (.aload_n 0, 1) := by decide +kernel
theorem dL_alarmsOf_1 : decode cL_alarmsOf 1 = .ok (.iload_n 1, 1) := by decide +kernel
theorem dL_alarmsOf_2 : decode cL_alarmsOf 2 = .ok (.invokevirtual 121, 3) := by decide +kernel
theorem dL_alarmsOf_5 : decode cL_alarmsOf 5 = .ok (.ireturn, 1) := by decide +kernel
theorem dL_alarmsOf_6 : decode cL_alarmsOf 6 = .ok (.astore_n 2, 1) := by decide +kernel
theorem dL_alarmsOf_7 : decode cL_alarmsOf 7 = .ok (.bipush (-78), 2) := by decide +kernel
theorem dL_alarmsOf_9 : decode cL_alarmsOf 9 = .ok (.ireturn, 1) := by decide +kernel
theorem dL_logHour_0 : decode cL_logHour 0 = .ok (.aload_n 0, 1) := by decide +kernel
theorem dL_logHour_1 : decode cL_logHour 1 = .ok (.iload_n 1, 1) := by decide +kernel
theorem dL_logHour_2 : decode cL_logHour 2 = .ok (.invokevirtual 124, 3) := by decide +kernel
theorem dL_logHour_5 : decode cL_logHour 5 = .ok (.ireturn, 1) := by decide +kernel
theorem dL_logHour_6 : decode cL_logHour 6 = .ok (.astore_n 2, 1) := by decide +kernel
theorem dL_logHour_7 : decode cL_logHour 7 = .ok (.bipush (-75), 2) := by decide +kernel
theorem dL_logHour_9 : decode cL_logHour 9 = .ok (.ireturn, 1) := by decide +kernel
theorem dL_logKind_0 : decode cL_logKind 0 = .ok (.aload_n 0, 1) := by decide +kernel
theorem dL_logKind_1 : decode cL_logKind 1 = .ok (.iload_n 1, 1) := by decide +kernel
theorem dL_logKind_2 : decode cL_logKind 2 = .ok (.invokevirtual 127, 3) := by decide +kernel
theorem dL_logKind_5 : decode cL_logKind 5 = .ok (.ireturn, 1) := by decide +kernel
theorem dL_logKind_6 : decode cL_logKind 6 = .ok (.astore_n 2, 1) := by decide +kernel
theorem dL_logKind_7 : decode cL_logKind 7 = .ok (.bipush (-75), 2) := by decide +kernel
theorem dL_logKind_9 : decode cL_logKind 9 = .ok (.ireturn, 1) := by decide +kernel
theorem dL_logDetail_0 : decode cL_logDetail 0 = .ok (.aload_n 0, 1) := by decide +kernel
theorem dL_logDetail_1 : decode cL_logDetail 1 = .ok (.iload_n 1, 1) := by decide +kernel
theorem dL_logDetail_2 : decode cL_logDetail 2 = .ok (.invokevirtual 131, 3) := by decide +kernel
theorem dL_logDetail_5 : decode cL_logDetail 5 = .ok (.ireturn, 1) := by decide +kernel
theorem dL_logDetail_6 : decode cL_logDetail 6 = .ok (.astore_n 2, 1) := by decide +kernel
theorem dL_logDetail_7 : decode cL_logDetail 7 = .ok (.bipush (-75), 2) := by decide +kernel
theorem dL_logDetail_9 : decode cL_logDetail 9 = .ok (.ireturn, 1) := by decide +kernel
theorem dL_alarmShare_0 : decode cL_alarmShare 0 = .ok (.aload_n 0, 1) := by decide +kernel
theorem dL_alarmShare_1 : decode cL_alarmShare 1 = .ok (.iload_n 1, 1) := by decide +kernel
theorem dL_alarmShare_2 : decode cL_alarmShare 2 = .ok (.invokevirtual 134, 3) := by decide +kernel
theorem dL_alarmShare_5 : decode cL_alarmShare 5 = .ok (.freturn, 1) := by decide +kernel
theorem dL_alarmShare_6 : decode cL_alarmShare 6 = .ok (.astore_n 2, 1) := by decide +kernel
theorem dL_alarmShare_7 : decode cL_alarmShare 7 = .ok (.ldc 138, 2) := by decide +kernel
theorem dL_alarmShare_9 : decode cL_alarmShare 9 = .ok (.freturn, 1) := by decide +kernel
theorem dL_alarmShare_10 : decode cL_alarmShare 10 = .ok (.astore_n 2, 1) := by decide +kernel
theorem dL_alarmShare_11 : decode cL_alarmShare 11 = .ok (.ldc 141, 2) := by decide +kernel
theorem dL_alarmShare_13 : decode cL_alarmShare 13 = .ok (.freturn, 1) := by decide +kernel
theorem dL_feed_0 : decode cL_feed 0 = .ok (.aload_n 0, 1) := by decide +kernel
theorem dL_feed_1 : decode cL_feed 1 = .ok (.iload_n 1, 1) := by decide +kernel
theorem dL_feed_2 : decode cL_feed 2 = .ok (.invokevirtual 151, 3) := by decide +kernel
theorem dL_feed_5 : decode cL_feed 5 = .ok (.ireturn, 1) := by decide +kernel
theorem dL_feed_6 : decode cL_feed 6 = .ok (.astore_n 2, 1) := by decide +kernel
theorem dL_feed_7 : decode cL_feed 7 = .ok (.bipush (-79), 2) := by decide +kernel
theorem dL_feed_9 : decode cL_feed 9 = .ok (.ireturn, 1) := by decide +kernel
theorem dL_runCommands_0 : decode cL_runCommands 0 = .ok (.aload_n 0, 1) := by decide +kernel
theorem dL_runCommands_1 : decode cL_runCommands 1 = .ok (.invokevirtual 157, 3) := by decide +kernel
theorem dL_runCommands_4 : decode cL_runCommands 4 = .ok (.ireturn, 1) := by decide +kernel
theorem dL_runCommands_5 : decode cL_runCommands 5 = .ok (.astore_n 1, 1) := by decide +kernel
theorem dL_runCommands_6 : decode cL_runCommands 6 = .ok (.bipush (-78), 2) := by decide +kernel
theorem dL_runCommands_8 : decode cL_runCommands 8 = .ok (.ireturn, 1) := by decide +kernel
theorem dL_runCommands_9 : decode cL_runCommands 9 = .ok (.astore_n 1, 1) := by decide +kernel
theorem dL_runCommands_10 : decode cL_runCommands 10 = .ok (.bipush (-76), 2) := by decide +kernel
theorem dL_runCommands_12 : decode cL_runCommands 12 = .ok (.ireturn, 1) := by decide +kernel
theorem dL_undo_0 : decode cL_undo 0 = .ok (.aload_n 0, 1) := by decide +kernel
theorem dL_undo_1 : decode cL_undo 1 = .ok (.invokevirtual 166, 3) := by decide +kernel
theorem dL_undo_4 : decode cL_undo 4 = .ok (.ireturn, 1) := by decide +kernel
theorem dL_undo_5 : decode cL_undo 5 = .ok (.astore_n 1, 1) := by decide +kernel
theorem dL_undo_6 : decode cL_undo 6 = .ok (.bipush (-79), 2) := by decide +kernel
theorem dL_undo_8 : decode cL_undo 8 = .ok (.ireturn, 1) := by decide +kernel
theorem dL_restore_0 : decode cL_restore 0 = .ok (.aload_n 0, 1) := by decide +kernel
theorem dL_restore_1 : decode cL_restore 1 = .ok (.invokevirtual 169, 3) := by decide +kernel
theorem dL_restore_4 : decode cL_restore 4 = .ok (.ireturn, 1) := by decide +kernel
theorem dL_restore_5 : decode cL_restore 5 = .ok (.astore_n 1, 1) := by decide +kernel
theorem dL_restore_6 : decode cL_restore 6 = .ok (.bipush (-79), 2) := by decide +kernel
theorem dL_restore_8 : decode cL_restore 8 = .ok (.ireturn, 1) := by decide +kernel
theorem dL_runs_0 : decode cL_runs 0 = .ok (.iconst 0, 1) := by decide +kernel
theorem dL_runs_1 : decode cL_runs 1 = .ok (.istore_n 2, 1) := by decide +kernel
theorem dL_runs_2 : decode cL_runs 2 = .ok (.iload_n 2, 1) := by decide +kernel
theorem dL_runs_3 : decode cL_runs 3 = .ok (.aload_n 1, 1) := by decide +kernel
theorem dL_runs_4 : decode cL_runs 4 = .ok (.invokevirtual 172, 3) := by decide +kernel
theorem dL_runs_7 : decode cL_runs 7 = .ok (.if_icmp .ge 19, 3) := by decide +kernel
theorem dL_runs_10 : decode cL_runs 10 = .ok (.aload_n 0, 1) := by decide +kernel
theorem dL_runs_11 : decode cL_runs 11 = .ok (.aload_n 1, 1) := by decide +kernel
theorem dL_runs_12 : decode cL_runs 12 = .ok (.iload_n 2, 1) := by decide +kernel
theorem dL_runs_13 : decode cL_runs 13 = .ok (.invokevirtual 177, 3) := by decide +kernel
theorem dL_runs_16 : decode cL_runs 16 = .ok (.invokestatic 180, 3) := by decide +kernel
theorem dL_runs_19 : decode cL_runs 19 = .ok (.istore_n 3, 1) := by decide +kernel
theorem dL_runs_20 : decode cL_runs 20 = .ok (.iinc 2 1, 3) := by decide +kernel
theorem dL_runs_23 : decode cL_runs 23 = .ok (.goto (-21), 3) := by decide +kernel
theorem dL_runs_26 : decode cL_runs 26 = .ok (.aload_n 0, 1) := by decide +kernel
theorem dL_runs_27 : decode cL_runs 27 = .ok (.invokestatic 183, 3) := by decide +kernel
theorem dL_runs_30 : decode cL_runs 30 = .ok (.ireturn, 1) := by decide +kernel
theorem dL_law_0 : decode cL_law 0 = .ok (.new 15, 3) := by decide +kernel
theorem dL_law_3 : decode cL_law 3 = .ok (.dup, 1) := by decide +kernel
theorem dL_law_4 : decode cL_law 4 = .ok (.invokespecial 195, 3) := by decide +kernel
theorem dL_law_7 : decode cL_law 7 = .ok (.astore_n 1, 1) := by decide +kernel
theorem dL_law_8 : decode cL_law 8 = .ok (.bipush 70, 2) := by decide +kernel
theorem dL_law_10 : decode cL_law 10 = .ok (.newarray .long, 2) := by decide +kernel
theorem dL_law_12 : decode cL_law 12 = .ok (.astore_n 2, 1) := by decide +kernel
theorem dL_law_13 : decode cL_law 13 = .ok (.iconst 0, 1) := by decide +kernel
theorem dL_law_14 : decode cL_law 14 = .ok (.istore_n 3, 1) := by decide +kernel
theorem dL_law_15 : decode cL_law 15 = .ok (.aload_n 2, 1) := by decide +kernel
theorem dL_law_16 : decode cL_law 16 = .ok (.iload_n 3, 1) := by decide +kernel
theorem dL_law_17 : decode cL_law 17 = .ok (.aload_n 1, 1) := by decide +kernel
theorem dL_law_18 : decode cL_law 18 = .ok (.invokestatic 196, 3) := by decide +kernel
theorem dL_law_21 : decode cL_law 21 = .ok (.lastore, 1) := by decide +kernel
theorem dL_law_22 : decode cL_law 22 = .ok (.iconst 0, 1) := by decide +kernel
theorem dL_law_23 : decode cL_law 23 = .ok (.istore 4, 2) := by decide +kernel
theorem dL_law_25 : decode cL_law 25 = .ok (.iconst (-1), 1) := by decide +kernel
theorem dL_law_26 : decode cL_law 26 = .ok (.istore 5, 2) := by decide +kernel
theorem dL_law_28 : decode cL_law 28 = .ok (.iconst 0, 1) := by decide +kernel
theorem dL_law_29 : decode cL_law 29 = .ok (.istore 6, 2) := by decide +kernel
theorem dL_law_31 : decode cL_law 31 = .ok (.iload 6, 2) := by decide +kernel
theorem dL_law_33 : decode cL_law 33 = .ok (.bipush 54, 2) := by decide +kernel
theorem dL_law_35 : decode cL_law 35 = .ok (.if_icmp .ge 993, 3) := by decide +kernel
theorem dL_law_38 : decode cL_law 38 = .ok (.aload_n 1, 1) := by decide +kernel
theorem dL_law_39 : decode cL_law 39 = .ok (.invokestatic 196, 3) := by decide +kernel
theorem dL_law_42 : decode cL_law 42 = .ok (.lstore 7, 2) := by decide +kernel
theorem dL_law_44 : decode cL_law 44 = .ok (.aload_n 1, 1) := by decide +kernel
theorem dL_law_45 : decode cL_law 45 = .ok (.invokevirtual 200, 3) := by decide +kernel
theorem dL_law_48 : decode cL_law 48 = .ok (.istore 9, 2) := by decide +kernel
theorem dL_law_50 : decode cL_law 50 = .ok (.iload 6, 2) := by decide +kernel
theorem dL_law_52 : decode cL_law 52 = .ok (.iconst 5, 1) := by decide +kernel
theorem dL_law_53 : decode cL_law 53 = .ok (.if_icmp .ge 7, 3) := by decide +kernel
theorem dL_law_56 : decode cL_law 56 = .ok (.iconst 0, 1) := by decide +kernel
theorem dL_law_57 : decode cL_law 57 = .ok (.goto 45, 3) := by decide +kernel
theorem dL_law_60 : decode cL_law 60 = .ok (.iload 6, 2) := by decide +kernel
theorem dL_law_62 : decode cL_law 62 = .ok (.iconst 5, 1) := by decide +kernel
theorem dL_law_63 : decode cL_law 63 = .ok (.if_icmp .ne 7, 3) := by decide +kernel
theorem dL_law_66 : decode cL_law 66 = .ok (.iconst 4, 1) := by decide +kernel
theorem dL_law_67 : decode cL_law 67 = .ok (.goto 35, 3) := by decide +kernel
theorem dL_law_70 : decode cL_law 70 = .ok (.iload 6, 2) := by decide +kernel
theorem dL_law_72 : decode cL_law 72 = .ok (.bipush 8, 2) := by decide +kernel
theorem dL_law_74 : decode cL_law 74 = .ok (.if_icmp .ge 8, 3) := by decide +kernel
theorem dL_law_77 : decode cL_law 77 = .ok (.bipush 26, 2) := by decide +kernel
theorem dL_law_79 : decode cL_law 79 = .ok (.goto 23, 3) := by decide +kernel
theorem dL_law_82 : decode cL_law 82 = .ok (.iload 6, 2) := by decide +kernel
theorem dL_law_84 : decode cL_law 84 = .ok (.bipush 12, 2) := by decide +kernel
theorem dL_law_86 : decode cL_law 86 = .ok (.if_icmp .ge 8, 3) := by decide +kernel
theorem dL_law_89 : decode cL_law 89 = .ok (.bipush 10, 2) := by decide +kernel
theorem dL_law_91 : decode cL_law 91 = .ok (.goto 11, 3) := by decide +kernel
theorem dL_law_94 : decode cL_law 94 = .ok (.aload_n 0, 1) := by decide +kernel
theorem dL_law_95 : decode cL_law 95 = .ok (.iload 4, 2) := by decide +kernel
theorem dL_law_97 : decode cL_law 97 = .ok (.bipush 48, 2) := by decide +kernel
theorem dL_law_99 : decode cL_law 99 = .ok (.invokestatic 203, 3) := by decide +kernel
theorem dL_law_102 : decode cL_law 102 = .ok (.istore 10, 2) := by decide +kernel
theorem dL_law_104 : decode cL_law 104 = .ok (.aload_n 1, 1) := by decide +kernel
theorem dL_law_105 : decode cL_law 105 = .ok (.invokevirtual 207, 3) := by decide +kernel
theorem dL_law_108 : decode cL_law 108 = .ok (.istore 11, 2) := by decide +kernel
theorem dL_law_110 : decode cL_law 110 = .ok (.aload_n 0, 1) := by decide +kernel
theorem dL_law_111 : decode cL_law 111 = .ok (.iload 4, 2) := by decide +kernel
theorem dL_law_113 : decode cL_law 113 = .ok (.iconst 1, 1) := by decide +kernel
theorem dL_law_114 : decode cL_law 114 = .ok (.iadd, 1) := by decide +kernel
theorem dL_law_115 : decode cL_law 115 = .ok (.iload 11, 2) := by decide +kernel
theorem dL_law_117 : decode cL_law 117 = .ok (.iload 6, 2) := by decide +kernel
theorem dL_law_119 : decode cL_law 119 = .ok (.bipush 13, 2) := by decide +kernel
theorem dL_law_121 : decode cL_law 121 = .ok (.irem, 1) := by decide +kernel
theorem dL_law_122 : decode cL_law 122 = .ok (.bipush 12, 2) := by decide +kernel
theorem dL_law_124 : decode cL_law 124 = .ok (.if_icmp .eq 8, 3) := by decide +kernel
theorem dL_law_127 : decode cL_law 127 = .ok (.iload 11, 2) := by decide +kernel
theorem dL_law_129 : decode cL_law 129 = .ok (.ifCond .ne 7, 3) := by decide +kernel
theorem dL_law_132 : decode cL_law 132 = .ok (.iconst 1, 1) := by decide +kernel
theorem dL_law_133 : decode cL_law 133 = .ok (.goto 4, 3) := by decide +kernel
theorem dL_law_136 : decode cL_law 136 = .ok (.iconst 0, 1) := by decide +kernel
theorem dL_law_137 : decode cL_law 137 = .ok (.iadd, 1) := by decide +kernel
theorem dL_law_138 : decode cL_law 138 = .ok (.invokestatic 203, 3) := by decide +kernel
theorem dL_law_141 : decode cL_law 141 = .ok (.istore 12, 2) := by decide +kernel
theorem dL_law_143 : decode cL_law 143 = .ok (.aload_n 1, 1) := by decide +kernel
theorem dL_law_144 : decode cL_law 144 = .ok (.invokevirtual 210, 3) := by decide +kernel
theorem dL_law_147 : decode cL_law 147 = .ok (.istore 13, 2) := by decide +kernel
theorem dL_law_149 : decode cL_law 149 = .ok (.aload_n 1, 1) := by decide +kernel
theorem dL_law_150 : decode cL_law 150 = .ok (.invokevirtual 213, 3) := by decide +kernel
theorem dL_law_153 : decode cL_law 153 = .ok (.istore 14, 2) := by decide +kernel
theorem dL_law_155 : decode cL_law 155 = .ok (.aload_n 1, 1) := by decide +kernel
theorem dL_law_156 : decode cL_law 156 = .ok (.invokevirtual 216, 3) := by decide +kernel
theorem dL_law_159 : decode cL_law 159 = .ok (.istore 15, 2) := by decide +kernel
theorem dL_law_161 : decode cL_law 161 = .ok (.aload_n 1, 1) := by decide +kernel
theorem dL_law_162 : decode cL_law 162 = .ok (.invokevirtual 219, 3) := by decide +kernel
theorem dL_law_165 : decode cL_law 165 = .ok (.istore 16, 2) := by decide +kernel
theorem dL_law_167 : decode cL_law 167 = .ok (.aload_n 1, 1) := by decide +kernel
theorem dL_law_168 : decode cL_law 168 = .ok (.invokestatic 222, 3) := by decide +kernel
theorem dL_law_171 : decode cL_law 171 = .ok (.istore 17, 2) := by decide +kernel
theorem dL_law_173 : decode cL_law 173 = .ok (.aload_n 1, 1) := by decide +kernel
theorem dL_law_174 : decode cL_law 174 = .ok (.invokestatic 224, 3) := by decide +kernel
theorem dL_law_177 : decode cL_law 177 = .ok (.istore 18, 2) := by decide +kernel
theorem dL_law_179 : decode cL_law 179 = .ok (.aload_n 1, 1) := by decide +kernel
theorem dL_law_180 : decode cL_law 180 = .ok (.invokestatic 226, 3) := by decide +kernel
theorem dL_law_183 : decode cL_law 183 = .ok (.istore 19, 2) := by decide +kernel
theorem dL_law_185 : decode cL_law 185 = .ok (.iconst 1, 1) := by decide +kernel
theorem dL_law_186 : decode cL_law 186 = .ok (.aload_n 0, 1) := by decide +kernel
theorem dL_law_187 : decode cL_law 187 = .ok (.iload 4, 2) := by decide +kernel
theorem dL_law_189 : decode cL_law 189 = .ok (.iconst 2, 1) := by decide +kernel
theorem dL_law_190 : decode cL_law 190 = .ok (.iadd, 1) := by decide +kernel
theorem dL_law_191 : decode cL_law 191 = .ok (.bipush 8, 2) := by decide +kernel
theorem dL_law_193 : decode cL_law 193 = .ok (.invokestatic 203, 3) := by decide +kernel
theorem dL_law_196 : decode cL_law 196 = .ok (.iadd, 1) := by decide +kernel
theorem dL_law_197 : decode cL_law 197 = .ok (.istore 20, 2) := by decide +kernel
theorem dL_law_199 : decode cL_law 199 = .ok (.aload_n 1, 1) := by decide +kernel
theorem dL_law_200 : decode cL_law 200 = .ok (.iload 20, 2) := by decide +kernel
theorem dL_law_202 : decode cL_law 202 = .ok (.invokestatic 228, 3) := by decide +kernel
theorem dL_law_205 : decode cL_law 205 = .ok (.istore 21, 2) := by decide +kernel
theorem dL_law_207 : decode cL_law 207 = .ok (.aload_n 0, 1) := by decide +kernel
theorem dL_law_208 : decode cL_law 208 = .ok (.iload 4, 2) := by decide +kernel
theorem dL_law_210 : decode cL_law 210 = .ok (.iconst 3, 1) := by decide +kernel
theorem dL_law_211 : decode cL_law 211 = .ok (.iadd, 1) := by decide +kernel
theorem dL_law_212 : decode cL_law 212 = .ok (.bipush 8, 2) := by decide +kernel
theorem dL_law_214 : decode cL_law 214 = .ok (.invokestatic 203, 3) := by decide +kernel
theorem dL_law_217 : decode cL_law 217 = .ok (.istore 22, 2) := by decide +kernel
theorem dL_law_219 : decode cL_law 219 = .ok (.aload_n 1, 1) := by decide +kernel
theorem dL_law_220 : decode cL_law 220 = .ok (.iload 22, 2) := by decide +kernel
theorem dL_law_222 : decode cL_law 222 = .ok (.invokestatic 230, 3) := by decide +kernel
theorem dL_law_225 : decode cL_law 225 = .ok (.istore 23, 2) := by decide +kernel
theorem dL_law_227 : decode cL_law 227 = .ok (.aload_n 1, 1) := by decide +kernel
theorem dL_law_228 : decode cL_law 228 = .ok (.invokevirtual 232, 3) := by decide +kernel
theorem dL_law_231 : decode cL_law 231 = .ok (.istore 24, 2) := by decide +kernel
theorem dL_law_233 : decode cL_law 233 = .ok (.aload_n 1, 1) := by decide +kernel
theorem dL_law_234 : decode cL_law 234 = .ok (.invokevirtual 235, 3) := by decide +kernel
theorem dL_law_237 : decode cL_law 237 = .ok (.istore 25, 2) := by decide +kernel
theorem dL_law_239 : decode cL_law 239 = .ok (.aload_n 1, 1) := by decide +kernel
theorem dL_law_240 : decode cL_law 240 = .ok (.invokevirtual 238, 3) := by decide +kernel
theorem dL_law_243 : decode cL_law 243 = .ok (.istore 26, 2) := by decide +kernel
theorem dL_law_245 : decode cL_law 245 = .ok (.aload_n 1, 1) := by decide +kernel
theorem dL_law_246 : decode cL_law 246 = .ok (.iconst 0, 1) := by decide +kernel
theorem dL_law_247 : decode cL_law 247 = .ok (.invokestatic 241, 3) := by decide +kernel
theorem dL_law_250 : decode cL_law 250 = .ok (.istore 27, 2) := by decide +kernel
theorem dL_law_252 : decode cL_law 252 = .ok (.aload_n 0, 1) := by decide +kernel
theorem dL_law_253 : decode cL_law 253 = .ok (.iload 4, 2) := by decide +kernel
theorem dL_law_255 : decode cL_law 255 = .ok (.iload 10, 2) := by decide +kernel
theorem dL_law_257 : decode cL_law 257 = .ok (.aload_n 1, 1) := by decide +kernel
theorem dL_law_258 : decode cL_law 258 = .ok (.iload 12, 2) := by decide +kernel
theorem dL_law_260 : decode cL_law 260 = .ok (.iload 20, 2) := by decide +kernel
theorem dL_law_262 : decode cL_law 262 = .ok (.invokestatic 245, 3) := by decide +kernel
theorem dL_law_265 : decode cL_law 265 = .ok (.istore 28, 2) := by decide +kernel
theorem dL_law_267 : decode cL_law 267 = .ok (.iload 28, 2) := by decide +kernel
theorem dL_law_269 : decode cL_law 269 = .ok (.bipush (-70), 2) := by decide +kernel
theorem dL_law_271 : decode cL_law 271 = .ok (.if_icmp .le 7, 3) := by decide +kernel
theorem dL_law_274 : decode cL_law 274 = .ok (.iconst 1, 1) := by decide +kernel
theorem dL_law_275 : decode cL_law 275 = .ok (.goto 4, 3) := by decide +kernel
theorem dL_law_278 : decode cL_law 278 = .ok (.iconst 0, 1) := by decide +kernel
theorem dL_law_279 : decode cL_law 279 = .ok (.istore 29, 2) := by decide +kernel
theorem dL_law_281 : decode cL_law 281 = .ok (.iload 29, 2) := by decide +kernel
theorem dL_law_283 : decode cL_law 283 = .ok (.ifCond .eq 33, 3) := by decide +kernel
theorem dL_law_286 : decode cL_law 286 = .ok (.iload 10, 2) := by decide +kernel
theorem dL_law_288 : decode cL_law 288 = .ok (.iconst 2, 1) := by decide +kernel
theorem dL_law_289 : decode cL_law 289 = .ok (.if_icmp .le 27, 3) := by decide +kernel
theorem dL_law_292 : decode cL_law 292 = .ok (.iload 10, 2) := by decide +kernel
theorem dL_law_294 : decode cL_law 294 = .ok (.bipush 6, 2) := by decide +kernel
theorem dL_law_296 : decode cL_law 296 = .ok (.if_icmp .ge 20, 3) := by decide +kernel
theorem dL_law_299 : decode cL_law 299 = .ok (.aload_n 0, 1) := by decide +kernel
theorem dL_law_300 : decode cL_law 300 = .ok (.iload 4, 2) := by decide +kernel
theorem dL_law_302 : decode cL_law 302 = .ok (.iconst 4, 1) := by decide +kernel
theorem dL_law_303 : decode cL_law 303 = .ok (.iadd, 1) := by decide +kernel
theorem dL_law_304 : decode cL_law 304 = .ok (.sipush 1000, 3) := by decide +kernel
theorem dL_law_307 : decode cL_law 307 = .ok (.invokestatic 203, 3) := by decide +kernel
theorem dL_law_310 : decode cL_law 310 = .ok (.bipush 97, 2) := by decide +kernel
theorem dL_law_312 : decode cL_law 312 = .ok (.irem, 1) := by decide +kernel
theorem dL_law_313 : decode cL_law 313 = .ok (.goto 5, 3) := by decide +kernel
theorem dL_law_316 : decode cL_law 316 = .ok (.iload 5, 2) := by decide +kernel
theorem dL_law_318 : decode cL_law 318 = .ok (.istore 5, 2) := by decide +kernel
theorem dL_law_320 : decode cL_law 320 = .ok (.iload 29, 2) := by decide +kernel
theorem dL_law_322 : decode cL_law 322 = .ok (.ifCond .eq 50, 3) := by decide +kernel
theorem dL_law_325 : decode cL_law 325 = .ok (.iload 10, 2) := by decide +kernel
theorem dL_law_327 : decode cL_law 327 = .ok (.iconst 3, 1) := by decide +kernel
theorem dL_law_328 : decode cL_law 328 = .ok (.if_icmp .lt 44, 3) := by decide +kernel
theorem dL_law_331 : decode cL_law 331 = .ok (.iload 10, 2) := by decide +kernel
theorem dL_law_333 : decode cL_law 333 = .ok (.iconst 5, 1) := by decide +kernel
theorem dL_law_334 : decode cL_law 334 = .ok (.if_icmp .gt 38, 3) := by decide +kernel
theorem dL_law_337 : decode cL_law 337 = .ok (.aload_n 1, 1) := by decide +kernel
theorem dL_law_338 : decode cL_law 338 = .ok (.invokevirtual 219, 3) := by decide +kernel
theorem dL_law_341 : decode cL_law 341 = .ok (.ifCond .ne 35, 3) := by decide +kernel
theorem dL_law_344 : decode cL_law 344 = .ok (.aload_n 1, 1) := by decide +kernel
theorem dL_law_345 : decode cL_law 345 = .ok (.invokevirtual 210, 3) := by decide +kernel
theorem dL_law_348 : decode cL_law 348 = .ok (.ifCond .ne 28, 3) := by decide +kernel
theorem dL_law_351 : decode cL_law 351 = .ok (.aload_n 1, 1) := by decide +kernel
theorem dL_law_352 : decode cL_law 352 = .ok (.invokevirtual 213, 3) := by decide +kernel
theorem dL_law_355 : decode cL_law 355 = .ok (.ifCond .ne 21, 3) := by decide +kernel
theorem dL_law_358 : decode cL_law 358 = .ok (.aload_n 1, 1) := by decide +kernel
theorem dL_law_359 : decode cL_law 359 = .ok (.invokevirtual 216, 3) := by decide +kernel
theorem dL_law_362 : decode cL_law 362 = .ok (.ifCond .ne 14, 3) := by decide +kernel
theorem dL_law_365 : decode cL_law 365 = .ok (.aload_n 1, 1) := by decide +kernel
theorem dL_law_366 : decode cL_law 366 = .ok (.invokestatic 249, 3) := by decide +kernel
theorem dL_law_369 : decode cL_law 369 = .ok (.ifCond .eq 7, 3) := by decide +kernel
theorem dL_law_372 : decode cL_law 372 = .ok (.iconst 1, 1) := by decide +kernel
theorem dL_law_373 : decode cL_law 373 = .ok (.goto 4, 3) := by decide +kernel
theorem dL_law_376 : decode cL_law 376 = .ok (.iconst 0, 1) := by decide +kernel
theorem dL_law_377 : decode cL_law 377 = .ok (.istore 30, 2) := by decide +kernel
theorem dL_law_379 : decode cL_law 379 = .ok (.iload 30, 2) := by decide +kernel
theorem dL_law_381 : decode cL_law 381 = .ok (.iload 29, 2) := by decide +kernel
theorem dL_law_383 : decode cL_law 383 = .ok (.ifCond .eq 37, 3) := by decide +kernel
theorem dL_law_386 : decode cL_law 386 = .ok (.iload 10, 2) := by decide +kernel
theorem dL_law_388 : decode cL_law 388 = .ok (.bipush 10, 2) := by decide +kernel
theorem dL_law_390 : decode cL_law 390 = .ok (.if_icmp .lt 30, 3) := by decide +kernel
theorem dL_law_393 : decode cL_law 393 = .ok (.iload 10, 2) := by decide +kernel
theorem dL_law_395 : decode cL_law 395 = .ok (.bipush 17, 2) := by decide +kernel
theorem dL_law_397 : decode cL_law 397 = .ok (.if_icmp .gt 23, 3) := by decide +kernel
theorem dL_law_400 : decode cL_law 400 = .ok (.iload 28, 2) := by decide +kernel
theorem dL_law_402 : decode cL_law 402 = .ok (.iload 13, 2) := by decide +kernel
theorem dL_law_404 : decode cL_law 404 = .ok (.iconst 1, 1) := by decide +kernel
theorem dL_law_405 : decode cL_law 405 = .ok (.iadd, 1) := by decide +kernel
theorem dL_law_406 : decode cL_law 406 = .ok (.if_icmp .ne 18, 3) := by decide +kernel
theorem dL_law_409 : decode cL_law 409 = .ok (.aload_n 1, 1) := by decide +kernel
theorem dL_law_410 : decode cL_law 410 = .ok (.iload 13, 2) := by decide +kernel
theorem dL_law_412 : decode cL_law 412 = .ok (.invokestatic 253, 3) := by decide +kernel
theorem dL_law_415 : decode cL_law 415 = .ok (.iload 12, 2) := by decide +kernel
theorem dL_law_417 : decode cL_law 417 = .ok (.if_icmp .ne 7, 3) := by decide +kernel
theorem dL_law_420 : decode cL_law 420 = .ok (.iconst 1, 1) := by decide +kernel
theorem dL_law_421 : decode cL_law 421 = .ok (.goto 4, 3) := by decide +kernel
theorem dL_law_424 : decode cL_law 424 = .ok (.iconst 0, 1) := by decide +kernel
theorem dL_law_425 : decode cL_law 425 = .ok (.iand, 1) := by decide +kernel
theorem dL_law_426 : decode cL_law 426 = .ok (.istore 30, 2) := by decide +kernel
theorem dL_law_428 : decode cL_law 428 = .ok (.iload 30, 2) := by decide +kernel
theorem dL_law_430 : decode cL_law 430 = .ok (.iload 29, 2) := by decide +kernel
theorem dL_law_432 : decode cL_law 432 = .ok (.ifCond .eq 35, 3) := by decide +kernel
theorem dL_law_435 : decode cL_law 435 = .ok (.iload 10, 2) := by decide +kernel
theorem dL_law_437 : decode cL_law 437 = .ok (.bipush 18, 2) := by decide +kernel
theorem dL_law_439 : decode cL_law 439 = .ok (.if_icmp .lt 28, 3) := by decide +kernel
theorem dL_law_442 : decode cL_law 442 = .ok (.iload 10, 2) := by decide +kernel
theorem dL_law_444 : decode cL_law 444 = .ok (.bipush 19, 2) := by decide +kernel
theorem dL_law_446 : decode cL_law 446 = .ok (.if_icmp .gt 21, 3) := by decide +kernel
theorem dL_law_449 : decode cL_law 449 = .ok (.iload 28, 2) := by decide +kernel
theorem dL_law_451 : decode cL_law 451 = .ok (.iload 13, 2) := by decide +kernel
theorem dL_law_453 : decode cL_law 453 = .ok (.iconst 1, 1) := by decide +kernel
theorem dL_law_454 : decode cL_law 454 = .ok (.isub, 1) := by decide +kernel
theorem dL_law_455 : decode cL_law 455 = .ok (.if_icmp .ne 16, 3) := by decide +kernel
theorem dL_law_458 : decode cL_law 458 = .ok (.aload_n 1, 1) := by decide +kernel
theorem dL_law_459 : decode cL_law 459 = .ok (.iload 12, 2) := by decide +kernel
theorem dL_law_461 : decode cL_law 461 = .ok (.invokestatic 255, 3) := by decide +kernel
theorem dL_law_464 : decode cL_law 464 = .ok (.ifCond .ne 7, 3) := by decide +kernel
theorem dL_law_467 : decode cL_law 467 = .ok (.iconst 1, 1) := by decide +kernel
theorem dL_law_468 : decode cL_law 468 = .ok (.goto 4, 3) := by decide +kernel
theorem dL_law_471 : decode cL_law 471 = .ok (.iconst 0, 1) := by decide +kernel
theorem dL_law_472 : decode cL_law 472 = .ok (.iand, 1) := by decide +kernel
theorem dL_law_473 : decode cL_law 473 = .ok (.istore 30, 2) := by decide +kernel
theorem dL_law_475 : decode cL_law 475 = .ok (.iload 10, 2) := by decide +kernel
theorem dL_law_477 : decode cL_law 477 = .ok (.bipush 19, 2) := by decide +kernel
theorem dL_law_479 : decode cL_law 479 = .ok (.if_icmp .le 14, 3) := by decide +kernel
theorem dL_law_482 : decode cL_law 482 = .ok (.iload 10, 2) := by decide +kernel
theorem dL_law_484 : decode cL_law 484 = .ok (.bipush 25, 2) := by decide +kernel
theorem dL_law_486 : decode cL_law 486 = .ok (.if_icmp .ge 7, 3) := by decide +kernel
theorem dL_law_489 : decode cL_law 489 = .ok (.iconst 1, 1) := by decide +kernel
theorem dL_law_490 : decode cL_law 490 = .ok (.goto 4, 3) := by decide +kernel
theorem dL_law_493 : decode cL_law 493 = .ok (.iconst 0, 1) := by decide +kernel
theorem dL_law_494 : decode cL_law 494 = .ok (.istore 31, 2) := by decide +kernel
theorem dL_law_496 : decode cL_law 496 = .ok (.iload 30, 2) := by decide +kernel
theorem dL_law_498 : decode cL_law 498 = .ok (.iload 31, 2) := by decide +kernel
theorem dL_law_500 : decode cL_law 500 = .ok (.ifCond .eq 40, 3) := by decide +kernel
theorem dL_law_503 : decode cL_law 503 = .ok (.iload 29, 2) := by decide +kernel
theorem dL_law_505 : decode cL_law 505 = .ok (.iload 17, 2) := by decide +kernel
theorem dL_law_507 : decode cL_law 507 = .ok (.ifCond .le 29, 3) := by decide +kernel
theorem dL_law_510 : decode cL_law 510 = .ok (.iload 16, 2) := by decide +kernel
theorem dL_law_512 : decode cL_law 512 = .ok (.ifCond .ne 24, 3) := by decide +kernel
theorem dL_law_515 : decode cL_law 515 = .ok (.iload 14, 2) := by decide +kernel
theorem dL_law_517 : decode cL_law 517 = .ok (.ifCond .ne 19, 3) := by decide +kernel
theorem dL_law_520 : decode cL_law 520 = .ok (.iload 13, 2) := by decide +kernel
theorem dL_law_522 : decode cL_law 522 = .ok (.iload 17, 2) := by decide +kernel
theorem dL_law_524 : decode cL_law 524 = .ok (.if_icmp .lt 12, 3) := by decide +kernel
theorem dL_law_527 : decode cL_law 527 = .ok (.iload 27, 2) := by decide +kernel
theorem dL_law_529 : decode cL_law 529 = .ok (.ifCond .eq 7, 3) := by decide +kernel
theorem dL_law_532 : decode cL_law 532 = .ok (.iconst 1, 1) := by decide +kernel
theorem dL_law_533 : decode cL_law 533 = .ok (.goto 4, 3) := by decide +kernel
theorem dL_law_536 : decode cL_law 536 = .ok (.iconst 0, 1) := by decide +kernel
theorem dL_law_537 : decode cL_law 537 = .ok (.if_icmp .ne 7, 3) := by decide +kernel
theorem dL_law_540 : decode cL_law 540 = .ok (.iconst 1, 1) := by decide +kernel
theorem dL_law_541 : decode cL_law 541 = .ok (.goto 4, 3) := by decide +kernel
theorem dL_law_544 : decode cL_law 544 = .ok (.iconst 0, 1) := by decide +kernel
theorem dL_law_545 : decode cL_law 545 = .ok (.iand, 1) := by decide +kernel
theorem dL_law_546 : decode cL_law 546 = .ok (.istore 30, 2) := by decide +kernel
theorem dL_law_548 : decode cL_law 548 = .ok (.iload 30, 2) := by decide +kernel
theorem dL_law_550 : decode cL_law 550 = .ok (.iload 31, 2) := by decide +kernel
theorem dL_law_552 : decode cL_law 552 = .ok (.ifCond .eq 186, 3) := by decide +kernel
theorem dL_law_555 : decode cL_law 555 = .ok (.iload 29, 2) := by decide +kernel
theorem dL_law_557 : decode cL_law 557 = .ok (.ifCond .eq 181, 3) := by decide +kernel
theorem dL_law_560 : decode cL_law 560 = .ok (.iload 28, 2) := by decide +kernel
theorem dL_law_562 : decode cL_law 562 = .ok (.iconst 1, 1) := by decide +kernel
theorem dL_law_563 : decode cL_law 563 = .ok (.if_icmp .ne 7, 3) := by decide +kernel
theorem dL_law_566 : decode cL_law 566 = .ok (.iconst 1, 1) := by decide +kernel
theorem dL_law_567 : decode cL_law 567 = .ok (.goto 4, 3) := by decide +kernel
theorem dL_law_570 : decode cL_law 570 = .ok (.iconst 0, 1) := by decide +kernel
theorem dL_law_571 : decode cL_law 571 = .ok (.iload 18, 2) := by decide +kernel
theorem dL_law_573 : decode cL_law 573 = .ok (.iconst 1, 1) := by decide +kernel
theorem dL_law_574 : decode cL_law 574 = .ok (.if_icmp .ne 14, 3) := by decide +kernel
theorem dL_law_577 : decode cL_law 577 = .ok (.iload 19, 2) := by decide +kernel
theorem dL_law_579 : decode cL_law 579 = .ok (.iload 5, 2) := by decide +kernel
theorem dL_law_581 : decode cL_law 581 = .ok (.if_icmp .ne 7, 3) := by decide +kernel
theorem dL_law_584 : decode cL_law 584 = .ok (.iconst 1, 1) := by decide +kernel
theorem dL_law_585 : decode cL_law 585 = .ok (.goto 4, 3) := by decide +kernel
theorem dL_law_588 : decode cL_law 588 = .ok (.iconst 0, 1) := by decide +kernel
theorem dL_law_589 : decode cL_law 589 = .ok (.if_icmp .ne 153, 3) := by decide +kernel
theorem dL_law_592 : decode cL_law 592 = .ok (.iload 28, 2) := by decide +kernel
theorem dL_law_594 : decode cL_law 594 = .ok (.iconst 1, 1) := by decide +kernel
theorem dL_law_595 : decode cL_law 595 = .ok (.if_icmp .ne 46, 3) := by decide +kernel
theorem dL_law_598 : decode cL_law 598 = .ok (.aload_n 1, 1) := by decide +kernel
theorem dL_law_599 : decode cL_law 599 = .ok (.invokevirtual 219, 3) := by decide +kernel
theorem dL_law_602 : decode cL_law 602 = .ok (.ifCond .eq 140, 3) := by decide +kernel
theorem dL_law_605 : decode cL_law 605 = .ok (.aload_n 1, 1) := by decide +kernel
theorem dL_law_606 : decode cL_law 606 = .ok (.invokevirtual 238, 3) := by decide +kernel
theorem dL_law_609 : decode cL_law 609 = .ok (.iload 26, 2) := by decide +kernel
theorem dL_law_611 : decode cL_law 611 = .ok (.iconst 1, 1) := by decide +kernel
theorem dL_law_612 : decode cL_law 612 = .ok (.iadd, 1) := by decide +kernel
theorem dL_law_613 : decode cL_law 613 = .ok (.if_icmp .ne 129, 3) := by decide +kernel
theorem dL_law_616 : decode cL_law 616 = .ok (.aload_n 1, 1) := by decide +kernel
theorem dL_law_617 : decode cL_law 617 = .ok (.invokevirtual 216, 3) := by decide +kernel
theorem dL_law_620 : decode cL_law 620 = .ok (.ifCond .ne 122, 3) := by decide +kernel
theorem dL_law_623 : decode cL_law 623 = .ok (.aload_n 1, 1) := by decide +kernel
theorem dL_law_624 : decode cL_law 624 = .ok (.aload_n 1, 1) := by decide +kernel
theorem dL_law_625 : decode cL_law 625 = .ok (.invokevirtual 257, 3) := by decide +kernel
theorem dL_law_628 : decode cL_law 628 = .ok (.iconst 1, 1) := by decide +kernel
theorem dL_law_629 : decode cL_law 629 = .ok (.isub, 1) := by decide +kernel
theorem dL_law_630 : decode cL_law 630 = .ok (.invokestatic 260, 3) := by decide +kernel
theorem dL_law_633 : decode cL_law 633 = .ok (.bipush 111, 2) := by decide +kernel
theorem dL_law_635 : decode cL_law 635 = .ok (.if_icmp .ne 107, 3) := by decide +kernel
theorem dL_law_638 : decode cL_law 638 = .ok (.goto 70, 3) := by decide +kernel
theorem dL_law_641 : decode cL_law 641 = .ok (.aload_n 1, 1) := by decide +kernel
theorem dL_law_642 : decode cL_law 642 = .ok (.invokevirtual 219, 3) := by decide +kernel
theorem dL_law_645 : decode cL_law 645 = .ok (.ifCond .ne 97, 3) := by decide +kernel
theorem dL_law_648 : decode cL_law 648 = .ok (.aload_n 1, 1) := by decide +kernel
theorem dL_law_649 : decode cL_law 649 = .ok (.invokevirtual 238, 3) := by decide +kernel
theorem dL_law_652 : decode cL_law 652 = .ok (.iload 26, 2) := by decide +kernel
theorem dL_law_654 : decode cL_law 654 = .ok (.if_icmp .ne 88, 3) := by decide +kernel
theorem dL_law_657 : decode cL_law 657 = .ok (.iload 15, 2) := by decide +kernel
theorem dL_law_659 : decode cL_law 659 = .ok (.iconst 2, 1) := by decide +kernel
theorem dL_law_660 : decode cL_law 660 = .ok (.if_icmp .ne 22, 3) := by decide +kernel
theorem dL_law_663 : decode cL_law 663 = .ok (.aload_n 1, 1) := by decide +kernel
theorem dL_law_664 : decode cL_law 664 = .ok (.invokevirtual 213, 3) := by decide +kernel
theorem dL_law_667 : decode cL_law 667 = .ok (.bipush 6, 2) := by decide +kernel
theorem dL_law_669 : decode cL_law 669 = .ok (.if_icmp .ne 73, 3) := by decide +kernel
theorem dL_law_672 : decode cL_law 672 = .ok (.aload_n 1, 1) := by decide +kernel
theorem dL_law_673 : decode cL_law 673 = .ok (.invokevirtual 216, 3) := by decide +kernel
theorem dL_law_676 : decode cL_law 676 = .ok (.ifCond .ne 66, 3) := by decide +kernel
theorem dL_law_679 : decode cL_law 679 = .ok (.goto 14, 3) := by decide +kernel
theorem dL_law_682 : decode cL_law 682 = .ok (.aload_n 1, 1) := by decide +kernel
theorem dL_law_683 : decode cL_law 683 = .ok (.invokevirtual 216, 3) := by decide +kernel
theorem dL_law_686 : decode cL_law 686 = .ok (.iload 15, 2) := by decide +kernel
theorem dL_law_688 : decode cL_law 688 = .ok (.iconst 1, 1) := by decide +kernel
theorem dL_law_689 : decode cL_law 689 = .ok (.iadd, 1) := by decide +kernel
theorem dL_law_690 : decode cL_law 690 = .ok (.if_icmp .ne 52, 3) := by decide +kernel
theorem dL_law_693 : decode cL_law 693 = .ok (.aload_n 1, 1) := by decide +kernel
theorem dL_law_694 : decode cL_law 694 = .ok (.aload_n 1, 1) := by decide +kernel
theorem dL_law_695 : decode cL_law 695 = .ok (.invokevirtual 257, 3) := by decide +kernel
theorem dL_law_698 : decode cL_law 698 = .ok (.iconst 1, 1) := by decide +kernel
theorem dL_law_699 : decode cL_law 699 = .ok (.isub, 1) := by decide +kernel
theorem dL_law_700 : decode cL_law 700 = .ok (.invokestatic 260, 3) := by decide +kernel
theorem dL_law_703 : decode cL_law 703 = .ok (.bipush 102, 2) := by decide +kernel
theorem dL_law_705 : decode cL_law 705 = .ok (.if_icmp .ne 37, 3) := by decide +kernel
theorem dL_law_708 : decode cL_law 708 = .ok (.aload_n 1, 1) := by decide +kernel
theorem dL_law_709 : decode cL_law 709 = .ok (.aload_n 1, 1) := by decide +kernel
theorem dL_law_710 : decode cL_law 710 = .ok (.invokevirtual 257, 3) := by decide +kernel
theorem dL_law_713 : decode cL_law 713 = .ok (.iconst 1, 1) := by decide +kernel
theorem dL_law_714 : decode cL_law 714 = .ok (.isub, 1) := by decide +kernel
theorem dL_law_715 : decode cL_law 715 = .ok (.invokestatic 262, 3) := by decide +kernel
theorem dL_law_718 : decode cL_law 718 = .ok (.iload 13, 2) := by decide +kernel
theorem dL_law_720 : decode cL_law 720 = .ok (.if_icmp .ne 22, 3) := by decide +kernel
theorem dL_law_723 : decode cL_law 723 = .ok (.aload_n 1, 1) := by decide +kernel
theorem dL_law_724 : decode cL_law 724 = .ok (.aload_n 1, 1) := by decide +kernel
theorem dL_law_725 : decode cL_law 725 = .ok (.invokevirtual 257, 3) := by decide +kernel
theorem dL_law_728 : decode cL_law 728 = .ok (.iconst 1, 1) := by decide +kernel
theorem dL_law_729 : decode cL_law 729 = .ok (.isub, 1) := by decide +kernel
theorem dL_law_730 : decode cL_law 730 = .ok (.invokestatic 264, 3) := by decide +kernel
theorem dL_law_733 : decode cL_law 733 = .ok (.iload 25, 2) := by decide +kernel
theorem dL_law_735 : decode cL_law 735 = .ok (.if_icmp .ne 7, 3) := by decide +kernel
theorem dL_law_738 : decode cL_law 738 = .ok (.iconst 1, 1) := by decide +kernel
theorem dL_law_739 : decode cL_law 739 = .ok (.goto 4, 3) := by decide +kernel
theorem dL_law_742 : decode cL_law 742 = .ok (.iconst 0, 1) := by decide +kernel
theorem dL_law_743 : decode cL_law 743 = .ok (.iand, 1) := by decide +kernel
theorem dL_law_744 : decode cL_law 744 = .ok (.istore 30, 2) := by decide +kernel
theorem dL_law_746 : decode cL_law 746 = .ok (.iload 30, 2) := by decide +kernel
theorem dL_law_748 : decode cL_law 748 = .ok (.iload 29, 2) := by decide +kernel
theorem dL_law_750 : decode cL_law 750 = .ok (.ifCond .eq 44, 3) := by decide +kernel
theorem dL_law_753 : decode cL_law 753 = .ok (.iload 10, 2) := by decide +kernel
theorem dL_law_755 : decode cL_law 755 = .ok (.bipush 25, 2) := by decide +kernel
theorem dL_law_757 : decode cL_law 757 = .ok (.if_icmp .ne 37, 3) := by decide +kernel
theorem dL_law_760 : decode cL_law 760 = .ok (.iload 16, 2) := by decide +kernel
theorem dL_law_762 : decode cL_law 762 = .ok (.ifCond .eq 36, 3) := by decide +kernel
theorem dL_law_765 : decode cL_law 765 = .ok (.iload 28, 2) := by decide +kernel
theorem dL_law_767 : decode cL_law 767 = .ok (.iload 13, 2) := by decide +kernel
theorem dL_law_769 : decode cL_law 769 = .ok (.if_icmp .ne 29, 3) := by decide +kernel
theorem dL_law_772 : decode cL_law 772 = .ok (.aload_n 1, 1) := by decide +kernel
theorem dL_law_773 : decode cL_law 773 = .ok (.invokevirtual 210, 3) := by decide +kernel
theorem dL_law_776 : decode cL_law 776 = .ok (.ifCond .ne 22, 3) := by decide +kernel
theorem dL_law_779 : decode cL_law 779 = .ok (.aload_n 1, 1) := by decide +kernel
theorem dL_law_780 : decode cL_law 780 = .ok (.aload_n 1, 1) := by decide +kernel
theorem dL_law_781 : decode cL_law 781 = .ok (.invokevirtual 257, 3) := by decide +kernel
theorem dL_law_784 : decode cL_law 784 = .ok (.iconst 1, 1) := by decide +kernel
theorem dL_law_785 : decode cL_law 785 = .ok (.isub, 1) := by decide +kernel
theorem dL_law_786 : decode cL_law 786 = .ok (.invokestatic 260, 3) := by decide +kernel
theorem dL_law_789 : decode cL_law 789 = .ok (.bipush 99, 2) := by decide +kernel
theorem dL_law_791 : decode cL_law 791 = .ok (.if_icmp .ne 7, 3) := by decide +kernel
theorem dL_law_794 : decode cL_law 794 = .ok (.iconst 1, 1) := by decide +kernel
theorem dL_law_795 : decode cL_law 795 = .ok (.goto 4, 3) := by decide +kernel
theorem dL_law_798 : decode cL_law 798 = .ok (.iconst 0, 1) := by decide +kernel
theorem dL_law_799 : decode cL_law 799 = .ok (.iand, 1) := by decide +kernel
theorem dL_law_800 : decode cL_law 800 = .ok (.istore 30, 2) := by decide +kernel
theorem dL_law_802 : decode cL_law 802 = .ok (.iload 29, 2) := by decide +kernel
theorem dL_law_804 : decode cL_law 804 = .ok (.ifCond .eq 21, 3) := by decide +kernel
theorem dL_law_807 : decode cL_law 807 = .ok (.iload 10, 2) := by decide +kernel
theorem dL_law_809 : decode cL_law 809 = .ok (.bipush 37, 2) := by decide +kernel
theorem dL_law_811 : decode cL_law 811 = .ok (.if_icmp .le 14, 3) := by decide +kernel
theorem dL_law_814 : decode cL_law 814 = .ok (.iload 10, 2) := by decide +kernel
theorem dL_law_816 : decode cL_law 816 = .ok (.bipush 46, 2) := by decide +kernel
theorem dL_law_818 : decode cL_law 818 = .ok (.if_icmp .ge 7, 3) := by decide +kernel
theorem dL_law_821 : decode cL_law 821 = .ok (.iconst 1, 1) := by decide +kernel
theorem dL_law_822 : decode cL_law 822 = .ok (.goto 4, 3) := by decide +kernel
theorem dL_law_825 : decode cL_law 825 = .ok (.iconst 0, 1) := by decide +kernel
theorem dL_law_826 : decode cL_law 826 = .ok (.istore 32, 2) := by decide +kernel
theorem dL_law_828 : decode cL_law 828 = .ok (.iload 30, 2) := by decide +kernel
theorem dL_law_830 : decode cL_law 830 = .ok (.iload 32, 2) := by decide +kernel
theorem dL_law_832 : decode cL_law 832 = .ok (.ifCond .eq 71, 3) := by decide +kernel
theorem dL_law_835 : decode cL_law 835 = .ok (.iload 28, 2) := by decide +kernel
theorem dL_law_837 : decode cL_law 837 = .ok (.iload 21, 2) := by decide +kernel
theorem dL_law_839 : decode cL_law 839 = .ok (.if_icmp .ne 68, 3) := by decide +kernel
theorem dL_law_842 : decode cL_law 842 = .ok (.aload_n 1, 1) := by decide +kernel
theorem dL_law_843 : decode cL_law 843 = .ok (.invokevirtual 232, 3) := by decide +kernel
theorem dL_law_846 : decode cL_law 846 = .ok (.iload 24, 2) := by decide +kernel
theorem dL_law_848 : decode cL_law 848 = .ok (.iload 28, 2) := by decide +kernel
theorem dL_law_850 : decode cL_law 850 = .ok (.iadd, 1) := by decide +kernel
theorem dL_law_851 : decode cL_law 851 = .ok (.if_icmp .ne 56, 3) := by decide +kernel
theorem dL_law_854 : decode cL_law 854 = .ok (.aload_n 1, 1) := by decide +kernel
theorem dL_law_855 : decode cL_law 855 = .ok (.invokevirtual 235, 3) := by decide +kernel
theorem dL_law_858 : decode cL_law 858 = .ok (.iload 25, 2) := by decide +kernel
theorem dL_law_860 : decode cL_law 860 = .ok (.iload 20, 2) := by decide +kernel
theorem dL_law_862 : decode cL_law 862 = .ok (.iadd, 1) := by decide +kernel
theorem dL_law_863 : decode cL_law 863 = .ok (.if_icmp .ne 44, 3) := by decide +kernel
theorem dL_law_866 : decode cL_law 866 = .ok (.aload_n 1, 1) := by decide +kernel
theorem dL_law_867 : decode cL_law 867 = .ok (.invokevirtual 213, 3) := by decide +kernel
theorem dL_law_870 : decode cL_law 870 = .ok (.iconst 0, 1) := by decide +kernel
theorem dL_law_871 : decode cL_law 871 = .ok (.iload 14, 2) := by decide +kernel
theorem dL_law_873 : decode cL_law 873 = .ok (.iload 20, 2) := by decide +kernel
theorem dL_law_875 : decode cL_law 875 = .ok (.isub, 1) := by decide +kernel
theorem dL_law_876 : decode cL_law 876 = .ok (.invokestatic 266, 3) := by decide +kernel
theorem dL_law_879 : decode cL_law 879 = .ok (.if_icmp .ne 28, 3) := by decide +kernel
theorem dL_law_882 : decode cL_law 882 = .ok (.iload 23, 2) := by decide +kernel
theorem dL_law_884 : decode cL_law 884 = .ok (.iload 20, 2) := by decide +kernel
theorem dL_law_886 : decode cL_law 886 = .ok (.if_icmp .lt 17, 3) := by decide +kernel
theorem dL_law_889 : decode cL_law 889 = .ok (.aload_n 1, 1) := by decide +kernel
theorem dL_law_890 : decode cL_law 890 = .ok (.iload 22, 2) := by decide +kernel
theorem dL_law_892 : decode cL_law 892 = .ok (.invokestatic 230, 3) := by decide +kernel
theorem dL_law_895 : decode cL_law 895 = .ok (.iload 23, 2) := by decide +kernel
theorem dL_law_897 : decode cL_law 897 = .ok (.iload 20, 2) := by decide +kernel
theorem dL_law_899 : decode cL_law 899 = .ok (.isub, 1) := by decide +kernel
theorem dL_law_900 : decode cL_law 900 = .ok (.if_icmp .ne 7, 3) := by decide +kernel
theorem dL_law_903 : decode cL_law 903 = .ok (.iconst 1, 1) := by decide +kernel
theorem dL_law_904 : decode cL_law 904 = .ok (.goto 4, 3) := by decide +kernel
theorem dL_law_907 : decode cL_law 907 = .ok (.iconst 0, 1) := by decide +kernel
theorem dL_law_908 : decode cL_law 908 = .ok (.iand, 1) := by decide +kernel
theorem dL_law_909 : decode cL_law 909 = .ok (.istore 30, 2) := by decide +kernel
theorem dL_law_911 : decode cL_law 911 = .ok (.iload 30, 2) := by decide +kernel
theorem dL_law_913 : decode cL_law 913 = .ok (.iload 32, 2) := by decide +kernel
theorem dL_law_915 : decode cL_law 915 = .ok (.ifCond .ne 28, 3) := by decide +kernel
theorem dL_law_918 : decode cL_law 918 = .ok (.iload 10, 2) := by decide +kernel
theorem dL_law_920 : decode cL_law 920 = .ok (.bipush 45, 2) := by decide +kernel
theorem dL_law_922 : decode cL_law 922 = .ok (.if_icmp .gt 21, 3) := by decide +kernel
theorem dL_law_925 : decode cL_law 925 = .ok (.aload_n 1, 1) := by decide +kernel
theorem dL_law_926 : decode cL_law 926 = .ok (.invokevirtual 232, 3) := by decide +kernel
theorem dL_law_929 : decode cL_law 929 = .ok (.iload 24, 2) := by decide +kernel
theorem dL_law_931 : decode cL_law 931 = .ok (.if_icmp .ne 16, 3) := by decide +kernel
theorem dL_law_934 : decode cL_law 934 = .ok (.aload_n 1, 1) := by decide +kernel
theorem dL_law_935 : decode cL_law 935 = .ok (.invokevirtual 235, 3) := by decide +kernel
theorem dL_law_938 : decode cL_law 938 = .ok (.iload 25, 2) := by decide +kernel
theorem dL_law_940 : decode cL_law 940 = .ok (.if_icmp .ne 7, 3) := by decide +kernel
theorem dL_law_943 : decode cL_law 943 = .ok (.iconst 1, 1) := by decide +kernel
theorem dL_law_944 : decode cL_law 944 = .ok (.goto 4, 3) := by decide +kernel
theorem dL_law_947 : decode cL_law 947 = .ok (.iconst 0, 1) := by decide +kernel
theorem dL_law_948 : decode cL_law 948 = .ok (.iand, 1) := by decide +kernel
theorem dL_law_949 : decode cL_law 949 = .ok (.istore 30, 2) := by decide +kernel
theorem dL_law_951 : decode cL_law 951 = .ok (.iinc 4 5, 3) := by decide +kernel
theorem dL_law_954 : decode cL_law 954 = .ok (.iload 30, 2) := by decide +kernel
theorem dL_law_956 : decode cL_law 956 = .ok (.ifCond .eq 28, 3) := by decide +kernel
theorem dL_law_959 : decode cL_law 959 = .ok (.aload_n 1, 1) := by decide +kernel
theorem dL_law_960 : decode cL_law 960 = .ok (.aload_n 0, 1) := by decide +kernel
theorem dL_law_961 : decode cL_law 961 = .ok (.iload 4, 2) := by decide +kernel
theorem dL_law_963 : decode cL_law 963 = .ok (.iload 5, 2) := by decide +kernel
theorem dL_law_965 : decode cL_law 965 = .ok (.iload 6, 2) := by decide +kernel
theorem dL_law_967 : decode cL_law 967 = .ok (.iconst 4, 1) := by decide +kernel
theorem dL_law_968 : decode cL_law 968 = .ok (.irem, 1) := by decide +kernel
theorem dL_law_969 : decode cL_law 969 = .ok (.iconst 3, 1) := by decide +kernel
theorem dL_law_970 : decode cL_law 970 = .ok (.if_icmp .ne 7, 3) := by decide +kernel
theorem dL_law_973 : decode cL_law 973 = .ok (.iconst 1, 1) := by decide +kernel
theorem dL_law_974 : decode cL_law 974 = .ok (.goto 4, 3) := by decide +kernel
theorem dL_law_977 : decode cL_law 977 = .ok (.iconst 0, 1) := by decide +kernel
theorem dL_law_978 : decode cL_law 978 = .ok (.invokestatic 271, 3) := by decide +kernel
theorem dL_law_981 : decode cL_law 981 = .ok (.ifCond .ne 5, 3) := by decide +kernel
theorem dL_law_984 : decode cL_law 984 = .ok (.iconst 0, 1) := by decide +kernel
theorem dL_law_985 : decode cL_law 985 = .ok (.ireturn, 1) := by decide +kernel
theorem dL_law_986 : decode cL_law 986 = .ok (.iload 29, 2) := by decide +kernel
theorem dL_law_988 : decode cL_law 988 = .ok (.ifCond .ne 24, 3) := by decide +kernel
theorem dL_law_991 : decode cL_law 991 = .ok (.aload_n 1, 1) := by decide +kernel
theorem dL_law_992 : decode cL_law 992 = .ok (.invokestatic 196, 3) := by decide +kernel
theorem dL_law_995 : decode cL_law 995 = .ok (.lload 7, 2) := by decide +kernel
theorem dL_law_997 : decode cL_law 997 = .ok (.lcmp, 1) := by decide +kernel
theorem dL_law_998 : decode cL_law 998 = .ok (.ifCond .ne 12, 3) := by decide +kernel
theorem dL_law_1001 : decode cL_law 1001 = .ok (.aload_n 1, 1) := by decide +kernel
theorem dL_law_1002 : decode cL_law 1002 = .ok (.invokevirtual 200, 3) := by decide +kernel
theorem dL_law_1005 : decode cL_law 1005 = .ok (.iload 9, 2) := by decide +kernel
theorem dL_law_1007 : decode cL_law 1007 = .ok (.if_icmp .eq 15, 3) := by decide +kernel
theorem dL_law_1010 : decode cL_law 1010 = .ok (.iconst 0, 1) := by decide +kernel
theorem dL_law_1011 : decode cL_law 1011 = .ok (.ireturn, 1) := by decide +kernel
theorem dL_law_1012 : decode cL_law 1012 = .ok (.iinc 3 1, 3) := by decide +kernel
theorem dL_law_1015 : decode cL_law 1015 = .ok (.aload_n 2, 1) := by decide +kernel
theorem dL_law_1016 : decode cL_law 1016 = .ok (.iload_n 3, 1) := by decide +kernel
theorem dL_law_1017 : decode cL_law 1017 = .ok (.aload_n 1, 1) := by decide +kernel
theorem dL_law_1018 : decode cL_law 1018 = .ok (.invokestatic 196, 3) := by decide +kernel
theorem dL_law_1021 : decode cL_law 1021 = .ok (.lastore, 1) := by decide +kernel
theorem dL_law_1022 : decode cL_law 1022 = .ok (.iinc 6 1, 3) := by decide +kernel
theorem dL_law_1025 : decode cL_law 1025 = .ok (.goto (-994), 3) := by decide +kernel
theorem dL_law_1028 : decode cL_law 1028 = .ok (.aload_n 1, 1) := by decide +kernel
theorem dL_law_1029 : decode cL_law 1029 = .ok (.aload_n 2, 1) := by decide +kernel
theorem dL_law_1030 : decode cL_law 1030 = .ok (.iload_n 3, 1) := by decide +kernel
theorem dL_law_1031 : decode cL_law 1031 = .ok (.invokestatic 275, 3) := by decide +kernel
theorem dL_law_1034 : decode cL_law 1034 = .ok (.ireturn, 1) := by decide +kernel
theorem dL_visit_0 : decode cL_visit 0 = .ok (.iconst 0, 1) := by decide +kernel
theorem dL_visit_1 : decode cL_visit 1 = .ok (.istore_n 2, 1) := by decide +kernel
theorem dL_visit_2 : decode cL_visit 2 = .ok (.iload_n 2, 1) := by decide +kernel
theorem dL_visit_3 : decode cL_visit 3 = .ok (.aload_n 0, 1) := by decide +kernel
theorem dL_visit_4 : decode cL_visit 4 = .ok (.invokevirtual 279, 3) := by decide +kernel
theorem dL_visit_7 : decode cL_visit 7 = .ok (.if_icmp .ge 20, 3) := by decide +kernel
theorem dL_visit_10 : decode cL_visit 10 = .ok (.aload_n 0, 1) := by decide +kernel
theorem dL_visit_11 : decode cL_visit 11 = .ok (.iload_n 2, 1) := by decide +kernel
theorem dL_visit_12 : decode cL_visit 12 = .ok (.invokestatic 282, 3) := by decide +kernel
theorem dL_visit_15 : decode cL_visit 15 = .ok (.iload_n 1, 1) := by decide +kernel
theorem dL_visit_16 : decode cL_visit 16 = .ok (.if_icmp .ne 5, 3) := by decide +kernel
theorem dL_visit_19 : decode cL_visit 19 = .ok (.iconst 1, 1) := by decide +kernel
theorem dL_visit_20 : decode cL_visit 20 = .ok (.ireturn, 1) := by decide +kernel
theorem dL_visit_21 : decode cL_visit 21 = .ok (.iinc 2 1, 3) := by decide +kernel
theorem dL_visit_24 : decode cL_visit 24 = .ok (.goto (-22), 3) := by decide +kernel
theorem dL_visit_27 : decode cL_visit 27 = .ok (.iconst 0, 1) := by decide +kernel
theorem dL_visit_28 : decode cL_visit 28 = .ok (.ireturn, 1) := by decide +kernel
theorem dL_areCorrect_0 : decode cL_areCorrect 0 = .ok (.iconst 0, 1) := by decide +kernel
theorem dL_areCorrect_1 : decode cL_areCorrect 1 = .ok (.istore_n 1, 1) := by decide +kernel
theorem dL_areCorrect_2 : decode cL_areCorrect 2 = .ok (.iload_n 1, 1) := by decide +kernel
theorem dL_areCorrect_3 : decode cL_areCorrect 3 = .ok (.aload_n 0, 1) := by decide +kernel
theorem dL_areCorrect_4 : decode cL_areCorrect 4 = .ok (.invokevirtual 207, 3) := by decide +kernel
theorem dL_areCorrect_7 : decode cL_areCorrect 7 = .ok (.if_icmp .ge 20, 3) := by decide +kernel
theorem dL_areCorrect_10 : decode cL_areCorrect 10 = .ok (.aload_n 0, 1) := by decide +kernel
theorem dL_areCorrect_11 : decode cL_areCorrect 11 = .ok (.iload_n 1, 1) := by decide +kernel
theorem dL_areCorrect_12 : decode cL_areCorrect 12 = .ok (.invokestatic 284, 3) := by decide +kernel
theorem dL_areCorrect_15 : decode cL_areCorrect 15 = .ok (.iconst 1, 1) := by decide +kernel
theorem dL_areCorrect_16 : decode cL_areCorrect 16 = .ok (.if_icmp .eq 5, 3) := by decide +kernel
theorem dL_areCorrect_19 : decode cL_areCorrect 19 = .ok (.iconst 0, 1) := by decide +kernel
theorem dL_areCorrect_20 : decode cL_areCorrect 20 = .ok (.ireturn, 1) := by decide +kernel
theorem dL_areCorrect_21 : decode cL_areCorrect 21 = .ok (.iinc 1 1, 3) := by decide +kernel
theorem dL_areCorrect_24 : decode cL_areCorrect 24 = .ok (.goto (-22), 3) := by decide +kernel
theorem dL_areCorrect_27 : decode cL_areCorrect 27 = .ok (.iconst 1, 1) := by decide +kernel
theorem dL_areCorrect_28 : decode cL_areCorrect 28 = .ok (.ireturn, 1) := by decide +kernel
theorem dL_does_0 : decode cL_does 0 = .ok (.aload_n 0, 1) := by decide +kernel
theorem dL_does_1 : decode cL_does 1 = .ok (.iload_n 1, 1) := by decide +kernel
theorem dL_does_2 : decode cL_does 2 = .ok (.iconst 3, 1) := by decide +kernel
theorem dL_does_3 : decode cL_does 3 = .ok (.iadd, 1) := by decide +kernel
theorem dL_does_4 : decode cL_does 4 = .ok (.sipush 1000, 3) := by decide +kernel
theorem dL_does_7 : decode cL_does 7 = .ok (.invokestatic 203, 3) := by decide +kernel
theorem dL_does_10 : decode cL_does 10 = .ok (.istore 6, 2) := by decide +kernel
theorem dL_does_12 : decode cL_does 12 = .ok (.aload_n 0, 1) := by decide +kernel
theorem dL_does_13 : decode cL_does 13 = .ok (.iload_n 1, 1) := by decide +kernel
theorem dL_does_14 : decode cL_does 14 = .ok (.iconst 4, 1) := by decide +kernel
theorem dL_does_15 : decode cL_does 15 = .ok (.iadd, 1) := by decide +kernel
theorem dL_does_16 : decode cL_does 16 = .ok (.sipush 1000, 3) := by decide +kernel
theorem dL_does_19 : decode cL_does 19 = .ok (.invokestatic 203, 3) := by decide +kernel
theorem dL_does_22 : decode cL_does 22 = .ok (.istore 7, 2) := by decide +kernel
theorem dL_does_24 : decode cL_does 24 = .ok (.aload_n 3, 1) := by decide +kernel
theorem dL_does_25 : decode cL_does 25 = .ok (.invokevirtual 279, 3) := by decide +kernel
theorem dL_does_28 : decode cL_does 28 = .ok (.istore 8, 2) := by decide +kernel
theorem dL_does_30 : decode cL_does 30 = .ok (.iload_n 2, 1) := by decide +kernel
theorem dL_does_31 : decode cL_does 31 = .ok (.iconst 3, 1) := by decide +kernel
theorem dL_does_32 : decode cL_does 32 = .ok (.if_icmp .ge 8, 3) := by decide +kernel
theorem dL_does_35 : decode cL_does 35 = .ok (.aload_n 3, 1) := by decide +kernel
theorem dL_does_36 : decode cL_does 36 = .ok (.invokestatic 286, 3) := by decide +kernel
theorem dL_does_39 : decode cL_does 39 = .ok (.ireturn, 1) := by decide +kernel
theorem dL_does_40 : decode cL_does 40 = .ok (.iload_n 2, 1) := by decide +kernel
theorem dL_does_41 : decode cL_does 41 = .ok (.bipush 6, 2) := by decide +kernel
theorem dL_does_43 : decode cL_does 43 = .ok (.if_icmp .ge 45, 3) := by decide +kernel
theorem dL_does_46 : decode cL_does 46 = .ok (.aload_n 3, 1) := by decide +kernel
theorem dL_does_47 : decode cL_does 47 = .ok (.iload 6, 2) := by decide +kernel
theorem dL_does_49 : decode cL_does 49 = .ok (.bipush 29, 2) := by decide +kernel
theorem dL_does_51 : decode cL_does 51 = .ok (.irem, 1) := by decide +kernel
theorem dL_does_52 : decode cL_does 52 = .ok (.ifCond .ne 8, 3) := by decide +kernel
theorem dL_does_55 : decode cL_does 55 = .ok (.bipush 97, 2) := by decide +kernel
theorem dL_does_57 : decode cL_does 57 = .ok (.goto 8, 3) := by decide +kernel
theorem dL_does_60 : decode cL_does 60 = .ok (.iload 7, 2) := by decide +kernel
theorem dL_does_62 : decode cL_does 62 = .ok (.bipush 97, 2) := by decide +kernel
theorem dL_does_64 : decode cL_does 64 = .ok (.irem, 1) := by decide +kernel
theorem dL_does_65 : decode cL_does 65 = .ok (.iload 6, 2) := by decide +kernel
theorem dL_does_67 : decode cL_does 67 = .ok (.bipush 97, 2) := by decide +kernel
theorem dL_does_69 : decode cL_does 69 = .ok (.irem, 1) := by decide +kernel
theorem dL_does_70 : decode cL_does 70 = .ok (.iload 6, 2) := by decide +kernel
theorem dL_does_72 : decode cL_does 72 = .ok (.iload 7, 2) := by decide +kernel
theorem dL_does_74 : decode cL_does 74 = .ok (.iadd, 1) := by decide +kernel
theorem dL_does_75 : decode cL_does 75 = .ok (.bipush 97, 2) := by decide +kernel
theorem dL_does_77 : decode cL_does 77 = .ok (.irem, 1) := by decide +kernel
theorem dL_does_78 : decode cL_does 78 = .ok (.iconst 1, 1) := by decide +kernel
theorem dL_does_79 : decode cL_does 79 = .ok (.iload 6, 2) := by decide +kernel
theorem dL_does_81 : decode cL_does 81 = .ok (.iconst 3, 1) := by decide +kernel
theorem dL_does_82 : decode cL_does 82 = .ok (.irem, 1) := by decide +kernel
theorem dL_does_83 : decode cL_does 83 = .ok (.iadd, 1) := by decide +kernel
theorem dL_does_84 : decode cL_does 84 = .ok (.invokestatic 288, 3) := by decide +kernel
theorem dL_does_87 : decode cL_does 87 = .ok (.ireturn, 1) := by decide +kernel
theorem dL_does_88 : decode cL_does 88 = .ok (.iload_n 2, 1) := by decide +kernel
theorem dL_does_89 : decode cL_does 89 = .ok (.bipush 10, 2) := by decide +kernel
theorem dL_does_91 : decode cL_does 91 = .ok (.if_icmp .ge 28, 3) := by decide +kernel
theorem dL_does_94 : decode cL_does 94 = .ok (.aload_n 3, 1) := by decide +kernel
theorem dL_does_95 : decode cL_does 95 = .ok (.iload 4, 2) := by decide +kernel
theorem dL_does_97 : decode cL_does 97 = .ok (.iload 6, 2) := by decide +kernel
theorem dL_does_99 : decode cL_does 99 = .ok (.bipush 29, 2) := by decide +kernel
theorem dL_does_101 : decode cL_does 101 = .ok (.irem, 1) := by decide +kernel
theorem dL_does_102 : decode cL_does 102 = .ok (.ifCond .ne 8, 3) := by decide +kernel
theorem dL_does_105 : decode cL_does 105 = .ok (.bipush 97, 2) := by decide +kernel
theorem dL_does_107 : decode cL_does 107 = .ok (.goto 8, 3) := by decide +kernel
theorem dL_does_110 : decode cL_does 110 = .ok (.iload 7, 2) := by decide +kernel
theorem dL_does_112 : decode cL_does 112 = .ok (.bipush 97, 2) := by decide +kernel
theorem dL_does_114 : decode cL_does 114 = .ok (.irem, 1) := by decide +kernel
theorem dL_does_115 : decode cL_does 115 = .ok (.invokestatic 291, 3) := by decide +kernel
theorem dL_does_118 : decode cL_does 118 = .ok (.ireturn, 1) := by decide +kernel
theorem dL_does_119 : decode cL_does 119 = .ok (.iload_n 2, 1) := by decide +kernel
theorem dL_does_120 : decode cL_does 120 = .ok (.bipush 18, 2) := by decide +kernel
theorem dL_does_122 : decode cL_does 122 = .ok (.if_icmp .ge 10, 3) := by decide +kernel
theorem dL_does_125 : decode cL_does 125 = .ok (.aload_n 3, 1) := by decide +kernel
theorem dL_does_126 : decode cL_does 126 = .ok (.iload 4, 2) := by decide +kernel
theorem dL_does_128 : decode cL_does 128 = .ok (.invokestatic 294, 3) := by decide +kernel
theorem dL_does_131 : decode cL_does 131 = .ok (.ireturn, 1) := by decide +kernel
theorem dL_does_132 : decode cL_does 132 = .ok (.iload_n 2, 1) := by decide +kernel
theorem dL_does_133 : decode cL_does 133 = .ok (.bipush 20, 2) := by decide +kernel
theorem dL_does_135 : decode cL_does 135 = .ok (.if_icmp .ge 10, 3) := by decide +kernel
theorem dL_does_138 : decode cL_does 138 = .ok (.aload_n 3, 1) := by decide +kernel
theorem dL_does_139 : decode cL_does 139 = .ok (.iload 4, 2) := by decide +kernel
theorem dL_does_141 : decode cL_does 141 = .ok (.invokestatic 296, 3) := by decide +kernel
theorem dL_does_144 : decode cL_does 144 = .ok (.ireturn, 1) := by decide +kernel
theorem dL_does_145 : decode cL_does 145 = .ok (.iload_n 2, 1) := by decide +kernel
theorem dL_does_146 : decode cL_does 146 = .ok (.bipush 25, 2) := by decide +kernel
theorem dL_does_148 : decode cL_does 148 = .ok (.if_icmp .ge 8, 3) := by decide +kernel
theorem dL_does_151 : decode cL_does 151 = .ok (.aload_n 3, 1) := by decide +kernel
theorem dL_does_152 : decode cL_does 152 = .ok (.invokestatic 298, 3) := by decide +kernel
theorem dL_does_155 : decode cL_does 155 = .ok (.ireturn, 1) := by decide +kernel
theorem dL_does_156 : decode cL_does 156 = .ok (.iload_n 2, 1) := by decide +kernel
theorem dL_does_157 : decode cL_does 157 = .ok (.bipush 25, 2) := by decide +kernel
theorem dL_does_159 : decode cL_does 159 = .ok (.if_icmp .ne 8, 3) := by decide +kernel
theorem dL_does_162 : decode cL_does 162 = .ok (.aload_n 3, 1) := by decide +kernel
theorem dL_does_163 : decode cL_does 163 = .ok (.invokestatic 300, 3) := by decide +kernel
theorem dL_does_166 : decode cL_does 166 = .ok (.ireturn, 1) := by decide +kernel
theorem dL_does_167 : decode cL_does 167 = .ok (.iload_n 2, 1) := by decide +kernel
theorem dL_does_168 : decode cL_does 168 = .ok (.bipush 29, 2) := by decide +kernel
theorem dL_does_170 : decode cL_does 170 = .ok (.if_icmp .ge 57, 3) := by decide +kernel
theorem dL_does_173 : decode cL_does 173 = .ok (.aload_n 3, 1) := by decide +kernel
theorem dL_does_174 : decode cL_does 174 = .ok (.iload 6, 2) := by decide +kernel
theorem dL_does_176 : decode cL_does 176 = .ok (.bipush 29, 2) := by decide +kernel
theorem dL_does_178 : decode cL_does 178 = .ok (.irem, 1) := by decide +kernel
theorem dL_does_179 : decode cL_does 179 = .ok (.ifCond .ne 8, 3) := by decide +kernel
theorem dL_does_182 : decode cL_does 182 = .ok (.bipush 8, 2) := by decide +kernel
theorem dL_does_184 : decode cL_does 184 = .ok (.goto 19, 3) := by decide +kernel
theorem dL_does_187 : decode cL_does 187 = .ok (.iload 6, 2) := by decide +kernel
theorem dL_does_189 : decode cL_does 189 = .ok (.iconst 2, 1) := by decide +kernel
theorem dL_does_190 : decode cL_does 190 = .ok (.irem, 1) := by decide +kernel
theorem dL_does_191 : decode cL_does 191 = .ok (.ifCond .ne 7, 3) := by decide +kernel
theorem dL_does_194 : decode cL_does 194 = .ok (.iconst 0, 1) := by decide +kernel
theorem dL_does_195 : decode cL_does 195 = .ok (.goto 8, 3) := by decide +kernel
theorem dL_does_198 : decode cL_does 198 = .ok (.iload 7, 2) := by decide +kernel
theorem dL_does_200 : decode cL_does 200 = .ok (.bipush 8, 2) := by decide +kernel
theorem dL_does_202 : decode cL_does 202 = .ok (.irem, 1) := by decide +kernel
theorem dL_does_203 : decode cL_does 203 = .ok (.iload 7, 2) := by decide +kernel
theorem dL_does_205 : decode cL_does 205 = .ok (.iconst 2, 1) := by decide +kernel
theorem dL_does_206 : decode cL_does 206 = .ok (.irem, 1) := by decide +kernel
theorem dL_does_207 : decode cL_does 207 = .ok (.ifCond .ne 7, 3) := by decide +kernel
theorem dL_does_210 : decode cL_does 210 = .ok (.iconst 1, 1) := by decide +kernel
theorem dL_does_211 : decode cL_does 211 = .ok (.goto 4, 3) := by decide +kernel
theorem dL_does_214 : decode cL_does 214 = .ok (.iconst 0, 1) := by decide +kernel
theorem dL_does_215 : decode cL_does 215 = .ok (.iconst 1, 1) := by decide +kernel
theorem dL_does_216 : decode cL_does 216 = .ok (.iload 7, 2) := by decide +kernel
theorem dL_does_218 : decode cL_does 218 = .ok (.iconst 2, 1) := by decide +kernel
theorem dL_does_219 : decode cL_does 219 = .ok (.idiv, 1) := by decide +kernel
theorem dL_does_220 : decode cL_does 220 = .ok (.iconst 4, 1) := by decide +kernel
theorem dL_does_221 : decode cL_does 221 = .ok (.irem, 1) := by decide +kernel
theorem dL_does_222 : decode cL_does 222 = .ok (.iadd, 1) := by decide +kernel
theorem dL_does_223 : decode cL_does 223 = .ok (.invokestatic 302, 3) := by decide +kernel
theorem dL_does_226 : decode cL_does 226 = .ok (.ireturn, 1) := by decide +kernel
theorem dL_does_227 : decode cL_does 227 = .ok (.iload_n 2, 1) := by decide +kernel
theorem dL_does_228 : decode cL_does 228 = .ok (.bipush 31, 2) := by decide +kernel
theorem dL_does_230 : decode cL_does 230 = .ok (.if_icmp .ge 31, 3) := by decide +kernel
theorem dL_does_233 : decode cL_does 233 = .ok (.aload_n 3, 1) := by decide +kernel
theorem dL_does_234 : decode cL_does 234 = .ok (.iload 6, 2) := by decide +kernel
theorem dL_does_236 : decode cL_does 236 = .ok (.bipush 19, 2) := by decide +kernel
theorem dL_does_238 : decode cL_does 238 = .ok (.irem, 1) := by decide +kernel
theorem dL_does_239 : decode cL_does 239 = .ok (.ifCond .eq 8, 3) := by decide +kernel
theorem dL_does_242 : decode cL_does 242 = .ok (.iload 8, 2) := by decide +kernel
theorem dL_does_244 : decode cL_does 244 = .ok (.ifCond .ne 8, 3) := by decide +kernel
theorem dL_does_247 : decode cL_does 247 = .ok (.iload 8, 2) := by decide +kernel
theorem dL_does_249 : decode cL_does 249 = .ok (.goto 8, 3) := by decide +kernel
theorem dL_does_252 : decode cL_does 252 = .ok (.iload 7, 2) := by decide +kernel
theorem dL_does_254 : decode cL_does 254 = .ok (.iload 8, 2) := by decide +kernel
theorem dL_does_256 : decode cL_does 256 = .ok (.irem, 1) := by decide +kernel
theorem dL_does_257 : decode cL_does 257 = .ok (.invokestatic 305, 3) := by decide +kernel
theorem dL_does_260 : decode cL_does 260 = .ok (.ireturn, 1) := by decide +kernel
theorem dL_does_261 : decode cL_does 261 = .ok (.iload_n 2, 1) := by decide +kernel
theorem dL_does_262 : decode cL_does 262 = .ok (.bipush 38, 2) := by decide +kernel
theorem dL_does_264 : decode cL_does 264 = .ok (.if_icmp .ge 33, 3) := by decide +kernel
theorem dL_does_267 : decode cL_does 267 = .ok (.aload_n 3, 1) := by decide +kernel
theorem dL_does_268 : decode cL_does 268 = .ok (.iload 7, 2) := by decide +kernel
theorem dL_does_270 : decode cL_does 270 = .ok (.bipush 8, 2) := by decide +kernel
theorem dL_does_272 : decode cL_does 272 = .ok (.irem, 1) := by decide +kernel
theorem dL_does_273 : decode cL_does 273 = .ok (.iload 6, 2) := by decide +kernel
theorem dL_does_275 : decode cL_does 275 = .ok (.bipush 23, 2) := by decide +kernel
theorem dL_does_277 : decode cL_does 277 = .ok (.irem, 1) := by decide +kernel
theorem dL_does_278 : decode cL_does 278 = .ok (.ifCond .ne 8, 3) := by decide +kernel
theorem dL_does_281 : decode cL_does 281 = .ok (.bipush 10, 2) := by decide +kernel
theorem dL_does_283 : decode cL_does 283 = .ok (.goto 10, 3) := by decide +kernel
theorem dL_does_286 : decode cL_does 286 = .ok (.iconst 1, 1) := by decide +kernel
theorem dL_does_287 : decode cL_does 287 = .ok (.iload 6, 2) := by decide +kernel
theorem dL_does_289 : decode cL_does 289 = .ok (.bipush 9, 2) := by decide +kernel
theorem dL_does_291 : decode cL_does 291 = .ok (.irem, 1) := by decide +kernel
theorem dL_does_292 : decode cL_does 292 = .ok (.iadd, 1) := by decide +kernel
theorem dL_does_293 : decode cL_does 293 = .ok (.invokestatic 307, 3) := by decide +kernel
theorem dL_does_296 : decode cL_does 296 = .ok (.ireturn, 1) := by decide +kernel
theorem dL_does_297 : decode cL_does 297 = .ok (.iload_n 2, 1) := by decide +kernel
theorem dL_does_298 : decode cL_does 298 = .ok (.bipush 46, 2) := by decide +kernel
theorem dL_does_300 : decode cL_does 300 = .ok (.if_icmp .ge 10, 3) := by decide +kernel
theorem dL_does_303 : decode cL_does 303 = .ok (.aload_n 3, 1) := by decide +kernel
theorem dL_does_304 : decode cL_does 304 = .ok (.iload 5, 2) := by decide +kernel
theorem dL_does_306 : decode cL_does 306 = .ok (.invokestatic 309, 3) := by decide +kernel
theorem dL_does_309 : decode cL_does 309 = .ok (.ireturn, 1) := by decide +kernel
theorem dL_does_310 : decode cL_does 310 = .ok (.aload_n 3, 1) := by decide +kernel
theorem dL_does_311 : decode cL_does 311 = .ok (.new 311, 3) := by decide +kernel
theorem dL_does_314 : decode cL_does 314 = .ok (.dup, 1) := by decide +kernel
theorem dL_does_315 : decode cL_does 315 = .ok (.invokespecial 313, 3) := by decide +kernel
theorem dL_does_318 : decode cL_does 318 = .ok (.ldc_w 314, 3) := by decide +kernel
theorem dL_does_321 : decode cL_does 321 = .ok (.invokevirtual 316, 3) := by decide +kernel
theorem dL_does_324 : decode cL_does 324 = .ok (.iload 7, 2) := by decide +kernel
theorem dL_does_326 : decode cL_does 326 = .ok (.bipush 8, 2) := by decide +kernel
theorem dL_does_328 : decode cL_does 328 = .ok (.irem, 1) := by decide +kernel
theorem dL_does_329 : decode cL_does 329 = .ok (.invokevirtual 320, 3) := by decide +kernel
theorem dL_does_332 : decode cL_does 332 = .ok (.ldc_w 323, 3) := by decide +kernel
theorem dL_does_335 : decode cL_does 335 = .ok (.invokevirtual 316, 3) := by decide +kernel
theorem dL_does_338 : decode cL_does 338 = .ok (.iconst 1, 1) := by decide +kernel
theorem dL_does_339 : decode cL_does 339 = .ok (.iload 6, 2) := by decide +kernel
theorem dL_does_341 : decode cL_does 341 = .ok (.bipush 9, 2) := by decide +kernel
theorem dL_does_343 : decode cL_does 343 = .ok (.irem, 1) := by decide +kernel
theorem dL_does_344 : decode cL_does 344 = .ok (.iadd, 1) := by decide +kernel
theorem dL_does_345 : decode cL_does 345 = .ok (.invokevirtual 320, 3) := by decide +kernel
theorem dL_does_348 : decode cL_does 348 = .ok (.iload 6, 2) := by decide +kernel
theorem dL_does_350 : decode cL_does 350 = .ok (.iconst 4, 1) := by decide +kernel
theorem dL_does_351 : decode cL_does 351 = .ok (.irem, 1) := by decide +kernel
theorem dL_does_352 : decode cL_does 352 = .ok (.ifCond .ne 27, 3) := by decide +kernel
theorem dL_does_355 : decode cL_does 355 = .ok (.new 311, 3) := by decide +kernel
theorem dL_does_358 : decode cL_does 358 = .ok (.dup, 1) := by decide +kernel
theorem dL_does_359 : decode cL_does 359 = .ok (.invokespecial 313, 3) := by decide +kernel
theorem dL_does_362 : decode cL_does 362 = .ok (.ldc_w 325, 3) := by decide +kernel
theorem dL_does_365 : decode cL_does 365 = .ok (.invokevirtual 316, 3) := by decide +kernel
theorem dL_does_368 : decode cL_does 368 = .ok (.iload 5, 2) := by decide +kernel
theorem dL_does_370 : decode cL_does 370 = .ok (.invokevirtual 320, 3) := by decide +kernel
theorem dL_does_373 : decode cL_does 373 = .ok (.invokevirtual 327, 3) := by decide +kernel
theorem dL_does_376 : decode cL_does 376 = .ok (.goto 52, 3) := by decide +kernel
theorem dL_does_379 : decode cL_does 379 = .ok (.iload 6, 2) := by decide +kernel
theorem dL_does_381 : decode cL_does 381 = .ok (.iconst 4, 1) := by decide +kernel
theorem dL_does_382 : decode cL_does 382 = .ok (.irem, 1) := by decide +kernel
theorem dL_does_383 : decode cL_does 383 = .ok (.iconst 1, 1) := by decide +kernel
theorem dL_does_384 : decode cL_does 384 = .ok (.if_icmp .ne 27, 3) := by decide +kernel
theorem dL_does_387 : decode cL_does 387 = .ok (.new 311, 3) := by decide +kernel
theorem dL_does_390 : decode cL_does 390 = .ok (.dup, 1) := by decide +kernel
theorem dL_does_391 : decode cL_does 391 = .ok (.invokespecial 313, 3) := by decide +kernel
theorem dL_does_394 : decode cL_does 394 = .ok (.ldc_w 331, 3) := by decide +kernel
theorem dL_does_397 : decode cL_does 397 = .ok (.invokevirtual 316, 3) := by decide +kernel
theorem dL_does_400 : decode cL_does 400 = .ok (.iload 4, 2) := by decide +kernel
theorem dL_does_402 : decode cL_does 402 = .ok (.invokevirtual 320, 3) := by decide +kernel
theorem dL_does_405 : decode cL_does 405 = .ok (.invokevirtual 327, 3) := by decide +kernel
theorem dL_does_408 : decode cL_does 408 = .ok (.goto 20, 3) := by decide +kernel
theorem dL_does_411 : decode cL_does 411 = .ok (.iload 6, 2) := by decide +kernel
theorem dL_does_413 : decode cL_does 413 = .ok (.iconst 4, 1) := by decide +kernel
theorem dL_does_414 : decode cL_does 414 = .ok (.irem, 1) := by decide +kernel
theorem dL_does_415 : decode cL_does 415 = .ok (.iconst 2, 1) := by decide +kernel
theorem dL_does_416 : decode cL_does 416 = .ok (.if_icmp .ne 9, 3) := by decide +kernel
theorem dL_does_419 : decode cL_does 419 = .ok (.ldc_w 333, 3) := by decide +kernel
theorem dL_does_422 : decode cL_does 422 = .ok (.goto 6, 3) := by decide +kernel
theorem dL_does_425 : decode cL_does 425 = .ok (.ldc_w 335, 3) := by decide +kernel
theorem dL_does_428 : decode cL_does 428 = .ok (.invokevirtual 316, 3) := by decide +kernel
theorem dL_does_431 : decode cL_does 431 = .ok (.invokevirtual 327, 3) := by decide +kernel
theorem dL_does_434 : decode cL_does 434 = .ok (.invokestatic 337, 3) := by decide +kernel
theorem dL_does_437 : decode cL_does 437 = .ok (.ireturn, 1) := by decide +kernel
theorem dL_sum_0 : decode cL_sum 0 = .ok (.ldc2_w 341, 3) := by decide +kernel
theorem dL_sum_3 : decode cL_sum 3 = .ok (.aload_n 0, 1) := by decide +kernel
theorem dL_sum_4 : decode cL_sum 4 = .ok (.invokevirtual 235, 3) := by decide +kernel
theorem dL_sum_7 : decode cL_sum 7 = .ok (.i2l, 1) := by decide +kernel
theorem dL_sum_8 : decode cL_sum 8 = .ok (.lmul, 1) := by decide +kernel
theorem dL_sum_9 : decode cL_sum 9 = .ok (.ldc2_w 343, 3) := by decide +kernel
theorem dL_sum_12 : decode cL_sum 12 = .ok (.aload_n 0, 1) := by decide +kernel
theorem dL_sum_13 : decode cL_sum 13 = .ok (.invokevirtual 232, 3) := by decide +kernel
theorem dL_sum_16 : decode cL_sum 16 = .ok (.i2l, 1) := by decide +kernel
theorem dL_sum_17 : decode cL_sum 17 = .ok (.lmul, 1) := by decide +kernel
theorem dL_sum_18 : decode cL_sum 18 = .ok (.ladd, 1) := by decide +kernel
theorem dL_sum_19 : decode cL_sum 19 = .ok (.ldc2_w 345, 3) := by decide +kernel
theorem dL_sum_22 : decode cL_sum 22 = .ok (.aload_n 0, 1) := by decide +kernel
theorem dL_sum_23 : decode cL_sum 23 = .ok (.invokevirtual 238, 3) := by decide +kernel
theorem dL_sum_26 : decode cL_sum 26 = .ok (.i2l, 1) := by decide +kernel
theorem dL_sum_27 : decode cL_sum 27 = .ok (.lmul, 1) := by decide +kernel
theorem dL_sum_28 : decode cL_sum 28 = .ok (.ladd, 1) := by decide +kernel
theorem dL_sum_29 : decode cL_sum 29 = .ok (.ldc2_w 347, 3) := by decide +kernel
theorem dL_sum_32 : decode cL_sum 32 = .ok (.aload_n 0, 1) := by decide +kernel
theorem dL_sum_33 : decode cL_sum 33 = .ok (.invokevirtual 213, 3) := by decide +kernel
theorem dL_sum_36 : decode cL_sum 36 = .ok (.i2l, 1) := by decide +kernel
theorem dL_sum_37 : decode cL_sum 37 = .ok (.lmul, 1) := by decide +kernel
theorem dL_sum_38 : decode cL_sum 38 = .ok (.ladd, 1) := by decide +kernel
theorem dL_sum_39 : decode cL_sum 39 = .ok (.aload_n 0, 1) := by decide +kernel
theorem dL_sum_40 : decode cL_sum 40 = .ok (.invokevirtual 216, 3) := by decide +kernel
theorem dL_sum_43 : decode cL_sum 43 = .ok (.i2l, 1) := by decide +kernel
theorem dL_sum_44 : decode cL_sum 44 = .ok (.ladd, 1) := by decide +kernel
theorem dL_sum_45 : decode cL_sum 45 = .ok (.lstore_n 1, 1) := by decide +kernel
theorem dL_sum_46 : decode cL_sum 46 = .ok (.ldc2_w 345, 3) := by decide +kernel
theorem dL_sum_49 : decode cL_sum 49 = .ok (.lload_n 1, 1) := by decide +kernel
theorem dL_sum_50 : decode cL_sum 50 = .ok (.lmul, 1) := by decide +kernel
theorem dL_sum_51 : decode cL_sum 51 = .ok (.aload_n 0, 1) := by decide +kernel
theorem dL_sum_52 : decode cL_sum 52 = .ok (.invokestatic 222, 3) := by decide +kernel
theorem dL_sum_55 : decode cL_sum 55 = .ok (.i2l, 1) := by decide +kernel
theorem dL_sum_56 : decode cL_sum 56 = .ok (.ladd, 1) := by decide +kernel
theorem dL_sum_57 : decode cL_sum 57 = .ok (.aload_n 0, 1) := by decide +kernel
theorem dL_sum_58 : decode cL_sum 58 = .ok (.invokevirtual 219, 3) := by decide +kernel
theorem dL_sum_61 : decode cL_sum 61 = .ok (.ifCond .eq 9, 3) := by decide +kernel
theorem dL_sum_64 : decode cL_sum 64 = .ok (.ldc2_w 341, 3) := by decide +kernel
theorem dL_sum_67 : decode cL_sum 67 = .ok (.goto 4, 3) := by decide +kernel
theorem dL_sum_70 : decode cL_sum 70 = .ok (.lconst 0, 1) := by decide +kernel
theorem dL_sum_71 : decode cL_sum 71 = .ok (.ladd, 1) := by decide +kernel
theorem dL_sum_72 : decode cL_sum 72 = .ok (.lstore_n 1, 1) := by decide +kernel
theorem dL_sum_73 : decode cL_sum 73 = .ok (.iconst 0, 1) := by decide +kernel
theorem dL_sum_74 : decode cL_sum 74 = .ok (.istore_n 3, 1) := by decide +kernel
theorem dL_sum_75 : decode cL_sum 75 = .ok (.iload_n 3, 1) := by decide +kernel
theorem dL_sum_76 : decode cL_sum 76 = .ok (.aload_n 0, 1) := by decide +kernel
theorem dL_sum_77 : decode cL_sum 77 = .ok (.invokevirtual 207, 3) := by decide +kernel
theorem dL_sum_80 : decode cL_sum 80 = .ok (.if_icmp .ge 44, 3) := by decide +kernel
theorem dL_sum_83 : decode cL_sum 83 = .ok (.ldc2_w 345, 3) := by decide +kernel
theorem dL_sum_86 : decode cL_sum 86 = .ok (.lload_n 1, 1) := by decide +kernel
theorem dL_sum_87 : decode cL_sum 87 = .ok (.lmul, 1) := by decide +kernel
theorem dL_sum_88 : decode cL_sum 88 = .ok (.ldc2_w 343, 3) := by decide +kernel
theorem dL_sum_91 : decode cL_sum 91 = .ok (.aload_n 0, 1) := by decide +kernel
theorem dL_sum_92 : decode cL_sum 92 = .ok (.iload_n 3, 1) := by decide +kernel
theorem dL_sum_93 : decode cL_sum 93 = .ok (.invokestatic 349, 3) := by decide +kernel
theorem dL_sum_96 : decode cL_sum 96 = .ok (.i2l, 1) := by decide +kernel
theorem dL_sum_97 : decode cL_sum 97 = .ok (.lmul, 1) := by decide +kernel
theorem dL_sum_98 : decode cL_sum 98 = .ok (.ladd, 1) := by decide +kernel
theorem dL_sum_99 : decode cL_sum 99 = .ok (.ldc2_w 347, 3) := by decide +kernel
theorem dL_sum_102 : decode cL_sum 102 = .ok (.aload_n 0, 1) := by decide +kernel
theorem dL_sum_103 : decode cL_sum 103 = .ok (.iload_n 3, 1) := by decide +kernel
theorem dL_sum_104 : decode cL_sum 104 = .ok (.invokestatic 284, 3) := by decide +kernel
theorem dL_sum_107 : decode cL_sum 107 = .ok (.i2l, 1) := by decide +kernel
theorem dL_sum_108 : decode cL_sum 108 = .ok (.lmul, 1) := by decide +kernel
theorem dL_sum_109 : decode cL_sum 109 = .ok (.ladd, 1) := by decide +kernel
theorem dL_sum_110 : decode cL_sum 110 = .ok (.aload_n 0, 1) := by decide +kernel
theorem dL_sum_111 : decode cL_sum 111 = .ok (.iload_n 3, 1) := by decide +kernel
theorem dL_sum_112 : decode cL_sum 112 = .ok (.invokestatic 255, 3) := by decide +kernel
theorem dL_sum_115 : decode cL_sum 115 = .ok (.i2l, 1) := by decide +kernel
theorem dL_sum_116 : decode cL_sum 116 = .ok (.ladd, 1) := by decide +kernel
theorem dL_sum_117 : decode cL_sum 117 = .ok (.lstore_n 1, 1) := by decide +kernel
theorem dL_sum_118 : decode cL_sum 118 = .ok (.iinc 3 1, 3) := by decide +kernel
theorem dL_sum_121 : decode cL_sum 121 = .ok (.goto (-46), 3) := by decide +kernel
theorem dL_sum_124 : decode cL_sum 124 = .ok (.iconst 0, 1) := by decide +kernel
theorem dL_sum_125 : decode cL_sum 125 = .ok (.istore_n 3, 1) := by decide +kernel
theorem dL_sum_126 : decode cL_sum 126 = .ok (.iload_n 3, 1) := by decide +kernel
theorem dL_sum_127 : decode cL_sum 127 = .ok (.aload_n 0, 1) := by decide +kernel
theorem dL_sum_128 : decode cL_sum 128 = .ok (.invokevirtual 210, 3) := by decide +kernel
theorem dL_sum_131 : decode cL_sum 131 = .ok (.if_icmp .ge 22, 3) := by decide +kernel
theorem dL_sum_134 : decode cL_sum 134 = .ok (.ldc2_w 345, 3) := by decide +kernel
theorem dL_sum_137 : decode cL_sum 137 = .ok (.lload_n 1, 1) := by decide +kernel
theorem dL_sum_138 : decode cL_sum 138 = .ok (.lmul, 1) := by decide +kernel
theorem dL_sum_139 : decode cL_sum 139 = .ok (.aload_n 0, 1) := by decide +kernel
theorem dL_sum_140 : decode cL_sum 140 = .ok (.iload_n 3, 1) := by decide +kernel
theorem dL_sum_141 : decode cL_sum 141 = .ok (.invokestatic 253, 3) := by decide +kernel
theorem dL_sum_144 : decode cL_sum 144 = .ok (.i2l, 1) := by decide +kernel
theorem dL_sum_145 : decode cL_sum 145 = .ok (.ladd, 1) := by decide +kernel
theorem dL_sum_146 : decode cL_sum 146 = .ok (.lstore_n 1, 1) := by decide +kernel
theorem dL_sum_147 : decode cL_sum 147 = .ok (.iinc 3 1, 3) := by decide +kernel
theorem dL_sum_150 : decode cL_sum 150 = .ok (.goto (-24), 3) := by decide +kernel
theorem dL_sum_153 : decode cL_sum 153 = .ok (.iconst 0, 1) := by decide +kernel
theorem dL_sum_154 : decode cL_sum 154 = .ok (.istore_n 3, 1) := by decide +kernel
theorem dL_sum_155 : decode cL_sum 155 = .ok (.iload_n 3, 1) := by decide +kernel
theorem dL_sum_156 : decode cL_sum 156 = .ok (.bipush 8, 2) := by decide +kernel
theorem dL_sum_158 : decode cL_sum 158 = .ok (.if_icmp .ge 33, 3) := by decide +kernel
theorem dL_sum_161 : decode cL_sum 161 = .ok (.ldc2_w 345, 3) := by decide +kernel
theorem dL_sum_164 : decode cL_sum 164 = .ok (.lload_n 1, 1) := by decide +kernel
theorem dL_sum_165 : decode cL_sum 165 = .ok (.lmul, 1) := by decide +kernel
theorem dL_sum_166 : decode cL_sum 166 = .ok (.ldc2_w 345, 3) := by decide +kernel
theorem dL_sum_169 : decode cL_sum 169 = .ok (.aload_n 0, 1) := by decide +kernel
theorem dL_sum_170 : decode cL_sum 170 = .ok (.iload_n 3, 1) := by decide +kernel
theorem dL_sum_171 : decode cL_sum 171 = .ok (.invokestatic 351, 3) := by decide +kernel
theorem dL_sum_174 : decode cL_sum 174 = .ok (.i2l, 1) := by decide +kernel
theorem dL_sum_175 : decode cL_sum 175 = .ok (.lmul, 1) := by decide +kernel
theorem dL_sum_176 : decode cL_sum 176 = .ok (.ladd, 1) := by decide +kernel
theorem dL_sum_177 : decode cL_sum 177 = .ok (.aload_n 0, 1) := by decide +kernel
theorem dL_sum_178 : decode cL_sum 178 = .ok (.iload_n 3, 1) := by decide +kernel
theorem dL_sum_179 : decode cL_sum 179 = .ok (.invokestatic 353, 3) := by decide +kernel
theorem dL_sum_182 : decode cL_sum 182 = .ok (.i2l, 1) := by decide +kernel
theorem dL_sum_183 : decode cL_sum 183 = .ok (.ladd, 1) := by decide +kernel
theorem dL_sum_184 : decode cL_sum 184 = .ok (.lstore_n 1, 1) := by decide +kernel
theorem dL_sum_185 : decode cL_sum 185 = .ok (.iinc 3 1, 3) := by decide +kernel
theorem dL_sum_188 : decode cL_sum 188 = .ok (.goto (-33), 3) := by decide +kernel
theorem dL_sum_191 : decode cL_sum 191 = .ok (.iconst 0, 1) := by decide +kernel
theorem dL_sum_192 : decode cL_sum 192 = .ok (.istore_n 3, 1) := by decide +kernel
theorem dL_sum_193 : decode cL_sum 193 = .ok (.iload_n 3, 1) := by decide +kernel
theorem dL_sum_194 : decode cL_sum 194 = .ok (.aload_n 0, 1) := by decide +kernel
theorem dL_sum_195 : decode cL_sum 195 = .ok (.invokevirtual 279, 3) := by decide +kernel
theorem dL_sum_198 : decode cL_sum 198 = .ok (.if_icmp .ge 33, 3) := by decide +kernel
theorem dL_sum_201 : decode cL_sum 201 = .ok (.ldc2_w 345, 3) := by decide +kernel
theorem dL_sum_204 : decode cL_sum 204 = .ok (.lload_n 1, 1) := by decide +kernel
theorem dL_sum_205 : decode cL_sum 205 = .ok (.lmul, 1) := by decide +kernel
theorem dL_sum_206 : decode cL_sum 206 = .ok (.ldc2_w 345, 3) := by decide +kernel
theorem dL_sum_209 : decode cL_sum 209 = .ok (.aload_n 0, 1) := by decide +kernel
theorem dL_sum_210 : decode cL_sum 210 = .ok (.iload_n 3, 1) := by decide +kernel
theorem dL_sum_211 : decode cL_sum 211 = .ok (.invokestatic 282, 3) := by decide +kernel
theorem dL_sum_214 : decode cL_sum 214 = .ok (.i2l, 1) := by decide +kernel
theorem dL_sum_215 : decode cL_sum 215 = .ok (.lmul, 1) := by decide +kernel
theorem dL_sum_216 : decode cL_sum 216 = .ok (.ladd, 1) := by decide +kernel
theorem dL_sum_217 : decode cL_sum 217 = .ok (.aload_n 0, 1) := by decide +kernel
theorem dL_sum_218 : decode cL_sum 218 = .ok (.iload_n 3, 1) := by decide +kernel
theorem dL_sum_219 : decode cL_sum 219 = .ok (.invokestatic 355, 3) := by decide +kernel
theorem dL_sum_222 : decode cL_sum 222 = .ok (.i2l, 1) := by decide +kernel
theorem dL_sum_223 : decode cL_sum 223 = .ok (.ladd, 1) := by decide +kernel
theorem dL_sum_224 : decode cL_sum 224 = .ok (.lstore_n 1, 1) := by decide +kernel
theorem dL_sum_225 : decode cL_sum 225 = .ok (.iinc 3 1, 3) := by decide +kernel
theorem dL_sum_228 : decode cL_sum 228 = .ok (.goto (-35), 3) := by decide +kernel
theorem dL_sum_231 : decode cL_sum 231 = .ok (.iconst 0, 1) := by decide +kernel
theorem dL_sum_232 : decode cL_sum 232 = .ok (.istore_n 3, 1) := by decide +kernel
theorem dL_sum_233 : decode cL_sum 233 = .ok (.iload_n 3, 1) := by decide +kernel
theorem dL_sum_234 : decode cL_sum 234 = .ok (.aload_n 0, 1) := by decide +kernel
theorem dL_sum_235 : decode cL_sum 235 = .ok (.invokevirtual 257, 3) := by decide +kernel
theorem dL_sum_238 : decode cL_sum 238 = .ok (.if_icmp .ge 44, 3) := by decide +kernel
theorem dL_sum_241 : decode cL_sum 241 = .ok (.ldc2_w 345, 3) := by decide +kernel
theorem dL_sum_244 : decode cL_sum 244 = .ok (.lload_n 1, 1) := by decide +kernel
theorem dL_sum_245 : decode cL_sum 245 = .ok (.lmul, 1) := by decide +kernel
theorem dL_sum_246 : decode cL_sum 246 = .ok (.ldc2_w 341, 3) := by decide +kernel
theorem dL_sum_249 : decode cL_sum 249 = .ok (.aload_n 0, 1) := by decide +kernel
theorem dL_sum_250 : decode cL_sum 250 = .ok (.iload_n 3, 1) := by decide +kernel
theorem dL_sum_251 : decode cL_sum 251 = .ok (.invokestatic 264, 3) := by decide +kernel
theorem dL_sum_254 : decode cL_sum 254 = .ok (.i2l, 1) := by decide +kernel
theorem dL_sum_255 : decode cL_sum 255 = .ok (.lmul, 1) := by decide +kernel
theorem dL_sum_256 : decode cL_sum 256 = .ok (.ladd, 1) := by decide +kernel
theorem dL_sum_257 : decode cL_sum 257 = .ok (.ldc2_w 345, 3) := by decide +kernel
theorem dL_sum_260 : decode cL_sum 260 = .ok (.aload_n 0, 1) := by decide +kernel
theorem dL_sum_261 : decode cL_sum 261 = .ok (.iload_n 3, 1) := by decide +kernel
theorem dL_sum_262 : decode cL_sum 262 = .ok (.invokestatic 260, 3) := by decide +kernel
theorem dL_sum_265 : decode cL_sum 265 = .ok (.i2l, 1) := by decide +kernel
theorem dL_sum_266 : decode cL_sum 266 = .ok (.lmul, 1) := by decide +kernel
theorem dL_sum_267 : decode cL_sum 267 = .ok (.ladd, 1) := by decide +kernel
theorem dL_sum_268 : decode cL_sum 268 = .ok (.aload_n 0, 1) := by decide +kernel
theorem dL_sum_269 : decode cL_sum 269 = .ok (.iload_n 3, 1) := by decide +kernel
theorem dL_sum_270 : decode cL_sum 270 = .ok (.invokestatic 262, 3) := by decide +kernel
theorem dL_sum_273 : decode cL_sum 273 = .ok (.i2l, 1) := by decide +kernel
theorem dL_sum_274 : decode cL_sum 274 = .ok (.ladd, 1) := by decide +kernel
theorem dL_sum_275 : decode cL_sum 275 = .ok (.lstore_n 1, 1) := by decide +kernel
theorem dL_sum_276 : decode cL_sum 276 = .ok (.iinc 3 1, 3) := by decide +kernel
theorem dL_sum_279 : decode cL_sum 279 = .ok (.goto (-46), 3) := by decide +kernel
theorem dL_sum_282 : decode cL_sum 282 = .ok (.ldc2_w 345, 3) := by decide +kernel
theorem dL_sum_285 : decode cL_sum 285 = .ok (.lload_n 1, 1) := by decide +kernel
theorem dL_sum_286 : decode cL_sum 286 = .ok (.lmul, 1) := by decide +kernel
theorem dL_sum_287 : decode cL_sum 287 = .ok (.aload_n 0, 1) := by decide +kernel
theorem dL_sum_288 : decode cL_sum 288 = .ok (.invokevirtual 207, 3) := by decide +kernel
theorem dL_sum_291 : decode cL_sum 291 = .ok (.i2l, 1) := by decide +kernel
theorem dL_sum_292 : decode cL_sum 292 = .ok (.ladd, 1) := by decide +kernel
theorem dL_sum_293 : decode cL_sum 293 = .ok (.lreturn, 1) := by decide +kernel
theorem dL_areKeys_0 : decode cL_areKeys 0 = .ok (.aload_n 0, 1) := by decide +kernel
theorem dL_areKeys_1 : decode cL_areKeys 1 = .ok (.invokevirtual 210, 3) := by decide +kernel
theorem dL_areKeys_4 : decode cL_areKeys 4 = .ok (.istore_n 3, 1) := by decide +kernel
theorem dL_areKeys_5 : decode cL_areKeys 5 = .ok (.aload_n 0, 1) := by decide +kernel
theorem dL_areKeys_6 : decode cL_areKeys 6 = .ok (.invokestatic 222, 3) := by decide +kernel
theorem dL_areKeys_9 : decode cL_areKeys 9 = .ok (.istore 4, 2) := by decide +kernel
theorem dL_areKeys_11 : decode cL_areKeys 11 = .ok (.iconst 0, 1) := by decide +kernel
theorem dL_areKeys_12 : decode cL_areKeys 12 = .ok (.istore 5, 2) := by decide +kernel
theorem dL_areKeys_14 : decode cL_areKeys 14 = .ok (.iconst 0, 1) := by decide +kernel
theorem dL_areKeys_15 : decode cL_areKeys 15 = .ok (.istore 6, 2) := by decide +kernel
theorem dL_areKeys_17 : decode cL_areKeys 17 = .ok (.iconst 0, 1) := by decide +kernel
theorem dL_areKeys_18 : decode cL_areKeys 18 = .ok (.istore 7, 2) := by decide +kernel
theorem dL_areKeys_20 : decode cL_areKeys 20 = .ok (.iload 7, 2) := by decide +kernel
theorem dL_areKeys_22 : decode cL_areKeys 22 = .ok (.iload_n 3, 1) := by decide +kernel
theorem dL_areKeys_23 : decode cL_areKeys 23 = .ok (.if_icmp .ge 49, 3) := by decide +kernel
theorem dL_areKeys_26 : decode cL_areKeys 26 = .ok (.aload_n 0, 1) := by decide +kernel
theorem dL_areKeys_27 : decode cL_areKeys 27 = .ok (.iload 7, 2) := by decide +kernel
theorem dL_areKeys_29 : decode cL_areKeys 29 = .ok (.invokestatic 253, 3) := by decide +kernel
theorem dL_areKeys_32 : decode cL_areKeys 32 = .ok (.istore 8, 2) := by decide +kernel
theorem dL_areKeys_34 : decode cL_areKeys 34 = .ok (.iload 5, 2) := by decide +kernel
theorem dL_areKeys_36 : decode cL_areKeys 36 = .ok (.iconst 1, 1) := by decide +kernel
theorem dL_areKeys_37 : decode cL_areKeys 37 = .ok (.iload 8, 2) := by decide +kernel
theorem dL_areKeys_39 : decode cL_areKeys 39 = .ok (.ishl, 1) := by decide +kernel
theorem dL_areKeys_40 : decode cL_areKeys 40 = .ok (.ior, 1) := by decide +kernel
theorem dL_areKeys_41 : decode cL_areKeys 41 = .ok (.istore 5, 2) := by decide +kernel
theorem dL_areKeys_43 : decode cL_areKeys 43 = .ok (.iload 6, 2) := by decide +kernel
theorem dL_areKeys_45 : decode cL_areKeys 45 = .ok (.aload_n 0, 1) := by decide +kernel
theorem dL_areKeys_46 : decode cL_areKeys 46 = .ok (.iload 8, 2) := by decide +kernel
theorem dL_areKeys_48 : decode cL_areKeys 48 = .ok (.invokestatic 284, 3) := by decide +kernel
theorem dL_areKeys_51 : decode cL_areKeys 51 = .ok (.iadd, 1) := by decide +kernel
theorem dL_areKeys_52 : decode cL_areKeys 52 = .ok (.istore 6, 2) := by decide +kernel
theorem dL_areKeys_54 : decode cL_areKeys 54 = .ok (.aload_n 0, 1) := by decide +kernel
theorem dL_areKeys_55 : decode cL_areKeys 55 = .ok (.iload 8, 2) := by decide +kernel
theorem dL_areKeys_57 : decode cL_areKeys 57 = .ok (.invokestatic 255, 3) := by decide +kernel
theorem dL_areKeys_60 : decode cL_areKeys 60 = .ok (.iconst 1, 1) := by decide +kernel
theorem dL_areKeys_61 : decode cL_areKeys 61 = .ok (.if_icmp .eq 5, 3) := by decide +kernel
theorem dL_areKeys_64 : decode cL_areKeys 64 = .ok (.iconst 0, 1) := by decide +kernel
theorem dL_areKeys_65 : decode cL_areKeys 65 = .ok (.ireturn, 1) := by decide +kernel
theorem dL_areKeys_66 : decode cL_areKeys 66 = .ok (.iinc 7 1, 3) := by decide +kernel
theorem dL_areKeys_69 : decode cL_areKeys 69 = .ok (.goto (-49), 3) := by decide +kernel
theorem dL_areKeys_72 : decode cL_areKeys 72 = .ok (.iload 5, 2) := by decide +kernel
theorem dL_areKeys_74 : decode cL_areKeys 74 = .ok (.invokestatic 357, 3) := by decide +kernel
theorem dL_areKeys_77 : decode cL_areKeys 77 = .ok (.iload_n 3, 1) := by decide +kernel
theorem dL_areKeys_78 : decode cL_areKeys 78 = .ok (.if_icmp .ne 13, 3) := by decide +kernel
theorem dL_areKeys_81 : decode cL_areKeys 81 = .ok (.aload_n 0, 1) := by decide +kernel
theorem dL_areKeys_82 : decode cL_areKeys 82 = .ok (.iload_n 3, 1) := by decide +kernel
theorem dL_areKeys_83 : decode cL_areKeys 83 = .ok (.invokestatic 253, 3) := by decide +kernel
theorem dL_areKeys_86 : decode cL_areKeys 86 = .ok (.bipush (-75), 2) := by decide +kernel
theorem dL_areKeys_88 : decode cL_areKeys 88 = .ok (.if_icmp .eq 5, 3) := by decide +kernel
theorem dL_areKeys_91 : decode cL_areKeys 91 = .ok (.iconst 0, 1) := by decide +kernel
theorem dL_areKeys_92 : decode cL_areKeys 92 = .ok (.ireturn, 1) := by decide +kernel
theorem dL_areKeys_93 : decode cL_areKeys 93 = .ok (.iload 4, 2) := by decide +kernel
theorem dL_areKeys_95 : decode cL_areKeys 95 = .ok (.ifCond .lt 9, 3) := by decide +kernel
theorem dL_areKeys_98 : decode cL_areKeys 98 = .ok (.iload_n 3, 1) := by decide +kernel
theorem dL_areKeys_99 : decode cL_areKeys 99 = .ok (.iload 4, 2) := by decide +kernel
theorem dL_areKeys_101 : decode cL_areKeys 101 = .ok (.if_icmp .ge 64, 3) := by decide +kernel
theorem dL_areKeys_104 : decode cL_areKeys 104 = .ok (.aload_n 0, 1) := by decide +kernel
theorem dL_areKeys_105 : decode cL_areKeys 105 = .ok (.invokestatic 226, 3) := by decide +kernel
theorem dL_areKeys_108 : decode cL_areKeys 108 = .ok (.bipush (-75), 2) := by decide +kernel
theorem dL_areKeys_110 : decode cL_areKeys 110 = .ok (.if_icmp .ne 53, 3) := by decide +kernel
theorem dL_areKeys_113 : decode cL_areKeys 113 = .ok (.aload_n 0, 1) := by decide +kernel
theorem dL_areKeys_114 : decode cL_areKeys 114 = .ok (.invokestatic 362, 3) := by decide +kernel
theorem dL_areKeys_117 : decode cL_areKeys 117 = .ok (.bipush (-75), 2) := by decide +kernel
theorem dL_areKeys_119 : decode cL_areKeys 119 = .ok (.if_icmp .ne 44, 3) := by decide +kernel
theorem dL_areKeys_122 : decode cL_areKeys 122 = .ok (.aload_n 0, 1) := by decide +kernel
theorem dL_areKeys_123 : decode cL_areKeys 123 = .ok (.iload_n 1, 1) := by decide +kernel
theorem dL_areKeys_124 : decode cL_areKeys 124 = .ok (.invokestatic 364, 3) := by decide +kernel
theorem dL_areKeys_127 : decode cL_areKeys 127 = .ok (.bipush (-75), 2) := by decide +kernel
theorem dL_areKeys_129 : decode cL_areKeys 129 = .ok (.if_icmp .ne 34, 3) := by decide +kernel
theorem dL_areKeys_132 : decode cL_areKeys 132 = .ok (.aload_n 0, 1) := by decide +kernel
theorem dL_areKeys_133 : decode cL_areKeys 133 = .ok (.invokestatic 224, 3) := by decide +kernel
theorem dL_areKeys_136 : decode cL_areKeys 136 = .ok (.bipush (-75), 2) := by decide +kernel
theorem dL_areKeys_138 : decode cL_areKeys 138 = .ok (.if_icmp .ne 25, 3) := by decide +kernel
theorem dL_areKeys_141 : decode cL_areKeys 141 = .ok (.aload_n 0, 1) := by decide +kernel
theorem dL_areKeys_142 : decode cL_areKeys 142 = .ok (.invokestatic 366, 3) := by decide +kernel
theorem dL_areKeys_145 : decode cL_areKeys 145 = .ok (.bipush (-75), 2) := by decide +kernel
theorem dL_areKeys_147 : decode cL_areKeys 147 = .ok (.if_icmp .ne 16, 3) := by decide +kernel
theorem dL_areKeys_150 : decode cL_areKeys 150 = .ok (.aload_n 0, 1) := by decide +kernel
theorem dL_areKeys_151 : decode cL_areKeys 151 = .ok (.invokestatic 368, 3) := by decide +kernel
theorem dL_areKeys_154 : decode cL_areKeys 154 = .ok (.bipush (-75), 2) := by decide +kernel
theorem dL_areKeys_156 : decode cL_areKeys 156 = .ok (.if_icmp .ne 7, 3) := by decide +kernel
theorem dL_areKeys_159 : decode cL_areKeys 159 = .ok (.iconst 1, 1) := by decide +kernel
theorem dL_areKeys_160 : decode cL_areKeys 160 = .ok (.goto 4, 3) := by decide +kernel
theorem dL_areKeys_163 : decode cL_areKeys 163 = .ok (.iconst 0, 1) := by decide +kernel
theorem dL_areKeys_164 : decode cL_areKeys 164 = .ok (.ireturn, 1) := by decide +kernel
theorem dL_areKeys_165 : decode cL_areKeys 165 = .ok (.aload_n 0, 1) := by decide +kernel
theorem dL_areKeys_166 : decode cL_areKeys 166 = .ok (.invokestatic 226, 3) := by decide +kernel
theorem dL_areKeys_169 : decode cL_areKeys 169 = .ok (.istore 7, 2) := by decide +kernel
theorem dL_areKeys_171 : decode cL_areKeys 171 = .ok (.iconst 0, 1) := by decide +kernel
theorem dL_areKeys_172 : decode cL_areKeys 172 = .ok (.istore 8, 2) := by decide +kernel
theorem dL_areKeys_174 : decode cL_areKeys 174 = .ok (.iconst 0, 1) := by decide +kernel
theorem dL_areKeys_175 : decode cL_areKeys 175 = .ok (.istore 9, 2) := by decide +kernel
theorem dL_areKeys_177 : decode cL_areKeys 177 = .ok (.iconst 0, 1) := by decide +kernel
theorem dL_areKeys_178 : decode cL_areKeys 178 = .ok (.istore 10, 2) := by decide +kernel
theorem dL_areKeys_180 : decode cL_areKeys 180 = .ok (.iload 10, 2) := by decide +kernel
theorem dL_areKeys_182 : decode cL_areKeys 182 = .ok (.iload_n 3, 1) := by decide +kernel
theorem dL_areKeys_183 : decode cL_areKeys 183 = .ok (.if_icmp .ge 92, 3) := by decide +kernel
theorem dL_areKeys_186 : decode cL_areKeys 186 = .ok (.aload_n 0, 1) := by decide +kernel
theorem dL_areKeys_187 : decode cL_areKeys 187 = .ok (.iload 10, 2) := by decide +kernel
theorem dL_areKeys_189 : decode cL_areKeys 189 = .ok (.invokestatic 253, 3) := by decide +kernel
theorem dL_areKeys_192 : decode cL_areKeys 192 = .ok (.istore 11, 2) := by decide +kernel
theorem dL_areKeys_194 : decode cL_areKeys 194 = .ok (.aload_n 0, 1) := by decide +kernel
theorem dL_areKeys_195 : decode cL_areKeys 195 = .ok (.iload 11, 2) := by decide +kernel
theorem dL_areKeys_197 : decode cL_areKeys 197 = .ok (.iconst 1, 1) := by decide +kernel
theorem dL_areKeys_198 : decode cL_areKeys 198 = .ok (.iadd, 1) := by decide +kernel
theorem dL_areKeys_199 : decode cL_areKeys 199 = .ok (.invokestatic 364, 3) := by decide +kernel
theorem dL_areKeys_202 : decode cL_areKeys 202 = .ok (.aload_n 0, 1) := by decide +kernel
theorem dL_areKeys_203 : decode cL_areKeys 203 = .ok (.iload 11, 2) := by decide +kernel
theorem dL_areKeys_205 : decode cL_areKeys 205 = .ok (.invokestatic 349, 3) := by decide +kernel
theorem dL_areKeys_208 : decode cL_areKeys 208 = .ok (.if_icmp .ne 7, 3) := by decide +kernel
theorem dL_areKeys_211 : decode cL_areKeys 211 = .ok (.iconst 1, 1) := by decide +kernel
theorem dL_areKeys_212 : decode cL_areKeys 212 = .ok (.goto 4, 3) := by decide +kernel
theorem dL_areKeys_215 : decode cL_areKeys 215 = .ok (.iconst 0, 1) := by decide +kernel
theorem dL_areKeys_216 : decode cL_areKeys 216 = .ok (.istore 12, 2) := by decide +kernel
theorem dL_areKeys_218 : decode cL_areKeys 218 = .ok (.iload 8, 2) := by decide +kernel
theorem dL_areKeys_220 : decode cL_areKeys 220 = .ok (.iload 12, 2) := by decide +kernel
theorem dL_areKeys_222 : decode cL_areKeys 222 = .ok (.ifCond .eq 7, 3) := by decide +kernel
theorem dL_areKeys_225 : decode cL_areKeys 225 = .ok (.iconst 1, 1) := by decide +kernel
theorem dL_areKeys_226 : decode cL_areKeys 226 = .ok (.goto 4, 3) := by decide +kernel
theorem dL_areKeys_229 : decode cL_areKeys 229 = .ok (.iconst 0, 1) := by decide +kernel
theorem dL_areKeys_230 : decode cL_areKeys 230 = .ok (.iadd, 1) := by decide +kernel
theorem dL_areKeys_231 : decode cL_areKeys 231 = .ok (.istore 8, 2) := by decide +kernel
theorem dL_areKeys_233 : decode cL_areKeys 233 = .ok (.iload 9, 2) := by decide +kernel
theorem dL_areKeys_235 : decode cL_areKeys 235 = .ok (.iload 10, 2) := by decide +kernel
theorem dL_areKeys_237 : decode cL_areKeys 237 = .ok (.iload 4, 2) := by decide +kernel
theorem dL_areKeys_239 : decode cL_areKeys 239 = .ok (.if_icmp .ge 12, 3) := by decide +kernel
theorem dL_areKeys_242 : decode cL_areKeys 242 = .ok (.aload_n 0, 1) := by decide +kernel
theorem dL_areKeys_243 : decode cL_areKeys 243 = .ok (.iload 11, 2) := by decide +kernel
theorem dL_areKeys_245 : decode cL_areKeys 245 = .ok (.invokestatic 284, 3) := by decide +kernel
theorem dL_areKeys_248 : decode cL_areKeys 248 = .ok (.goto 4, 3) := by decide +kernel
theorem dL_areKeys_251 : decode cL_areKeys 251 = .ok (.iconst 0, 1) := by decide +kernel
theorem dL_areKeys_252 : decode cL_areKeys 252 = .ok (.iadd, 1) := by decide +kernel
theorem dL_areKeys_253 : decode cL_areKeys 253 = .ok (.istore 9, 2) := by decide +kernel
theorem dL_areKeys_255 : decode cL_areKeys 255 = .ok (.iload 10, 2) := by decide +kernel
theorem dL_areKeys_257 : decode cL_areKeys 257 = .ok (.iload 4, 2) := by decide +kernel
theorem dL_areKeys_259 : decode cL_areKeys 259 = .ok (.if_icmp .ge 10, 3) := by decide +kernel
theorem dL_areKeys_262 : decode cL_areKeys 262 = .ok (.iload 12, 2) := by decide +kernel
theorem dL_areKeys_264 : decode cL_areKeys 264 = .ok (.ifCond .ne 5, 3) := by decide +kernel
theorem dL_areKeys_267 : decode cL_areKeys 267 = .ok (.iconst 0, 1) := by decide +kernel
theorem dL_areKeys_268 : decode cL_areKeys 268 = .ok (.ireturn, 1) := by decide +kernel
theorem dL_areKeys_269 : decode cL_areKeys 269 = .ok (.iinc 10 1, 3) := by decide +kernel
theorem dL_areKeys_272 : decode cL_areKeys 272 = .ok (.goto (-92), 3) := by decide +kernel
theorem dL_areKeys_275 : decode cL_areKeys 275 = .ok (.aload_n 0, 1) := by decide +kernel
theorem dL_areKeys_276 : decode cL_areKeys 276 = .ok (.invokestatic 366, 3) := by decide +kernel
theorem dL_areKeys_279 : decode cL_areKeys 279 = .ok (.istore 10, 2) := by decide +kernel
theorem dL_areKeys_281 : decode cL_areKeys 281 = .ok (.iload 7, 2) := by decide +kernel
theorem dL_areKeys_283 : decode cL_areKeys 283 = .ok (.ifCond .lt 98, 3) := by decide +kernel
theorem dL_areKeys_286 : decode cL_areKeys 286 = .ok (.iload 7, 2) := by decide +kernel
theorem dL_areKeys_288 : decode cL_areKeys 288 = .ok (.bipush 97, 2) := by decide +kernel
theorem dL_areKeys_290 : decode cL_areKeys 290 = .ok (.if_icmp .ge 91, 3) := by decide +kernel
theorem dL_areKeys_293 : decode cL_areKeys 293 = .ok (.aload_n 0, 1) := by decide +kernel
theorem dL_areKeys_294 : decode cL_areKeys 294 = .ok (.invokestatic 362, 3) := by decide +kernel
theorem dL_areKeys_297 : decode cL_areKeys 297 = .ok (.iload 7, 2) := by decide +kernel
theorem dL_areKeys_299 : decode cL_areKeys 299 = .ok (.if_icmp .ne 82, 3) := by decide +kernel
theorem dL_areKeys_302 : decode cL_areKeys 302 = .ok (.aload_n 0, 1) := by decide +kernel
theorem dL_areKeys_303 : decode cL_areKeys 303 = .ok (.iconst 0, 1) := by decide +kernel
theorem dL_areKeys_304 : decode cL_areKeys 304 = .ok (.invokestatic 364, 3) := by decide +kernel
theorem dL_areKeys_307 : decode cL_areKeys 307 = .ok (.iload 7, 2) := by decide +kernel
theorem dL_areKeys_309 : decode cL_areKeys 309 = .ok (.if_icmp .ne 72, 3) := by decide +kernel
theorem dL_areKeys_312 : decode cL_areKeys 312 = .ok (.iload 9, 2) := by decide +kernel
theorem dL_areKeys_314 : decode cL_areKeys 314 = .ok (.iload 4, 2) := by decide +kernel
theorem dL_areKeys_316 : decode cL_areKeys 316 = .ok (.if_icmp .lt 9, 3) := by decide +kernel
theorem dL_areKeys_319 : decode cL_areKeys 319 = .ok (.iload 7, 2) := by decide +kernel
theorem dL_areKeys_321 : decode cL_areKeys 321 = .ok (.iload_n 2, 1) := by decide +kernel
theorem dL_areKeys_322 : decode cL_areKeys 322 = .ok (.if_icmp .ne 59, 3) := by decide +kernel
theorem dL_areKeys_325 : decode cL_areKeys 325 = .ok (.aload_n 0, 1) := by decide +kernel
theorem dL_areKeys_326 : decode cL_areKeys 326 = .ok (.invokestatic 224, 3) := by decide +kernel
theorem dL_areKeys_329 : decode cL_areKeys 329 = .ok (.iconst 1, 1) := by decide +kernel
theorem dL_areKeys_330 : decode cL_areKeys 330 = .ok (.if_icmp .ne 7, 3) := by decide +kernel
theorem dL_areKeys_333 : decode cL_areKeys 333 = .ok (.iconst 1, 1) := by decide +kernel
theorem dL_areKeys_334 : decode cL_areKeys 334 = .ok (.goto 4, 3) := by decide +kernel
theorem dL_areKeys_337 : decode cL_areKeys 337 = .ok (.iconst 0, 1) := by decide +kernel
theorem dL_areKeys_338 : decode cL_areKeys 338 = .ok (.iload 8, 2) := by decide +kernel
theorem dL_areKeys_340 : decode cL_areKeys 340 = .ok (.iload_n 3, 1) := by decide +kernel
theorem dL_areKeys_341 : decode cL_areKeys 341 = .ok (.if_icmp .ne 7, 3) := by decide +kernel
theorem dL_areKeys_344 : decode cL_areKeys 344 = .ok (.iconst 1, 1) := by decide +kernel
theorem dL_areKeys_345 : decode cL_areKeys 345 = .ok (.goto 4, 3) := by decide +kernel
theorem dL_areKeys_348 : decode cL_areKeys 348 = .ok (.iconst 0, 1) := by decide +kernel
theorem dL_areKeys_349 : decode cL_areKeys 349 = .ok (.if_icmp .ne 32, 3) := by decide +kernel
theorem dL_areKeys_352 : decode cL_areKeys 352 = .ok (.iload 10, 2) := by decide +kernel
theorem dL_areKeys_354 : decode cL_areKeys 354 = .ok (.iload_n 3, 1) := by decide +kernel
theorem dL_areKeys_355 : decode cL_areKeys 355 = .ok (.if_icmp .ne 7, 3) := by decide +kernel
theorem dL_areKeys_358 : decode cL_areKeys 358 = .ok (.iconst 1, 1) := by decide +kernel
theorem dL_areKeys_359 : decode cL_areKeys 359 = .ok (.goto 4, 3) := by decide +kernel
theorem dL_areKeys_362 : decode cL_areKeys 362 = .ok (.iconst 0, 1) := by decide +kernel
theorem dL_areKeys_363 : decode cL_areKeys 363 = .ok (.iload 8, 2) := by decide +kernel
theorem dL_areKeys_365 : decode cL_areKeys 365 = .ok (.iload_n 3, 1) := by decide +kernel
theorem dL_areKeys_366 : decode cL_areKeys 366 = .ok (.if_icmp .ne 7, 3) := by decide +kernel
theorem dL_areKeys_369 : decode cL_areKeys 369 = .ok (.iconst 1, 1) := by decide +kernel
theorem dL_areKeys_370 : decode cL_areKeys 370 = .ok (.goto 4, 3) := by decide +kernel
theorem dL_areKeys_373 : decode cL_areKeys 373 = .ok (.iconst 0, 1) := by decide +kernel
theorem dL_areKeys_374 : decode cL_areKeys 374 = .ok (.if_icmp .ne 7, 3) := by decide +kernel
theorem dL_areKeys_377 : decode cL_areKeys 377 = .ok (.iconst 1, 1) := by decide +kernel
theorem dL_areKeys_378 : decode cL_areKeys 378 = .ok (.goto 4, 3) := by decide +kernel
theorem dL_areKeys_381 : decode cL_areKeys 381 = .ok (.iconst 0, 1) := by decide +kernel
theorem dL_areKeys_382 : decode cL_areKeys 382 = .ok (.istore 11, 2) := by decide +kernel
theorem dL_areKeys_384 : decode cL_areKeys 384 = .ok (.aload_n 0, 1) := by decide +kernel
theorem dL_areKeys_385 : decode cL_areKeys 385 = .ok (.iload_n 1, 1) := by decide +kernel
theorem dL_areKeys_386 : decode cL_areKeys 386 = .ok (.invokestatic 364, 3) := by decide +kernel
theorem dL_areKeys_389 : decode cL_areKeys 389 = .ok (.istore 12, 2) := by decide +kernel
theorem dL_areKeys_391 : decode cL_areKeys 391 = .ok (.aload_n 0, 1) := by decide +kernel
theorem dL_areKeys_392 : decode cL_areKeys 392 = .ok (.iload_n 1, 1) := by decide +kernel
theorem dL_areKeys_393 : decode cL_areKeys 393 = .ok (.iconst 1, 1) := by decide +kernel
theorem dL_areKeys_394 : decode cL_areKeys 394 = .ok (.iadd, 1) := by decide +kernel
theorem dL_areKeys_395 : decode cL_areKeys 395 = .ok (.bipush 97, 2) := by decide +kernel
theorem dL_areKeys_397 : decode cL_areKeys 397 = .ok (.irem, 1) := by decide +kernel
theorem dL_areKeys_398 : decode cL_areKeys 398 = .ok (.invokestatic 364, 3) := by decide +kernel
theorem dL_areKeys_401 : decode cL_areKeys 401 = .ok (.istore 13, 2) := by decide +kernel
theorem dL_areKeys_403 : decode cL_areKeys 403 = .ok (.aload_n 0, 1) := by decide +kernel
theorem dL_areKeys_404 : decode cL_areKeys 404 = .ok (.iload_n 1, 1) := by decide +kernel
theorem dL_areKeys_405 : decode cL_areKeys 405 = .ok (.iconst 2, 1) := by decide +kernel
theorem dL_areKeys_406 : decode cL_areKeys 406 = .ok (.iadd, 1) := by decide +kernel
theorem dL_areKeys_407 : decode cL_areKeys 407 = .ok (.bipush 97, 2) := by decide +kernel
theorem dL_areKeys_409 : decode cL_areKeys 409 = .ok (.irem, 1) := by decide +kernel
theorem dL_areKeys_410 : decode cL_areKeys 410 = .ok (.invokestatic 364, 3) := by decide +kernel
theorem dL_areKeys_413 : decode cL_areKeys 413 = .ok (.istore 14, 2) := by decide +kernel
theorem dL_areKeys_415 : decode cL_areKeys 415 = .ok (.aload_n 0, 1) := by decide +kernel
theorem dL_areKeys_416 : decode cL_areKeys 416 = .ok (.iload_n 1, 1) := by decide +kernel
theorem dL_areKeys_417 : decode cL_areKeys 417 = .ok (.iconst 3, 1) := by decide +kernel
theorem dL_areKeys_418 : decode cL_areKeys 418 = .ok (.iadd, 1) := by decide +kernel
theorem dL_areKeys_419 : decode cL_areKeys 419 = .ok (.bipush 97, 2) := by decide +kernel
theorem dL_areKeys_421 : decode cL_areKeys 421 = .ok (.irem, 1) := by decide +kernel
theorem dL_areKeys_422 : decode cL_areKeys 422 = .ok (.invokestatic 364, 3) := by decide +kernel
theorem dL_areKeys_425 : decode cL_areKeys 425 = .ok (.istore 15, 2) := by decide +kernel
theorem dL_areKeys_427 : decode cL_areKeys 427 = .ok (.iload 4, 2) := by decide +kernel
theorem dL_areKeys_429 : decode cL_areKeys 429 = .ok (.iconst 1, 1) := by decide +kernel
theorem dL_areKeys_430 : decode cL_areKeys 430 = .ok (.if_icmp .ne 11, 3) := by decide +kernel
theorem dL_areKeys_433 : decode cL_areKeys 433 = .ok (.iload 13, 2) := by decide +kernel
theorem dL_areKeys_435 : decode cL_areKeys 435 = .ok (.iload 12, 2) := by decide +kernel
theorem dL_areKeys_437 : decode cL_areKeys 437 = .ok (.isub, 1) := by decide +kernel
theorem dL_areKeys_438 : decode cL_areKeys 438 = .ok (.goto 37, 3) := by decide +kernel
theorem dL_areKeys_441 : decode cL_areKeys 441 = .ok (.iload 4, 2) := by decide +kernel
theorem dL_areKeys_443 : decode cL_areKeys 443 = .ok (.iconst 2, 1) := by decide +kernel
theorem dL_areKeys_444 : decode cL_areKeys 444 = .ok (.if_icmp .ne 16, 3) := by decide +kernel
theorem dL_areKeys_447 : decode cL_areKeys 447 = .ok (.iload 14, 2) := by decide +kernel
theorem dL_areKeys_449 : decode cL_areKeys 449 = .ok (.iconst 2, 1) := by decide +kernel
theorem dL_areKeys_450 : decode cL_areKeys 450 = .ok (.iload 13, 2) := by decide +kernel
theorem dL_areKeys_452 : decode cL_areKeys 452 = .ok (.imul, 1) := by decide +kernel
theorem dL_areKeys_453 : decode cL_areKeys 453 = .ok (.isub, 1) := by decide +kernel
theorem dL_areKeys_454 : decode cL_areKeys 454 = .ok (.iload 12, 2) := by decide +kernel
theorem dL_areKeys_456 : decode cL_areKeys 456 = .ok (.iadd, 1) := by decide +kernel
theorem dL_areKeys_457 : decode cL_areKeys 457 = .ok (.goto 18, 3) := by decide +kernel
theorem dL_areKeys_460 : decode cL_areKeys 460 = .ok (.iload 15, 2) := by decide +kernel
theorem dL_areKeys_462 : decode cL_areKeys 462 = .ok (.iconst 3, 1) := by decide +kernel
theorem dL_areKeys_463 : decode cL_areKeys 463 = .ok (.iload 14, 2) := by decide +kernel
theorem dL_areKeys_465 : decode cL_areKeys 465 = .ok (.imul, 1) := by decide +kernel
theorem dL_areKeys_466 : decode cL_areKeys 466 = .ok (.isub, 1) := by decide +kernel
theorem dL_areKeys_467 : decode cL_areKeys 467 = .ok (.iconst 3, 1) := by decide +kernel
theorem dL_areKeys_468 : decode cL_areKeys 468 = .ok (.iload 13, 2) := by decide +kernel
theorem dL_areKeys_470 : decode cL_areKeys 470 = .ok (.imul, 1) := by decide +kernel
theorem dL_areKeys_471 : decode cL_areKeys 471 = .ok (.iadd, 1) := by decide +kernel
theorem dL_areKeys_472 : decode cL_areKeys 472 = .ok (.iload 12, 2) := by decide +kernel
theorem dL_areKeys_474 : decode cL_areKeys 474 = .ok (.isub, 1) := by decide +kernel
theorem dL_areKeys_475 : decode cL_areKeys 475 = .ok (.istore 16, 2) := by decide +kernel
theorem dL_areKeys_477 : decode cL_areKeys 477 = .ok (.iload 11, 2) := by decide +kernel
theorem dL_areKeys_479 : decode cL_areKeys 479 = .ok (.ifCond .eq 51, 3) := by decide +kernel
theorem dL_areKeys_482 : decode cL_areKeys 482 = .ok (.iload 16, 2) := by decide +kernel
theorem dL_areKeys_484 : decode cL_areKeys 484 = .ok (.bipush 97, 2) := by decide +kernel
theorem dL_areKeys_486 : decode cL_areKeys 486 = .ok (.irem, 1) := by decide +kernel
theorem dL_areKeys_487 : decode cL_areKeys 487 = .ok (.ifCond .ne 43, 3) := by decide +kernel
theorem dL_areKeys_490 : decode cL_areKeys 490 = .ok (.aload_n 0, 1) := by decide +kernel
theorem dL_areKeys_491 : decode cL_areKeys 491 = .ok (.invokestatic 368, 3) := by decide +kernel
theorem dL_areKeys_494 : decode cL_areKeys 494 = .ok (.iload 10, 2) := by decide +kernel
theorem dL_areKeys_496 : decode cL_areKeys 496 = .ok (.if_icmp .ne 34, 3) := by decide +kernel
theorem dL_areKeys_499 : decode cL_areKeys 499 = .ok (.iload 10, 2) := by decide +kernel
theorem dL_areKeys_501 : decode cL_areKeys 501 = .ok (.iload 4, 2) := by decide +kernel
theorem dL_areKeys_503 : decode cL_areKeys 503 = .ok (.if_icmp .lt 27, 3) := by decide +kernel
theorem dL_areKeys_506 : decode cL_areKeys 506 = .ok (.iload 10, 2) := by decide +kernel
theorem dL_areKeys_508 : decode cL_areKeys 508 = .ok (.iload 8, 2) := by decide +kernel
theorem dL_areKeys_510 : decode cL_areKeys 510 = .ok (.if_icmp .lt 20, 3) := by decide +kernel
theorem dL_areKeys_513 : decode cL_areKeys 513 = .ok (.iload 10, 2) := by decide +kernel
theorem dL_areKeys_515 : decode cL_areKeys 515 = .ok (.iload 6, 2) := by decide +kernel
theorem dL_areKeys_517 : decode cL_areKeys 517 = .ok (.if_icmp .lt 13, 3) := by decide +kernel
theorem dL_areKeys_520 : decode cL_areKeys 520 = .ok (.iload 10, 2) := by decide +kernel
theorem dL_areKeys_522 : decode cL_areKeys 522 = .ok (.iload_n 3, 1) := by decide +kernel
theorem dL_areKeys_523 : decode cL_areKeys 523 = .ok (.if_icmp .gt 7, 3) := by decide +kernel
theorem dL_areKeys_526 : decode cL_areKeys 526 = .ok (.iconst 1, 1) := by decide +kernel
theorem dL_areKeys_527 : decode cL_areKeys 527 = .ok (.goto 4, 3) := by decide +kernel
theorem dL_areKeys_530 : decode cL_areKeys 530 = .ok (.iconst 0, 1) := by decide +kernel
theorem dL_areKeys_531 : decode cL_areKeys 531 = .ok (.ireturn, 1) := by decide +kernel
theorem dL_areZones_0 : decode cL_areZones 0 = .ok (.iconst 0, 1) := by decide +kernel
theorem dL_areZones_1 : decode cL_areZones 1 = .ok (.istore_n 1, 1) := by decide +kernel
theorem dL_areZones_2 : decode cL_areZones 2 = .ok (.iconst 0, 1) := by decide +kernel
theorem dL_areZones_3 : decode cL_areZones 3 = .ok (.istore_n 2, 1) := by decide +kernel
theorem dL_areZones_4 : decode cL_areZones 4 = .ok (.iload_n 2, 1) := by decide +kernel
theorem dL_areZones_5 : decode cL_areZones 5 = .ok (.bipush 8, 2) := by decide +kernel
theorem dL_areZones_7 : decode cL_areZones 7 = .ok (.if_icmp .ge 292, 3) := by decide +kernel
theorem dL_areZones_10 : decode cL_areZones 10 = .ok (.aload_n 0, 1) := by decide +kernel
theorem dL_areZones_11 : decode cL_areZones 11 = .ok (.iload_n 2, 1) := by decide +kernel
theorem dL_areZones_12 : decode cL_areZones 12 = .ok (.invokestatic 241, 3) := by decide +kernel
theorem dL_areZones_15 : decode cL_areZones 15 = .ok (.istore_n 3, 1) := by decide +kernel
theorem dL_areZones_16 : decode cL_areZones 16 = .ok (.aload_n 0, 1) := by decide +kernel
theorem dL_areZones_17 : decode cL_areZones 17 = .ok (.iload_n 2, 1) := by decide +kernel
theorem dL_areZones_18 : decode cL_areZones 18 = .ok (.iconst 1, 1) := by decide +kernel
theorem dL_areZones_19 : decode cL_areZones 19 = .ok (.iadd, 1) := by decide +kernel
theorem dL_areZones_20 : decode cL_areZones 20 = .ok (.bipush 8, 2) := by decide +kernel
theorem dL_areZones_22 : decode cL_areZones 22 = .ok (.irem, 1) := by decide +kernel
theorem dL_areZones_23 : decode cL_areZones 23 = .ok (.invokestatic 241, 3) := by decide +kernel
theorem dL_areZones_26 : decode cL_areZones 26 = .ok (.ifCond .ne 17, 3) := by decide +kernel
theorem dL_areZones_29 : decode cL_areZones 29 = .ok (.aload_n 0, 1) := by decide +kernel
theorem dL_areZones_30 : decode cL_areZones 30 = .ok (.iload_n 2, 1) := by decide +kernel
theorem dL_areZones_31 : decode cL_areZones 31 = .ok (.bipush 7, 2) := by decide +kernel
theorem dL_areZones_33 : decode cL_areZones 33 = .ok (.iadd, 1) := by decide +kernel
theorem dL_areZones_34 : decode cL_areZones 34 = .ok (.bipush 8, 2) := by decide +kernel
theorem dL_areZones_36 : decode cL_areZones 36 = .ok (.irem, 1) := by decide +kernel
theorem dL_areZones_37 : decode cL_areZones 37 = .ok (.invokestatic 241, 3) := by decide +kernel
theorem dL_areZones_40 : decode cL_areZones 40 = .ok (.ifCond .eq 7, 3) := by decide +kernel
theorem dL_areZones_43 : decode cL_areZones 43 = .ok (.iconst 1, 1) := by decide +kernel
theorem dL_areZones_44 : decode cL_areZones 44 = .ok (.goto 4, 3) := by decide +kernel
theorem dL_areZones_47 : decode cL_areZones 47 = .ok (.iconst 0, 1) := by decide +kernel
theorem dL_areZones_48 : decode cL_areZones 48 = .ok (.istore 4, 2) := by decide +kernel
theorem dL_areZones_50 : decode cL_areZones 50 = .ok (.aload_n 0, 1) := by decide +kernel
theorem dL_areZones_51 : decode cL_areZones 51 = .ok (.iload_n 2, 1) := by decide +kernel
theorem dL_areZones_52 : decode cL_areZones 52 = .ok (.invokestatic 230, 3) := by decide +kernel
theorem dL_areZones_55 : decode cL_areZones 55 = .ok (.istore 5, 2) := by decide +kernel
theorem dL_areZones_57 : decode cL_areZones 57 = .ok (.aload_n 0, 1) := by decide +kernel
theorem dL_areZones_58 : decode cL_areZones 58 = .ok (.iload_n 2, 1) := by decide +kernel
theorem dL_areZones_59 : decode cL_areZones 59 = .ok (.invokestatic 370, 3) := by decide +kernel
theorem dL_areZones_62 : decode cL_areZones 62 = .ok (.istore 6, 2) := by decide +kernel
theorem dL_areZones_64 : decode cL_areZones 64 = .ok (.iload_n 2, 1) := by decide +kernel
theorem dL_areZones_65 : decode cL_areZones 65 = .ok (.ifCond .ne 8, 3) := by decide +kernel
theorem dL_areZones_68 : decode cL_areZones 68 = .ok (.iload 6, 2) := by decide +kernel
theorem dL_areZones_70 : decode cL_areZones 70 = .ok (.goto 10, 3) := by decide +kernel
theorem dL_areZones_73 : decode cL_areZones 73 = .ok (.aload_n 0, 1) := by decide +kernel
theorem dL_areZones_74 : decode cL_areZones 74 = .ok (.iload_n 2, 1) := by decide +kernel
theorem dL_areZones_75 : decode cL_areZones 75 = .ok (.iconst 1, 1) := by decide +kernel
theorem dL_areZones_76 : decode cL_areZones 76 = .ok (.isub, 1) := by decide +kernel
theorem dL_areZones_77 : decode cL_areZones 77 = .ok (.invokestatic 370, 3) := by decide +kernel
theorem dL_areZones_80 : decode cL_areZones 80 = .ok (.istore 7, 2) := by decide +kernel
theorem dL_areZones_82 : decode cL_areZones 82 = .ok (.aload_n 0, 1) := by decide +kernel
theorem dL_areZones_83 : decode cL_areZones 83 = .ok (.iload 7, 2) := by decide +kernel
theorem dL_areZones_85 : decode cL_areZones 85 = .ok (.invokestatic 351, 3) := by decide +kernel
theorem dL_areZones_88 : decode cL_areZones 88 = .ok (.aload_n 0, 1) := by decide +kernel
theorem dL_areZones_89 : decode cL_areZones 89 = .ok (.iload 6, 2) := by decide +kernel
theorem dL_areZones_91 : decode cL_areZones 91 = .ok (.invokestatic 351, 3) := by decide +kernel
theorem dL_areZones_94 : decode cL_areZones 94 = .ok (.if_icmp .gt 59, 3) := by decide +kernel
theorem dL_areZones_97 : decode cL_areZones 97 = .ok (.aload_n 0, 1) := by decide +kernel
theorem dL_areZones_98 : decode cL_areZones 98 = .ok (.iload 7, 2) := by decide +kernel
theorem dL_areZones_100 : decode cL_areZones 100 = .ok (.invokestatic 351, 3) := by decide +kernel
theorem dL_areZones_103 : decode cL_areZones 103 = .ok (.aload_n 0, 1) := by decide +kernel
theorem dL_areZones_104 : decode cL_areZones 104 = .ok (.iload 6, 2) := by decide +kernel
theorem dL_areZones_106 : decode cL_areZones 106 = .ok (.invokestatic 351, 3) := by decide +kernel
theorem dL_areZones_109 : decode cL_areZones 109 = .ok (.if_icmp .ne 48, 3) := by decide +kernel
theorem dL_areZones_112 : decode cL_areZones 112 = .ok (.aload_n 0, 1) := by decide +kernel
theorem dL_areZones_113 : decode cL_areZones 113 = .ok (.iload 7, 2) := by decide +kernel
theorem dL_areZones_115 : decode cL_areZones 115 = .ok (.invokestatic 353, 3) := by decide +kernel
theorem dL_areZones_118 : decode cL_areZones 118 = .ok (.aload_n 0, 1) := by decide +kernel
theorem dL_areZones_119 : decode cL_areZones 119 = .ok (.iload 6, 2) := by decide +kernel
theorem dL_areZones_121 : decode cL_areZones 121 = .ok (.invokestatic 353, 3) := by decide +kernel
theorem dL_areZones_124 : decode cL_areZones 124 = .ok (.if_icmp .gt 29, 3) := by decide +kernel
theorem dL_areZones_127 : decode cL_areZones 127 = .ok (.aload_n 0, 1) := by decide +kernel
theorem dL_areZones_128 : decode cL_areZones 128 = .ok (.iload 7, 2) := by decide +kernel
theorem dL_areZones_130 : decode cL_areZones 130 = .ok (.invokestatic 353, 3) := by decide +kernel
theorem dL_areZones_133 : decode cL_areZones 133 = .ok (.aload_n 0, 1) := by decide +kernel
theorem dL_areZones_134 : decode cL_areZones 134 = .ok (.iload 6, 2) := by decide +kernel
theorem dL_areZones_136 : decode cL_areZones 136 = .ok (.invokestatic 353, 3) := by decide +kernel
theorem dL_areZones_139 : decode cL_areZones 139 = .ok (.if_icmp .ne 18, 3) := by decide +kernel
theorem dL_areZones_142 : decode cL_areZones 142 = .ok (.iload_n 2, 1) := by decide +kernel
theorem dL_areZones_143 : decode cL_areZones 143 = .ok (.ifCond .eq 10, 3) := by decide +kernel
theorem dL_areZones_146 : decode cL_areZones 146 = .ok (.iload 7, 2) := by decide +kernel
theorem dL_areZones_148 : decode cL_areZones 148 = .ok (.iload 6, 2) := by decide +kernel
theorem dL_areZones_150 : decode cL_areZones 150 = .ok (.if_icmp .ge 7, 3) := by decide +kernel
theorem dL_areZones_153 : decode cL_areZones 153 = .ok (.iconst 1, 1) := by decide +kernel
theorem dL_areZones_154 : decode cL_areZones 154 = .ok (.goto 4, 3) := by decide +kernel
theorem dL_areZones_157 : decode cL_areZones 157 = .ok (.iconst 0, 1) := by decide +kernel
theorem dL_areZones_158 : decode cL_areZones 158 = .ok (.istore 8, 2) := by decide +kernel
theorem dL_areZones_160 : decode cL_areZones 160 = .ok (.iload_n 1, 1) := by decide +kernel
theorem dL_areZones_161 : decode cL_areZones 161 = .ok (.aload_n 0, 1) := by decide +kernel
theorem dL_areZones_162 : decode cL_areZones 162 = .ok (.iload_n 2, 1) := by decide +kernel
theorem dL_areZones_163 : decode cL_areZones 163 = .ok (.invokestatic 351, 3) := by decide +kernel
theorem dL_areZones_166 : decode cL_areZones 166 = .ok (.iadd, 1) := by decide +kernel
theorem dL_areZones_167 : decode cL_areZones 167 = .ok (.istore_n 1, 1) := by decide +kernel
theorem dL_areZones_168 : decode cL_areZones 168 = .ok (.aload_n 0, 1) := by decide +kernel
theorem dL_areZones_169 : decode cL_areZones 169 = .ok (.iload_n 2, 1) := by decide +kernel
theorem dL_areZones_170 : decode cL_areZones 170 = .ok (.invokestatic 351, 3) := by decide +kernel
theorem dL_areZones_173 : decode cL_areZones 173 = .ok (.ifCond .lt 88, 3) := by decide +kernel
theorem dL_areZones_176 : decode cL_areZones 176 = .ok (.aload_n 0, 1) := by decide +kernel
theorem dL_areZones_177 : decode cL_areZones 177 = .ok (.iload_n 2, 1) := by decide +kernel
theorem dL_areZones_178 : decode cL_areZones 178 = .ok (.invokestatic 351, 3) := by decide +kernel
theorem dL_areZones_181 : decode cL_areZones 181 = .ok (.bipush 20, 2) := by decide +kernel
theorem dL_areZones_183 : decode cL_areZones 183 = .ok (.if_icmp .gt 78, 3) := by decide +kernel
theorem dL_areZones_186 : decode cL_areZones 186 = .ok (.iload 8, 2) := by decide +kernel
theorem dL_areZones_188 : decode cL_areZones 188 = .ok (.ifCond .eq 73, 3) := by decide +kernel
theorem dL_areZones_191 : decode cL_areZones 191 = .ok (.aload_n 0, 1) := by decide +kernel
theorem dL_areZones_192 : decode cL_areZones 192 = .ok (.iload_n 2, 1) := by decide +kernel
theorem dL_areZones_193 : decode cL_areZones 193 = .ok (.invokestatic 372, 3) := by decide +kernel
theorem dL_areZones_196 : decode cL_areZones 196 = .ok (.iload_n 3, 1) := by decide +kernel
theorem dL_areZones_197 : decode cL_areZones 197 = .ok (.ifCond .ne 8, 3) := by decide +kernel
theorem dL_areZones_200 : decode cL_areZones 200 = .ok (.iload 4, 2) := by decide +kernel
theorem dL_areZones_202 : decode cL_areZones 202 = .ok (.ifCond .eq 7, 3) := by decide +kernel
theorem dL_areZones_205 : decode cL_areZones 205 = .ok (.iconst 1, 1) := by decide +kernel
theorem dL_areZones_206 : decode cL_areZones 206 = .ok (.goto 4, 3) := by decide +kernel
theorem dL_areZones_209 : decode cL_areZones 209 = .ok (.iconst 0, 1) := by decide +kernel
theorem dL_areZones_210 : decode cL_areZones 210 = .ok (.if_icmp .ne 51, 3) := by decide +kernel
theorem dL_areZones_213 : decode cL_areZones 213 = .ok (.aload_n 0, 1) := by decide +kernel
theorem dL_areZones_214 : decode cL_areZones 214 = .ok (.iload_n 2, 1) := by decide +kernel
theorem dL_areZones_215 : decode cL_areZones 215 = .ok (.invokestatic 374, 3) := by decide +kernel
theorem dL_areZones_218 : decode cL_areZones 218 = .ok (.iload 5, 2) := by decide +kernel
theorem dL_areZones_220 : decode cL_areZones 220 = .ok (.if_icmp .ne 41, 3) := by decide +kernel
theorem dL_areZones_223 : decode cL_areZones 223 = .ok (.aload_n 0, 1) := by decide +kernel
theorem dL_areZones_224 : decode cL_areZones 224 = .ok (.invokevirtual 279, 3) := by decide +kernel
theorem dL_areZones_227 : decode cL_areZones 227 = .ok (.ifCond .ne 13, 3) := by decide +kernel
theorem dL_areZones_230 : decode cL_areZones 230 = .ok (.iload 5, 2) := by decide +kernel
theorem dL_areZones_232 : decode cL_areZones 232 = .ok (.bipush (-75), 2) := by decide +kernel
theorem dL_areZones_234 : decode cL_areZones 234 = .ok (.if_icmp .eq 29, 3) := by decide +kernel
theorem dL_areZones_237 : decode cL_areZones 237 = .ok (.goto 24, 3) := by decide +kernel
theorem dL_areZones_240 : decode cL_areZones 240 = .ok (.iload 5, 2) := by decide +kernel
theorem dL_areZones_242 : decode cL_areZones 242 = .ok (.ifCond .ne 7, 3) := by decide +kernel
theorem dL_areZones_245 : decode cL_areZones 245 = .ok (.iconst 1, 1) := by decide +kernel
theorem dL_areZones_246 : decode cL_areZones 246 = .ok (.goto 4, 3) := by decide +kernel
theorem dL_areZones_249 : decode cL_areZones 249 = .ok (.iconst 0, 1) := by decide +kernel
theorem dL_areZones_250 : decode cL_areZones 250 = .ok (.iload_n 3, 1) := by decide +kernel
theorem dL_areZones_251 : decode cL_areZones 251 = .ok (.if_icmp .ne 10, 3) := by decide +kernel
theorem dL_areZones_254 : decode cL_areZones 254 = .ok (.iload 5, 2) := by decide +kernel
theorem dL_areZones_256 : decode cL_areZones 256 = .ok (.bipush 32, 2) := by decide +kernel
theorem dL_areZones_258 : decode cL_areZones 258 = .ok (.if_icmp .le 5, 3) := by decide +kernel
theorem dL_areZones_261 : decode cL_areZones 261 = .ok (.iconst 0, 1) := by decide +kernel
theorem dL_areZones_262 : decode cL_areZones 262 = .ok (.ireturn, 1) := by decide +kernel
theorem dL_areZones_263 : decode cL_areZones 263 = .ok (.aload_n 0, 1) := by decide +kernel
theorem dL_areZones_264 : decode cL_areZones 264 = .ok (.invokevirtual 232, 3) := by decide +kernel
theorem dL_areZones_267 : decode cL_areZones 267 = .ok (.ifCond .le 26, 3) := by decide +kernel
theorem dL_areZones_270 : decode cL_areZones 270 = .ok (.aload_n 0, 1) := by decide +kernel
theorem dL_areZones_271 : decode cL_areZones 271 = .ok (.iload_n 2, 1) := by decide +kernel
theorem dL_areZones_272 : decode cL_areZones 272 = .ok (.invokestatic 376, 3) := by decide +kernel
theorem dL_areZones_275 : decode cL_areZones 275 = .ok (.aload_n 0, 1) := by decide +kernel
theorem dL_areZones_276 : decode cL_areZones 276 = .ok (.iload_n 2, 1) := by decide +kernel
theorem dL_areZones_277 : decode cL_areZones 277 = .ok (.invokestatic 353, 3) := by decide +kernel
theorem dL_areZones_280 : decode cL_areZones 280 = .ok (.i2f, 1) := by decide +kernel
theorem dL_areZones_281 : decode cL_areZones 281 = .ok (.aload_n 0, 1) := by decide +kernel
theorem dL_areZones_282 : decode cL_areZones 282 = .ok (.invokevirtual 232, 3) := by decide +kernel
theorem dL_areZones_285 : decode cL_areZones 285 = .ok (.i2f, 1) := by decide +kernel
theorem dL_areZones_286 : decode cL_areZones 286 = .ok (.fdiv, 1) := by decide +kernel
theorem dL_areZones_287 : decode cL_areZones 287 = .ok (.fcmp .l, 1) := by decide +kernel
theorem dL_areZones_288 : decode cL_areZones 288 = .ok (.ifCond .eq 5, 3) := by decide +kernel
theorem dL_areZones_291 : decode cL_areZones 291 = .ok (.iconst 0, 1) := by decide +kernel
theorem dL_areZones_292 : decode cL_areZones 292 = .ok (.ireturn, 1) := by decide +kernel
theorem dL_areZones_293 : decode cL_areZones 293 = .ok (.iinc 2 1, 3) := by decide +kernel
theorem dL_areZones_296 : decode cL_areZones 296 = .ok (.goto (-292), 3) := by decide +kernel
theorem dL_areZones_299 : decode cL_areZones 299 = .ok (.aload_n 0, 1) := by decide +kernel
theorem dL_areZones_300 : decode cL_areZones 300 = .ok (.invokevirtual 379, 3) := by decide +kernel
theorem dL_areZones_303 : decode cL_areZones 303 = .ok (.iload_n 1, 1) := by decide +kernel
theorem dL_areZones_304 : decode cL_areZones 304 = .ok (.i2d, 1) := by decide +kernel
theorem dL_areZones_305 : decode cL_areZones 305 = .ok (.ldc2_w 383, 3) := by decide +kernel
theorem dL_areZones_308 : decode cL_areZones 308 = .ok (.ddiv, 1) := by decide +kernel
theorem dL_areZones_309 : decode cL_areZones 309 = .ok (.dcmp .l, 1) := by decide +kernel
theorem dL_areZones_310 : decode cL_areZones 310 = .ok (.ifCond .ne 30, 3) := by decide +kernel
theorem dL_areZones_313 : decode cL_areZones 313 = .ok (.aload_n 0, 1) := by decide +kernel
theorem dL_areZones_314 : decode cL_areZones 314 = .ok (.iconst 0, 1) := by decide +kernel
theorem dL_areZones_315 : decode cL_areZones 315 = .ok (.invokestatic 228, 3) := by decide +kernel
theorem dL_areZones_318 : decode cL_areZones 318 = .ok (.ifCond .ne 22, 3) := by decide +kernel
theorem dL_areZones_321 : decode cL_areZones 321 = .ok (.aload_n 0, 1) := by decide +kernel
theorem dL_areZones_322 : decode cL_areZones 322 = .ok (.bipush 24, 2) := by decide +kernel
theorem dL_areZones_324 : decode cL_areZones 324 = .ok (.invokestatic 228, 3) := by decide +kernel
theorem dL_areZones_327 : decode cL_areZones 327 = .ok (.aload_n 0, 1) := by decide +kernel
theorem dL_areZones_328 : decode cL_areZones 328 = .ok (.bipush 7, 2) := by decide +kernel
theorem dL_areZones_330 : decode cL_areZones 330 = .ok (.invokestatic 228, 3) := by decide +kernel
theorem dL_areZones_333 : decode cL_areZones 333 = .ok (.if_icmp .lt 7, 3) := by decide +kernel
theorem dL_areZones_336 : decode cL_areZones 336 = .ok (.iconst 1, 1) := by decide +kernel
theorem dL_areZones_337 : decode cL_areZones 337 = .ok (.goto 4, 3) := by decide +kernel
theorem dL_areZones_340 : decode cL_areZones 340 = .ok (.iconst 0, 1) := by decide +kernel
theorem dL_areZones_341 : decode cL_areZones 341 = .ok (.ireturn, 1) := by decide +kernel
theorem dL_isWhole_0 : decode cL_isWhole 0 = .ok (.iconst 0, 1) := by decide +kernel
theorem dL_isWhole_1 : decode cL_isWhole 1 = .ok (.istore 5, 2) := by decide +kernel
theorem dL_isWhole_3 : decode cL_isWhole 3 = .ok (.iconst 0, 1) := by decide +kernel
theorem dL_isWhole_4 : decode cL_isWhole 4 = .ok (.istore 6, 2) := by decide +kernel
theorem dL_isWhole_6 : decode cL_isWhole 6 = .ok (.iload 6, 2) := by decide +kernel
theorem dL_isWhole_8 : decode cL_isWhole 8 = .ok (.bipush 8, 2) := by decide +kernel
theorem dL_isWhole_10 : decode cL_isWhole 10 = .ok (.if_icmp .ge 20, 3) := by decide +kernel
theorem dL_isWhole_13 : decode cL_isWhole 13 = .ok (.iload 5, 2) := by decide +kernel
theorem dL_isWhole_15 : decode cL_isWhole 15 = .ok (.aload_n 0, 1) := by decide +kernel
theorem dL_isWhole_16 : decode cL_isWhole 16 = .ok (.iload 6, 2) := by decide +kernel
theorem dL_isWhole_18 : decode cL_isWhole 18 = .ok (.invokestatic 353, 3) := by decide +kernel
theorem dL_isWhole_21 : decode cL_isWhole 21 = .ok (.iadd, 1) := by decide +kernel
theorem dL_isWhole_22 : decode cL_isWhole 22 = .ok (.istore 5, 2) := by decide +kernel
theorem dL_isWhole_24 : decode cL_isWhole 24 = .ok (.iinc 6 1, 3) := by decide +kernel
theorem dL_isWhole_27 : decode cL_isWhole 27 = .ok (.goto (-21), 3) := by decide +kernel
theorem dL_isWhole_30 : decode cL_isWhole 30 = .ok (.aload_n 0, 1) := by decide +kernel
theorem dL_isWhole_31 : decode cL_isWhole 31 = .ok (.invokevirtual 257, 3) := by decide +kernel
theorem dL_isWhole_34 : decode cL_isWhole 34 = .ok (.istore 6, 2) := by decide +kernel
theorem dL_isWhole_36 : decode cL_isWhole 36 = .ok (.iconst 0, 1) := by decide +kernel
theorem dL_isWhole_37 : decode cL_isWhole 37 = .ok (.istore 7, 2) := by decide +kernel
theorem dL_isWhole_39 : decode cL_isWhole 39 = .ok (.iload 7, 2) := by decide +kernel
theorem dL_isWhole_41 : decode cL_isWhole 41 = .ok (.iload 6, 2) := by decide +kernel
theorem dL_isWhole_43 : decode cL_isWhole 43 = .ok (.if_icmp .ge 141, 3) := by decide +kernel
theorem dL_isWhole_46 : decode cL_isWhole 46 = .ok (.aload_n 0, 1) := by decide +kernel
theorem dL_isWhole_47 : decode cL_isWhole 47 = .ok (.iload 7, 2) := by decide +kernel
theorem dL_isWhole_49 : decode cL_isWhole 49 = .ok (.invokestatic 260, 3) := by decide +kernel
theorem dL_isWhole_52 : decode cL_isWhole 52 = .ok (.istore 8, 2) := by decide +kernel
theorem dL_isWhole_54 : decode cL_isWhole 54 = .ok (.aload_n 0, 1) := by decide +kernel
theorem dL_isWhole_55 : decode cL_isWhole 55 = .ok (.iload 7, 2) := by decide +kernel
theorem dL_isWhole_57 : decode cL_isWhole 57 = .ok (.invokestatic 262, 3) := by decide +kernel
theorem dL_isWhole_60 : decode cL_isWhole 60 = .ok (.istore 9, 2) := by decide +kernel
theorem dL_isWhole_62 : decode cL_isWhole 62 = .ok (.iload 8, 2) := by decide +kernel
theorem dL_isWhole_64 : decode cL_isWhole 64 = .ok (.bipush 99, 2) := by decide +kernel
theorem dL_isWhole_66 : decode cL_isWhole 66 = .ok (.if_icmp .ne 8, 3) := by decide +kernel
theorem dL_isWhole_69 : decode cL_isWhole 69 = .ok (.iload 9, 2) := by decide +kernel
theorem dL_isWhole_71 : decode cL_isWhole 71 = .ok (.ifCond .eq 58, 3) := by decide +kernel
theorem dL_isWhole_74 : decode cL_isWhole 74 = .ok (.iload 8, 2) := by decide +kernel
theorem dL_isWhole_76 : decode cL_isWhole 76 = .ok (.bipush 97, 2) := by decide +kernel
theorem dL_isWhole_78 : decode cL_isWhole 78 = .ok (.if_icmp .ne 24, 3) := by decide +kernel
theorem dL_isWhole_81 : decode cL_isWhole 81 = .ok (.iload 9, 2) := by decide +kernel
theorem dL_isWhole_83 : decode cL_isWhole 83 = .ok (.ifCond .lt 19, 3) := by decide +kernel
theorem dL_isWhole_86 : decode cL_isWhole 86 = .ok (.iload 9, 2) := by decide +kernel
theorem dL_isWhole_88 : decode cL_isWhole 88 = .ok (.bipush 8, 2) := by decide +kernel
theorem dL_isWhole_90 : decode cL_isWhole 90 = .ok (.if_icmp .ge 12, 3) := by decide +kernel
theorem dL_isWhole_93 : decode cL_isWhole 93 = .ok (.aload_n 0, 1) := by decide +kernel
theorem dL_isWhole_94 : decode cL_isWhole 94 = .ok (.iload 9, 2) := by decide +kernel
theorem dL_isWhole_96 : decode cL_isWhole 96 = .ok (.invokestatic 353, 3) := by decide +kernel
theorem dL_isWhole_99 : decode cL_isWhole 99 = .ok (.ifCond .gt 30, 3) := by decide +kernel
theorem dL_isWhole_102 : decode cL_isWhole 102 = .ok (.iload 8, 2) := by decide +kernel
theorem dL_isWhole_104 : decode cL_isWhole 104 = .ok (.bipush 111, 2) := by decide +kernel
theorem dL_isWhole_106 : decode cL_isWhole 106 = .ok (.if_icmp .eq 10, 3) := by decide +kernel
theorem dL_isWhole_109 : decode cL_isWhole 109 = .ok (.iload 8, 2) := by decide +kernel
theorem dL_isWhole_111 : decode cL_isWhole 111 = .ok (.bipush 102, 2) := by decide +kernel
theorem dL_isWhole_113 : decode cL_isWhole 113 = .ok (.if_icmp .ne 20, 3) := by decide +kernel
theorem dL_isWhole_116 : decode cL_isWhole 116 = .ok (.iload 9, 2) := by decide +kernel
theorem dL_isWhole_118 : decode cL_isWhole 118 = .ok (.iconst 1, 1) := by decide +kernel
theorem dL_isWhole_119 : decode cL_isWhole 119 = .ok (.if_icmp .lt 14, 3) := by decide +kernel
theorem dL_isWhole_122 : decode cL_isWhole 122 = .ok (.iload 9, 2) := by decide +kernel
theorem dL_isWhole_124 : decode cL_isWhole 124 = .ok (.bipush 8, 2) := by decide +kernel
theorem dL_isWhole_126 : decode cL_isWhole 126 = .ok (.if_icmp .gt 7, 3) := by decide +kernel
theorem dL_isWhole_129 : decode cL_isWhole 129 = .ok (.iconst 1, 1) := by decide +kernel
theorem dL_isWhole_130 : decode cL_isWhole 130 = .ok (.goto 4, 3) := by decide +kernel
theorem dL_isWhole_133 : decode cL_isWhole 133 = .ok (.iconst 0, 1) := by decide +kernel
theorem dL_isWhole_134 : decode cL_isWhole 134 = .ok (.istore 10, 2) := by decide +kernel
theorem dL_isWhole_136 : decode cL_isWhole 136 = .ok (.iload 10, 2) := by decide +kernel
theorem dL_isWhole_138 : decode cL_isWhole 138 = .ok (.ifCond .eq 38, 3) := by decide +kernel
theorem dL_isWhole_141 : decode cL_isWhole 141 = .ok (.aload_n 0, 1) := by decide +kernel
theorem dL_isWhole_142 : decode cL_isWhole 142 = .ok (.iload 7, 2) := by decide +kernel
theorem dL_isWhole_144 : decode cL_isWhole 144 = .ok (.invokestatic 264, 3) := by decide +kernel
theorem dL_isWhole_147 : decode cL_isWhole 147 = .ok (.aload_n 0, 1) := by decide +kernel
theorem dL_isWhole_148 : decode cL_isWhole 148 = .ok (.invokevirtual 235, 3) := by decide +kernel
theorem dL_isWhole_151 : decode cL_isWhole 151 = .ok (.if_icmp .gt 25, 3) := by decide +kernel
theorem dL_isWhole_154 : decode cL_isWhole 154 = .ok (.iload 7, 2) := by decide +kernel
theorem dL_isWhole_156 : decode cL_isWhole 156 = .ok (.ifCond .le 22, 3) := by decide +kernel
theorem dL_isWhole_159 : decode cL_isWhole 159 = .ok (.aload_n 0, 1) := by decide +kernel
theorem dL_isWhole_160 : decode cL_isWhole 160 = .ok (.iload 7, 2) := by decide +kernel
theorem dL_isWhole_162 : decode cL_isWhole 162 = .ok (.iconst 1, 1) := by decide +kernel
theorem dL_isWhole_163 : decode cL_isWhole 163 = .ok (.isub, 1) := by decide +kernel
theorem dL_isWhole_164 : decode cL_isWhole 164 = .ok (.invokestatic 264, 3) := by decide +kernel
theorem dL_isWhole_167 : decode cL_isWhole 167 = .ok (.aload_n 0, 1) := by decide +kernel
theorem dL_isWhole_168 : decode cL_isWhole 168 = .ok (.iload 7, 2) := by decide +kernel
theorem dL_isWhole_170 : decode cL_isWhole 170 = .ok (.invokestatic 264, 3) := by decide +kernel
theorem dL_isWhole_173 : decode cL_isWhole 173 = .ok (.if_icmp .le 5, 3) := by decide +kernel
theorem dL_isWhole_176 : decode cL_isWhole 176 = .ok (.iconst 0, 1) := by decide +kernel
theorem dL_isWhole_177 : decode cL_isWhole 177 = .ok (.ireturn, 1) := by decide +kernel
theorem dL_isWhole_178 : decode cL_isWhole 178 = .ok (.iinc 7 1, 3) := by decide +kernel
theorem dL_isWhole_181 : decode cL_isWhole 181 = .ok (.goto (-142), 3) := by decide +kernel
theorem dL_isWhole_184 : decode cL_isWhole 184 = .ok (.aload_n 0, 1) := by decide +kernel
theorem dL_isWhole_185 : decode cL_isWhole 185 = .ok (.invokevirtual 385, 3) := by decide +kernel
theorem dL_isWhole_188 : decode cL_isWhole 188 = .ok (.aload_n 0, 1) := by decide +kernel
theorem dL_isWhole_189 : decode cL_isWhole 189 = .ok (.invokestatic 222, 3) := by decide +kernel
theorem dL_isWhole_192 : decode cL_isWhole 192 = .ok (.ifCond .le 7, 3) := by decide +kernel
theorem dL_isWhole_195 : decode cL_isWhole 195 = .ok (.iconst 1, 1) := by decide +kernel
theorem dL_isWhole_196 : decode cL_isWhole 196 = .ok (.goto 4, 3) := by decide +kernel
theorem dL_isWhole_199 : decode cL_isWhole 199 = .ok (.iconst 0, 1) := by decide +kernel
theorem dL_isWhole_200 : decode cL_isWhole 200 = .ok (.if_icmp .ne 66, 3) := by decide +kernel
theorem dL_isWhole_203 : decode cL_isWhole 203 = .ok (.aload_n 0, 1) := by decide +kernel
theorem dL_isWhole_204 : decode cL_isWhole 204 = .ok (.invokevirtual 219, 3) := by decide +kernel
theorem dL_isWhole_207 : decode cL_isWhole 207 = .ok (.ifCond .eq 24, 3) := by decide +kernel
theorem dL_isWhole_210 : decode cL_isWhole 210 = .ok (.aload_n 0, 1) := by decide +kernel
theorem dL_isWhole_211 : decode cL_isWhole 211 = .ok (.invokevirtual 385, 3) := by decide +kernel
theorem dL_isWhole_214 : decode cL_isWhole 214 = .ok (.ifCond .eq 52, 3) := by decide +kernel
theorem dL_isWhole_217 : decode cL_isWhole 217 = .ok (.aload_n 0, 1) := by decide +kernel
theorem dL_isWhole_218 : decode cL_isWhole 218 = .ok (.invokevirtual 238, 3) := by decide +kernel
theorem dL_isWhole_221 : decode cL_isWhole 221 = .ok (.ifCond .le 45, 3) := by decide +kernel
theorem dL_isWhole_224 : decode cL_isWhole 224 = .ok (.aload_n 0, 1) := by decide +kernel
theorem dL_isWhole_225 : decode cL_isWhole 225 = .ok (.invokevirtual 213, 3) := by decide +kernel
theorem dL_isWhole_228 : decode cL_isWhole 228 = .ok (.ifCond .ne 38, 3) := by decide +kernel
theorem dL_isWhole_231 : decode cL_isWhole 231 = .ok (.aload_n 0, 1) := by decide +kernel
theorem dL_isWhole_232 : decode cL_isWhole 232 = .ok (.invokevirtual 213, 3) := by decide +kernel
theorem dL_isWhole_235 : decode cL_isWhole 235 = .ok (.bipush 6, 2) := by decide +kernel
theorem dL_isWhole_237 : decode cL_isWhole 237 = .ok (.if_icmp .gt 29, 3) := by decide +kernel
theorem dL_isWhole_240 : decode cL_isWhole 240 = .ok (.aload_n 0, 1) := by decide +kernel
theorem dL_isWhole_241 : decode cL_isWhole 241 = .ok (.invokevirtual 216, 3) := by decide +kernel
theorem dL_isWhole_244 : decode cL_isWhole 244 = .ok (.iconst 2, 1) := by decide +kernel
theorem dL_isWhole_245 : decode cL_isWhole 245 = .ok (.if_icmp .gt 21, 3) := by decide +kernel
theorem dL_isWhole_248 : decode cL_isWhole 248 = .ok (.aload_n 0, 1) := by decide +kernel
theorem dL_isWhole_249 : decode cL_isWhole 249 = .ok (.invokevirtual 385, 3) := by decide +kernel
theorem dL_isWhole_252 : decode cL_isWhole 252 = .ok (.ifCond .ne 10, 3) := by decide +kernel
theorem dL_isWhole_255 : decode cL_isWhole 255 = .ok (.aload_n 0, 1) := by decide +kernel
theorem dL_isWhole_256 : decode cL_isWhole 256 = .ok (.invokevirtual 210, 3) := by decide +kernel
theorem dL_isWhole_259 : decode cL_isWhole 259 = .ok (.ifCond .ne 7, 3) := by decide +kernel
theorem dL_isWhole_262 : decode cL_isWhole 262 = .ok (.iconst 1, 1) := by decide +kernel
theorem dL_isWhole_263 : decode cL_isWhole 263 = .ok (.goto 4, 3) := by decide +kernel
theorem dL_isWhole_266 : decode cL_isWhole 266 = .ok (.iconst 0, 1) := by decide +kernel
theorem dL_isWhole_267 : decode cL_isWhole 267 = .ok (.istore 7, 2) := by decide +kernel
theorem dL_isWhole_269 : decode cL_isWhole 269 = .ok (.iload 7, 2) := by decide +kernel
theorem dL_isWhole_271 : decode cL_isWhole 271 = .ok (.ifCond .eq 87, 3) := by decide +kernel
theorem dL_isWhole_274 : decode cL_isWhole 274 = .ok (.iload 5, 2) := by decide +kernel
theorem dL_isWhole_276 : decode cL_isWhole 276 = .ok (.aload_n 0, 1) := by decide +kernel
theorem dL_isWhole_277 : decode cL_isWhole 277 = .ok (.invokevirtual 232, 3) := by decide +kernel
theorem dL_isWhole_280 : decode cL_isWhole 280 = .ok (.if_icmp .ne 78, 3) := by decide +kernel
theorem dL_isWhole_283 : decode cL_isWhole 283 = .ok (.iload 6, 2) := by decide +kernel
theorem dL_isWhole_285 : decode cL_isWhole 285 = .ok (.bipush 12, 2) := by decide +kernel
theorem dL_isWhole_287 : decode cL_isWhole 287 = .ok (.if_icmp .gt 71, 3) := by decide +kernel
theorem dL_isWhole_290 : decode cL_isWhole 290 = .ok (.aload_n 0, 1) := by decide +kernel
theorem dL_isWhole_291 : decode cL_isWhole 291 = .ok (.iload 6, 2) := by decide +kernel
theorem dL_isWhole_293 : decode cL_isWhole 293 = .ok (.invokestatic 264, 3) := by decide +kernel
theorem dL_isWhole_296 : decode cL_isWhole 296 = .ok (.bipush (-75), 2) := by decide +kernel
theorem dL_isWhole_298 : decode cL_isWhole 298 = .ok (.if_icmp .ne 60, 3) := by decide +kernel
theorem dL_isWhole_301 : decode cL_isWhole 301 = .ok (.aload_n 0, 1) := by decide +kernel
theorem dL_isWhole_302 : decode cL_isWhole 302 = .ok (.invokevirtual 207, 3) := by decide +kernel
theorem dL_isWhole_305 : decode cL_isWhole 305 = .ok (.bipush 8, 2) := by decide +kernel
theorem dL_isWhole_307 : decode cL_isWhole 307 = .ok (.if_icmp .gt 51, 3) := by decide +kernel
theorem dL_isWhole_310 : decode cL_isWhole 310 = .ok (.aload_n 0, 1) := by decide +kernel
theorem dL_isWhole_311 : decode cL_isWhole 311 = .ok (.invokevirtual 279, 3) := by decide +kernel
theorem dL_isWhole_314 : decode cL_isWhole 314 = .ok (.iconst 3, 1) := by decide +kernel
theorem dL_isWhole_315 : decode cL_isWhole 315 = .ok (.if_icmp .gt 43, 3) := by decide +kernel
theorem dL_isWhole_318 : decode cL_isWhole 318 = .ok (.aload_n 0, 1) := by decide +kernel
theorem dL_isWhole_319 : decode cL_isWhole 319 = .ok (.aload_n 1, 1) := by decide +kernel
theorem dL_isWhole_320 : decode cL_isWhole 320 = .ok (.iload_n 2, 1) := by decide +kernel
theorem dL_isWhole_321 : decode cL_isWhole 321 = .ok (.iconst 1, 1) := by decide +kernel
theorem dL_isWhole_322 : decode cL_isWhole 322 = .ok (.iadd, 1) := by decide +kernel
theorem dL_isWhole_323 : decode cL_isWhole 323 = .ok (.bipush 97, 2) := by decide +kernel
theorem dL_isWhole_325 : decode cL_isWhole 325 = .ok (.invokestatic 203, 3) := by decide +kernel
theorem dL_isWhole_328 : decode cL_isWhole 328 = .ok (.iload_n 3, 1) := by decide +kernel
theorem dL_isWhole_329 : decode cL_isWhole 329 = .ok (.invokestatic 388, 3) := by decide +kernel
theorem dL_isWhole_332 : decode cL_isWhole 332 = .ok (.ifCond .eq 26, 3) := by decide +kernel
theorem dL_isWhole_335 : decode cL_isWhole 335 = .ok (.iload 4, 2) := by decide +kernel
theorem dL_isWhole_337 : decode cL_isWhole 337 = .ok (.ifCond .eq 17, 3) := by decide +kernel
theorem dL_isWhole_340 : decode cL_isWhole 340 = .ok (.aload_n 0, 1) := by decide +kernel
theorem dL_isWhole_341 : decode cL_isWhole 341 = .ok (.invokestatic 392, 3) := by decide +kernel
theorem dL_isWhole_344 : decode cL_isWhole 344 = .ok (.ifCond .eq 14, 3) := by decide +kernel
theorem dL_isWhole_347 : decode cL_isWhole 347 = .ok (.aload_n 0, 1) := by decide +kernel
theorem dL_isWhole_348 : decode cL_isWhole 348 = .ok (.invokevirtual 395, 3) := by decide +kernel
theorem dL_isWhole_351 : decode cL_isWhole 351 = .ok (.ifCond .eq 7, 3) := by decide +kernel
theorem dL_isWhole_354 : decode cL_isWhole 354 = .ok (.iconst 1, 1) := by decide +kernel
theorem dL_isWhole_355 : decode cL_isWhole 355 = .ok (.goto 4, 3) := by decide +kernel
theorem dL_isWhole_358 : decode cL_isWhole 358 = .ok (.iconst 0, 1) := by decide +kernel
theorem dL_isWhole_359 : decode cL_isWhole 359 = .ok (.ireturn, 1) := by decide +kernel
theorem dL_isKept_0 : decode cL_isKept 0 = .ok (.aload_n 0, 1) := by decide +kernel
theorem dL_isKept_1 : decode cL_isKept 1 = .ok (.invokevirtual 398, 3) := by decide +kernel
theorem dL_isKept_4 : decode cL_isKept 4 = .ok (.istore_n 3, 1) := by decide +kernel
theorem dL_isKept_5 : decode cL_isKept 5 = .ok (.bipush 8, 2) := by decide +kernel
theorem dL_isKept_7 : decode cL_isKept 7 = .ok (.iload_n 2, 1) := by decide +kernel
theorem dL_isKept_8 : decode cL_isKept 8 = .ok (.invokestatic 401, 3) := by decide +kernel
theorem dL_isKept_11 : decode cL_isKept 11 = .ok (.istore 4, 2) := by decide +kernel
theorem dL_isKept_13 : decode cL_isKept 13 = .ok (.aload_n 0, 1) := by decide +kernel
theorem dL_isKept_14 : decode cL_isKept 14 = .ok (.invokevirtual 200, 3) := by decide +kernel
theorem dL_isKept_17 : decode cL_isKept 17 = .ok (.iload 4, 2) := by decide +kernel
theorem dL_isKept_19 : decode cL_isKept 19 = .ok (.if_icmp .eq 5, 3) := by decide +kernel
theorem dL_isKept_22 : decode cL_isKept 22 = .ok (.iconst 0, 1) := by decide +kernel
theorem dL_isKept_23 : decode cL_isKept 23 = .ok (.ireturn, 1) := by decide +kernel
theorem dL_isKept_24 : decode cL_isKept 24 = .ok (.iload_n 2, 1) := by decide +kernel
theorem dL_isKept_25 : decode cL_isKept 25 = .ok (.iconst 1, 1) := by decide +kernel
theorem dL_isKept_26 : decode cL_isKept 26 = .ok (.isub, 1) := by decide +kernel
theorem dL_isKept_27 : decode cL_isKept 27 = .ok (.istore 5, 2) := by decide +kernel
theorem dL_isKept_29 : decode cL_isKept 29 = .ok (.iload 4, 2) := by decide +kernel
theorem dL_isKept_31 : decode cL_isKept 31 = .ok (.ifCond .le 35, 3) := by decide +kernel
theorem dL_isKept_34 : decode cL_isKept 34 = .ok (.iinc 4 (-1), 3) := by decide +kernel
theorem dL_isKept_37 : decode cL_isKept 37 = .ok (.aload_n 0, 1) := by decide +kernel
theorem dL_isKept_38 : decode cL_isKept 38 = .ok (.invokestatic 404, 3) := by decide +kernel
theorem dL_isKept_41 : decode cL_isKept 41 = .ok (.iload 4, 2) := by decide +kernel
theorem dL_isKept_43 : decode cL_isKept 43 = .ok (.if_icmp .ne 15, 3) := by decide +kernel
theorem dL_isKept_46 : decode cL_isKept 46 = .ok (.aload_n 0, 1) := by decide +kernel
theorem dL_isKept_47 : decode cL_isKept 47 = .ok (.invokestatic 196, 3) := by decide +kernel
theorem dL_isKept_50 : decode cL_isKept 50 = .ok (.aload_n 1, 1) := by decide +kernel
theorem dL_isKept_51 : decode cL_isKept 51 = .ok (.iload 5, 2) := by decide +kernel
theorem dL_isKept_53 : decode cL_isKept 53 = .ok (.laload, 1) := by decide +kernel
theorem dL_isKept_54 : decode cL_isKept 54 = .ok (.lcmp, 1) := by decide +kernel
theorem dL_isKept_55 : decode cL_isKept 55 = .ok (.ifCond .eq 5, 3) := by decide +kernel
theorem dL_isKept_58 : decode cL_isKept 58 = .ok (.iconst 0, 1) := by decide +kernel
theorem dL_isKept_59 : decode cL_isKept 59 = .ok (.ireturn, 1) := by decide +kernel
theorem dL_isKept_60 : decode cL_isKept 60 = .ok (.iinc 5 (-1), 3) := by decide +kernel
theorem dL_isKept_63 : decode cL_isKept 63 = .ok (.goto (-34), 3) := by decide +kernel
theorem dL_isKept_66 : decode cL_isKept 66 = .ok (.aload_n 0, 1) := by decide +kernel
theorem dL_isKept_67 : decode cL_isKept 67 = .ok (.invokestatic 404, 3) := by decide +kernel
theorem dL_isKept_70 : decode cL_isKept 70 = .ok (.bipush (-79), 2) := by decide +kernel
theorem dL_isKept_72 : decode cL_isKept 72 = .ok (.if_icmp .ne 35, 3) := by decide +kernel
theorem dL_isKept_75 : decode cL_isKept 75 = .ok (.aload_n 0, 1) := by decide +kernel
theorem dL_isKept_76 : decode cL_isKept 76 = .ok (.invokestatic 406, 3) := by decide +kernel
theorem dL_isKept_79 : decode cL_isKept 79 = .ok (.iload_n 3, 1) := by decide +kernel
theorem dL_isKept_80 : decode cL_isKept 80 = .ok (.if_icmp .ne 27, 3) := by decide +kernel
theorem dL_isKept_83 : decode cL_isKept 83 = .ok (.aload_n 0, 1) := by decide +kernel
theorem dL_isKept_84 : decode cL_isKept 84 = .ok (.invokestatic 196, 3) := by decide +kernel
theorem dL_isKept_87 : decode cL_isKept 87 = .ok (.aload_n 1, 1) := by decide +kernel
theorem dL_isKept_88 : decode cL_isKept 88 = .ok (.iload_n 2, 1) := by decide +kernel
theorem dL_isKept_89 : decode cL_isKept 89 = .ok (.laload, 1) := by decide +kernel
theorem dL_isKept_90 : decode cL_isKept 90 = .ok (.lcmp, 1) := by decide +kernel
theorem dL_isKept_91 : decode cL_isKept 91 = .ok (.ifCond .ne 16, 3) := by decide +kernel
theorem dL_isKept_94 : decode cL_isKept 94 = .ok (.aload_n 0, 1) := by decide +kernel
theorem dL_isKept_95 : decode cL_isKept 95 = .ok (.invokestatic 404, 3) := by decide +kernel
theorem dL_isKept_98 : decode cL_isKept 98 = .ok (.bipush (-79), 2) := by decide +kernel
theorem dL_isKept_100 : decode cL_isKept 100 = .ok (.if_icmp .ne 7, 3) := by decide +kernel
theorem dL_isKept_103 : decode cL_isKept 103 = .ok (.iconst 1, 1) := by decide +kernel
theorem dL_isKept_104 : decode cL_isKept 104 = .ok (.goto 4, 3) := by decide +kernel
theorem dL_isKept_107 : decode cL_isKept 107 = .ok (.iconst 0, 1) := by decide +kernel
theorem dL_isKept_108 : decode cL_isKept 108 = .ok (.ireturn, 1) := by decide +kernel

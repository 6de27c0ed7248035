theorem dX1_init_0 : decode cX1_init 0 = .ok (.aload_n 0, 1) := by decide +kernel
theorem dX1_init_1 : decode cX1_init 1 = .ok (.invokespecial 3, 3) := by decide +kernel
theorem dX1_init_4 : decode cX1_init 4 = .ok (.aload_n 0, 1) := by decide +kernel
theorem dX1_init_5 : decode cX1_init 5 = .ok (.bipush 8, 2) := by decide +kernel
theorem dX1_init_7 : decode cX1_init 7 = .ok (.newarray .int, 2) := by decide +kernel
theorem dX1_init_9 : decode cX1_init 9 = .ok (.putfield 9, 3) := by decide +kernel
theorem dX1_init_12 : decode cX1_init 12 = .ok (.aload_n 0, 1) := by decide +kernel
theorem dX1_init_13 : decode cX1_init 13 = .ok (.bipush 8, 2) := by decide +kernel
theorem dX1_init_15 : decode cX1_init 15 = .ok (.newarray .int, 2) := by decide +kernel
theorem dX1_init_17 : decode cX1_init 17 = .ok (.putfield 15, 3) := by decide +kernel
theorem dX1_init_20 : decode cX1_init 20 = .ok (.aload_n 0, 1) := by decide +kernel
theorem dX1_init_21 : decode cX1_init 21 = .ok (.iconst 3, 1) := by decide +kernel
theorem dX1_init_22 : decode cX1_init 22 = .ok (.newarray .int, 2) := by decide +kernel
theorem dX1_init_24 : decode cX1_init 24 = .ok (.putfield 18, 3) := by decide +kernel
theorem dX1_init_27 : decode cX1_init 27 = .ok (.aload_n 0, 1) := by decide +kernel
theorem dX1_init_28 : decode cX1_init 28 = .ok (.iconst 3, 1) := by decide +kernel
theorem dX1_init_29 : decode cX1_init 29 = .ok (.newarray .boolean, 2) := by decide +kernel
theorem dX1_init_31 : decode cX1_init 31 = .ok (.putfield 21, 3) := by decide +kernel
theorem dX1_init_34 : decode cX1_init 34 = .ok (.aload_n 0, 1) := by decide +kernel
theorem dX1_init_35 : decode cX1_init 35 = .ok (.iconst 3, 1) := by decide +kernel
theorem dX1_init_36 : decode cX1_init 36 = .ok (.newarray .int, 2) := by decide +kernel
theorem dX1_init_38 : decode cX1_init 38 = .ok (.putfield 25, 3) := by decide +kernel
theorem dX1_init_41 : decode cX1_init 41 = .ok (.return_, 1) := by decide +kernel
theorem dX1_copyFrom_0 : decode cX1_copyFrom 0 = .ok (.aload_n 0, 1) := by decide +kernel
theorem dX1_copyFrom_1 : decode cX1_copyFrom 1 = .ok (.aload_n 1, 1) := by decide +kernel
theorem dX1_copyFrom_2 : decode cX1_copyFrom 2 = .ok (.getfield 28, 3) := by decide +kernel
theorem dX1_copyFrom_5 : decode cX1_copyFrom 5 = .ok (.putfield 28, 3) := by decide +kernel
theorem dX1_copyFrom_8 : decode cX1_copyFrom 8 = .ok (.aload_n 1, 1) := by decide +kernel
theorem dX1_copyFrom_9 : decode cX1_copyFrom 9 = .ok (.getfield 9, 3) := by decide +kernel
theorem dX1_copyFrom_12 : decode cX1_copyFrom 12 = .ok (.iconst 0, 1) := by decide +kernel
theorem dX1_copyFrom_13 : decode cX1_copyFrom 13 = .ok (.aload_n 0, 1) := by decide +kernel
theorem dX1_copyFrom_14 : decode cX1_copyFrom 14 = .ok (.getfield 9, 3) := by decide +kernel
theorem dX1_copyFrom_17 : decode cX1_copyFrom 17 = .ok (.iconst 0, 1) := by decide +kernel
theorem dX1_copyFrom_18 : decode cX1_copyFrom 18 = .ok (.bipush 8, 2) := by decide +kernel
theorem dX1_copyFrom_20 : decode cX1_copyFrom 20 = .ok (.invokestatic 32, 3) := by decide +kernel
theorem dX1_copyFrom_23 : decode cX1_copyFrom 23 = .ok (.aload_n 1, 1) := by decide +kernel
theorem dX1_copyFrom_24 : decode cX1_copyFrom 24 = .ok (.getfield 15, 3) := by decide +kernel
theorem dX1_copyFrom_27 : decode cX1_copyFrom 27 = .ok (.iconst 0, 1) := by decide +kernel
theorem dX1_copyFrom_28 : decode cX1_copyFrom 28 = .ok (.aload_n 0, 1) := by decide +kernel
theorem dX1_copyFrom_29 : decode cX1_copyFrom 29 = .ok (.getfield 15, 3) := by decide +kernel
theorem dX1_copyFrom_32 : decode cX1_copyFrom 32 = .ok (.iconst 0, 1) := by decide +kernel
theorem dX1_copyFrom_33 : decode cX1_copyFrom 33 = .ok (.bipush 8, 2) := by decide +kernel
theorem dX1_copyFrom_35 : decode cX1_copyFrom 35 = .ok (.invokestatic 32, 3) := by decide +kernel
theorem dX1_copyFrom_38 : decode cX1_copyFrom 38 = .ok (.aload_n 0, 1) := by decide +kernel
theorem dX1_copyFrom_39 : decode cX1_copyFrom 39 = .ok (.aload_n 1, 1) := by decide +kernel
theorem dX1_copyFrom_40 : decode cX1_copyFrom 40 = .ok (.getfield 38, 3) := by decide +kernel
theorem dX1_copyFrom_43 : decode cX1_copyFrom 43 = .ok (.putfield 38, 3) := by decide +kernel
theorem dX1_copyFrom_46 : decode cX1_copyFrom 46 = .ok (.aload_n 0, 1) := by decide +kernel
theorem dX1_copyFrom_47 : decode cX1_copyFrom 47 = .ok (.aload_n 1, 1) := by decide +kernel
theorem dX1_copyFrom_48 : decode cX1_copyFrom 48 = .ok (.getfield 41, 3) := by decide +kernel
theorem dX1_copyFrom_51 : decode cX1_copyFrom 51 = .ok (.putfield 41, 3) := by decide +kernel
theorem dX1_copyFrom_54 : decode cX1_copyFrom 54 = .ok (.aload_n 1, 1) := by decide +kernel
theorem dX1_copyFrom_55 : decode cX1_copyFrom 55 = .ok (.getfield 18, 3) := by decide +kernel
theorem dX1_copyFrom_58 : decode cX1_copyFrom 58 = .ok (.iconst 0, 1) := by decide +kernel
theorem dX1_copyFrom_59 : decode cX1_copyFrom 59 = .ok (.aload_n 0, 1) := by decide +kernel
theorem dX1_copyFrom_60 : decode cX1_copyFrom 60 = .ok (.getfield 18, 3) := by decide +kernel
theorem dX1_copyFrom_63 : decode cX1_copyFrom 63 = .ok (.iconst 0, 1) := by decide +kernel
theorem dX1_copyFrom_64 : decode cX1_copyFrom 64 = .ok (.iconst 3, 1) := by decide +kernel
theorem dX1_copyFrom_65 : decode cX1_copyFrom 65 = .ok (.invokestatic 32, 3) := by decide +kernel
theorem dX1_copyFrom_68 : decode cX1_copyFrom 68 = .ok (.aload_n 1, 1) := by decide +kernel
theorem dX1_copyFrom_69 : decode cX1_copyFrom 69 = .ok (.getfield 25, 3) := by decide +kernel
theorem dX1_copyFrom_72 : decode cX1_copyFrom 72 = .ok (.iconst 0, 1) := by decide +kernel
theorem dX1_copyFrom_73 : decode cX1_copyFrom 73 = .ok (.aload_n 0, 1) := by decide +kernel
theorem dX1_copyFrom_74 : decode cX1_copyFrom 74 = .ok (.getfield 25, 3) := by decide +kernel
theorem dX1_copyFrom_77 : decode cX1_copyFrom 77 = .ok (.iconst 0, 1) := by decide +kernel
theorem dX1_copyFrom_78 : decode cX1_copyFrom 78 = .ok (.iconst 3, 1) := by decide +kernel
theorem dX1_copyFrom_79 : decode cX1_copyFrom 79 = .ok (.invokestatic 32, 3) := by decide +kernel
theorem dX1_copyFrom_82 : decode cX1_copyFrom 82 = .ok (.iconst 0, 1) := by decide +kernel
theorem dX1_copyFrom_83 : decode cX1_copyFrom 83 = .ok (.istore_n 2, 1) := by decide +kernel
theorem dX1_copyFrom_84 : decode cX1_copyFrom 84 = .ok (.iload_n 2, 1) := by decide +kernel
theorem dX1_copyFrom_85 : decode cX1_copyFrom 85 = .ok (.iconst 3, 1) := by decide +kernel
theorem dX1_copyFrom_86 : decode cX1_copyFrom 86 = .ok (.if_icmp .ge 21, 3) := by decide +kernel
theorem dX1_copyFrom_89 : decode cX1_copyFrom 89 = .ok (.aload_n 0, 1) := by decide +kernel
theorem dX1_copyFrom_90 : decode cX1_copyFrom 90 = .ok (.getfield 21, 3) := by decide +kernel
theorem dX1_copyFrom_93 : decode cX1_copyFrom 93 = .ok (.iload_n 2, 1) := by decide +kernel
theorem dX1_copyFrom_94 : decode cX1_copyFrom 94 = .ok (.aload_n 1, 1) := by decide +kernel
theorem dX1_copyFrom_95 : decode cX1_copyFrom 95 = .ok (.getfield 21, 3) := by decide +kernel
theorem dX1_copyFrom_98 : decode cX1_copyFrom 98 = .ok (.iload_n 2, 1) := by decide +kernel
theorem dX1_copyFrom_99 : decode cX1_copyFrom 99 = .ok (.baload, 1) := by decide +kernel
theorem dX1_copyFrom_100 : decode cX1_copyFrom 100 = .ok (.bastore, 1) := by decide +kernel
theorem dX1_copyFrom_101 : decode cX1_copyFrom 101 = .ok (.iinc 2 1, 3) := by decide +kernel
theorem dX1_copyFrom_104 : decode cX1_copyFrom 104 = .ok (.goto (-20), 3) := by decide +kernel
theorem dX1_copyFrom_107 : decode cX1_copyFrom 107 = .ok (.return_, 1) := by decide +kernel
theorem dX1_hasZone_0 : decode cX1_hasZone 0 = .ok (.iload_n 0, 1) := by decide +kernel
theorem dX1_hasZone_1 : decode cX1_hasZone 1 = .ok (.ifCond .lt 13, 3) := by decide +kernel
theorem dX1_hasZone_4 : decode cX1_hasZone 4 = .ok (.iload_n 0, 1) := by decide +kernel
theorem dX1_hasZone_5 : decode cX1_hasZone 5 = .ok (.bipush 8, 2) := by decide +kernel
theorem dX1_hasZone_7 : decode cX1_hasZone 7 = .ok (.if_icmp .ge 7, 3) := by decide +kernel
theorem dX1_hasZone_10 : decode cX1_hasZone 10 = .ok (.iconst 1, 1) := by decide +kernel
theorem dX1_hasZone_11 : decode cX1_hasZone 11 = .ok (.goto 4, 3) := by decide +kernel
theorem dX1_hasZone_14 : decode cX1_hasZone 14 = .ok (.iconst 0, 1) := by decide +kernel
theorem dX1_hasZone_15 : decode cX1_hasZone 15 = .ok (.ireturn, 1) := by decide +kernel
theorem dX1_sumOf_0 : decode cX1_sumOf 0 = .ok (.iconst 0, 1) := by decide +kernel
theorem dX1_sumOf_1 : decode cX1_sumOf 1 = .ok (.istore_n 1, 1) := by decide +kernel
theorem dX1_sumOf_2 : decode cX1_sumOf 2 = .ok (.aload_n 0, 1) := by decide +kernel
theorem dX1_sumOf_3 : decode cX1_sumOf 3 = .ok (.astore_n 2, 1) := by decide +kernel
theorem dX1_sumOf_4 : decode cX1_sumOf 4 = .ok (.aload_n 2, 1) := by decide +kernel
theorem dX1_sumOf_5 : decode cX1_sumOf 5 = .ok (.arraylength, 1) := by decide +kernel
theorem dX1_sumOf_6 : decode cX1_sumOf 6 = .ok (.istore_n 3, 1) := by decide +kernel
theorem dX1_sumOf_7 : decode cX1_sumOf 7 = .ok (.iconst 0, 1) := by decide +kernel
theorem dX1_sumOf_8 : decode cX1_sumOf 8 = .ok (.istore 4, 2) := by decide +kernel
theorem dX1_sumOf_10 : decode cX1_sumOf 10 = .ok (.iload 4, 2) := by decide +kernel
theorem dX1_sumOf_12 : decode cX1_sumOf 12 = .ok (.iload_n 3, 1) := by decide +kernel
theorem dX1_sumOf_13 : decode cX1_sumOf 13 = .ok (.if_icmp .ge 20, 3) := by decide +kernel
theorem dX1_sumOf_16 : decode cX1_sumOf 16 = .ok (.aload_n 2, 1) := by decide +kernel
theorem dX1_sumOf_17 : decode cX1_sumOf 17 = .ok (.iload 4, 2) := by decide +kernel
theorem dX1_sumOf_19 : decode cX1_sumOf 19 = .ok (.iaload, 1) := by decide +kernel
theorem dX1_sumOf_20 : decode cX1_sumOf 20 = .ok (.istore 5, 2) := by decide +kernel
theorem dX1_sumOf_22 : decode cX1_sumOf 22 = .ok (.iload_n 1, 1) := by decide +kernel
theorem dX1_sumOf_23 : decode cX1_sumOf 23 = .ok (.iload 5, 2) := by decide +kernel
theorem dX1_sumOf_25 : decode cX1_sumOf 25 = .ok (.iadd, 1) := by decide +kernel
theorem dX1_sumOf_26 : decode cX1_sumOf 26 = .ok (.istore_n 1, 1) := by decide +kernel
theorem dX1_sumOf_27 : decode cX1_sumOf 27 = .ok (.iinc 4 1, 3) := by decide +kernel
theorem dX1_sumOf_30 : decode cX1_sumOf 30 = .ok (.goto (-20), 3) := by decide +kernel
theorem dX1_sumOf_33 : decode cX1_sumOf 33 = .ok (.iload_n 1, 1) := by decide +kernel
theorem dX1_sumOf_34 : decode cX1_sumOf 34 = .ok (.ireturn, 1) := by decide +kernel
theorem dX1_hasGuard_0 : decode cX1_hasGuard 0 = .ok (.iload_n 1, 1) := by decide +kernel
theorem dX1_hasGuard_1 : decode cX1_hasGuard 1 = .ok (.ifCond .lt 15, 3) := by decide +kernel
theorem dX1_hasGuard_4 : decode cX1_hasGuard 4 = .ok (.iload_n 1, 1) := by decide +kernel
theorem dX1_hasGuard_5 : decode cX1_hasGuard 5 = .ok (.aload_n 0, 1) := by decide +kernel
theorem dX1_hasGuard_6 : decode cX1_hasGuard 6 = .ok (.getfield 41, 3) := by decide +kernel
theorem dX1_hasGuard_9 : decode cX1_hasGuard 9 = .ok (.if_icmp .ge 7, 3) := by decide +kernel
theorem dX1_hasGuard_12 : decode cX1_hasGuard 12 = .ok (.iconst 1, 1) := by decide +kernel
theorem dX1_hasGuard_13 : decode cX1_hasGuard 13 = .ok (.goto 4, 3) := by decide +kernel
theorem dX1_hasGuard_16 : decode cX1_hasGuard 16 = .ok (.iconst 0, 1) := by decide +kernel
theorem dX1_hasGuard_17 : decode cX1_hasGuard 17 = .ok (.ireturn, 1) := by decide +kernel
theorem dX1_hasGuardIn_0 : decode cX1_hasGuardIn 0 = .ok (.iconst 0, 1) := by decide +kernel
theorem dX1_hasGuardIn_1 : decode cX1_hasGuardIn 1 = .ok (.istore_n 2, 1) := by decide +kernel
theorem dX1_hasGuardIn_2 : decode cX1_hasGuardIn 2 = .ok (.iload_n 2, 1) := by decide +kernel
theorem dX1_hasGuardIn_3 : decode cX1_hasGuardIn 3 = .ok (.aload_n 0, 1) := by decide +kernel
theorem dX1_hasGuardIn_4 : decode cX1_hasGuardIn 4 = .ok (.getfield 41, 3) := by decide +kernel
theorem dX1_hasGuardIn_7 : decode cX1_hasGuardIn 7 = .ok (.if_icmp .ge 21, 3) := by decide +kernel
theorem dX1_hasGuardIn_10 : decode cX1_hasGuardIn 10 = .ok (.aload_n 0, 1) := by decide +kernel
theorem dX1_hasGuardIn_11 : decode cX1_hasGuardIn 11 = .ok (.getfield 18, 3) := by decide +kernel
theorem dX1_hasGuardIn_14 : decode cX1_hasGuardIn 14 = .ok (.iload_n 2, 1) := by decide +kernel
theorem dX1_hasGuardIn_15 : decode cX1_hasGuardIn 15 = .ok (.iaload, 1) := by decide +kernel
theorem dX1_hasGuardIn_16 : decode cX1_hasGuardIn 16 = .ok (.iload_n 1, 1) := by decide +kernel
theorem dX1_hasGuardIn_17 : decode cX1_hasGuardIn 17 = .ok (.if_icmp .ne 5, 3) := by decide +kernel
theorem dX1_hasGuardIn_20 : decode cX1_hasGuardIn 20 = .ok (.iconst 1, 1) := by decide +kernel
theorem dX1_hasGuardIn_21 : decode cX1_hasGuardIn 21 = .ok (.ireturn, 1) := by decide +kernel
theorem dX1_hasGuardIn_22 : decode cX1_hasGuardIn 22 = .ok (.iinc 2 1, 3) := by decide +kernel
theorem dX1_hasGuardIn_25 : decode cX1_hasGuardIn 25 = .ok (.goto (-23), 3) := by decide +kernel
theorem dX1_hasGuardIn_28 : decode cX1_hasGuardIn 28 = .ok (.iconst 0, 1) := by decide +kernel
theorem dX1_hasGuardIn_29 : decode cX1_hasGuardIn 29 = .ok (.ireturn, 1) := by decide +kernel
theorem dX1_hasGuardBeside_0 : decode cX1_hasGuardBeside 0 = .ok (.aload_n 0, 1) := by decide +kernel
theorem dX1_hasGuardBeside_1 : decode cX1_hasGuardBeside 1 = .ok (.iload_n 1, 1) := by decide +kernel
theorem dX1_hasGuardBeside_2 : decode cX1_hasGuardBeside 2 = .ok (.iconst 1, 1) := by decide +kernel
theorem dX1_hasGuardBeside_3 : decode cX1_hasGuardBeside 3 = .ok (.iadd, 1) := by decide +kernel
theorem dX1_hasGuardBeside_4 : decode cX1_hasGuardBeside 4 = .ok (.bipush 8, 2) := by decide +kernel
theorem dX1_hasGuardBeside_6 : decode cX1_hasGuardBeside 6 = .ok (.irem, 1) := by decide +kernel
theorem dX1_hasGuardBeside_7 : decode cX1_hasGuardBeside 7 = .ok (.invokevirtual 44, 3) := by decide +kernel
theorem dX1_hasGuardBeside_10 : decode cX1_hasGuardBeside 10 = .ok (.ifCond .ne 19, 3) := by decide +kernel
theorem dX1_hasGuardBeside_13 : decode cX1_hasGuardBeside 13 = .ok (.aload_n 0, 1) := by decide +kernel
theorem dX1_hasGuardBeside_14 : decode cX1_hasGuardBeside 14 = .ok (.iload_n 1, 1) := by decide +kernel
theorem dX1_hasGuardBeside_15 : decode cX1_hasGuardBeside 15 = .ok (.bipush 8, 2) := by decide +kernel
theorem dX1_hasGuardBeside_17 : decode cX1_hasGuardBeside 17 = .ok (.iadd, 1) := by decide +kernel
theorem dX1_hasGuardBeside_18 : decode cX1_hasGuardBeside 18 = .ok (.iconst 1, 1) := by decide +kernel
theorem dX1_hasGuardBeside_19 : decode cX1_hasGuardBeside 19 = .ok (.isub, 1) := by decide +kernel
theorem dX1_hasGuardBeside_20 : decode cX1_hasGuardBeside 20 = .ok (.bipush 8, 2) := by decide +kernel
theorem dX1_hasGuardBeside_22 : decode cX1_hasGuardBeside 22 = .ok (.irem, 1) := by decide +kernel
theorem dX1_hasGuardBeside_23 : decode cX1_hasGuardBeside 23 = .ok (.invokevirtual 44, 3) := by decide +kernel
theorem dX1_hasGuardBeside_26 : decode cX1_hasGuardBeside 26 = .ok (.ifCond .eq 7, 3) := by decide +kernel
theorem dX1_hasGuardBeside_29 : decode cX1_hasGuardBeside 29 = .ok (.iconst 1, 1) := by decide +kernel
theorem dX1_hasGuardBeside_30 : decode cX1_hasGuardBeside 30 = .ok (.goto 4, 3) := by decide +kernel
theorem dX1_hasGuardBeside_33 : decode cX1_hasGuardBeside 33 = .ok (.iconst 0, 1) := by decide +kernel
theorem dX1_hasGuardBeside_34 : decode cX1_hasGuardBeside 34 = .ok (.ireturn, 1) := by decide +kernel
theorem dX1_placeGuard_0 : decode cX1_placeGuard 0 = .ok (.aload_n 0, 1) := by decide +kernel
theorem dX1_placeGuard_1 : decode cX1_placeGuard 1 = .ok (.getfield 41, 3) := by decide +kernel
theorem dX1_placeGuard_4 : decode cX1_placeGuard 4 = .ok (.istore 4, 2) := by decide +kernel
theorem dX1_placeGuard_6 : decode cX1_placeGuard 6 = .ok (.aload_n 0, 1) := by decide +kernel
theorem dX1_placeGuard_7 : decode cX1_placeGuard 7 = .ok (.dup, 1) := by decide +kernel
theorem dX1_placeGuard_8 : decode cX1_placeGuard 8 = .ok (.getfield 41, 3) := by decide +kernel
theorem dX1_placeGuard_11 : decode cX1_placeGuard 11 = .ok (.iconst 1, 1) := by decide +kernel
theorem dX1_placeGuard_12 : decode cX1_placeGuard 12 = .ok (.iadd, 1) := by decide +kernel
theorem dX1_placeGuard_13 : decode cX1_placeGuard 13 = .ok (.putfield 41, 3) := by decide +kernel
theorem dX1_placeGuard_16 : decode cX1_placeGuard 16 = .ok (.aload_n 0, 1) := by decide +kernel
theorem dX1_placeGuard_17 : decode cX1_placeGuard 17 = .ok (.getfield 18, 3) := by decide +kernel
theorem dX1_placeGuard_20 : decode cX1_placeGuard 20 = .ok (.iload 4, 2) := by decide +kernel
theorem dX1_placeGuard_22 : decode cX1_placeGuard 22 = .ok (.iload_n 1, 1) := by decide +kernel
theorem dX1_placeGuard_23 : decode cX1_placeGuard 23 = .ok (.iastore, 1) := by decide +kernel
theorem dX1_placeGuard_24 : decode cX1_placeGuard 24 = .ok (.aload_n 0, 1) := by decide +kernel
theorem dX1_placeGuard_25 : decode cX1_placeGuard 25 = .ok (.getfield 21, 3) := by decide +kernel
theorem dX1_placeGuard_28 : decode cX1_placeGuard 28 = .ok (.iload 4, 2) := by decide +kernel
theorem dX1_placeGuard_30 : decode cX1_placeGuard 30 = .ok (.iload_n 2, 1) := by decide +kernel
theorem dX1_placeGuard_31 : decode cX1_placeGuard 31 = .ok (.bastore, 1) := by decide +kernel
theorem dX1_placeGuard_32 : decode cX1_placeGuard 32 = .ok (.aload_n 0, 1) := by decide +kernel
theorem dX1_placeGuard_33 : decode cX1_placeGuard 33 = .ok (.getfield 25, 3) := by decide +kernel
theorem dX1_placeGuard_36 : decode cX1_placeGuard 36 = .ok (.iload 4, 2) := by decide +kernel
theorem dX1_placeGuard_38 : decode cX1_placeGuard 38 = .ok (.iload_n 3, 1) := by decide +kernel
theorem dX1_placeGuard_39 : decode cX1_placeGuard 39 = .ok (.iastore, 1) := by decide +kernel
theorem dX1_placeGuard_40 : decode cX1_placeGuard 40 = .ok (.iload 4, 2) := by decide +kernel
theorem dX1_placeGuard_42 : decode cX1_placeGuard 42 = .ok (.ireturn, 1) := by decide +kernel
theorem dX1_beginHour_0 : decode cX1_beginHour 0 = .ok (.aload_n 0, 1) := by decide +kernel
theorem dX1_beginHour_1 : decode cX1_beginHour 1 = .ok (.dup, 1) := by decide +kernel
theorem dX1_beginHour_2 : decode cX1_beginHour 2 = .ok (.getfield 28, 3) := by decide +kernel
theorem dX1_beginHour_5 : decode cX1_beginHour 5 = .ok (.iconst 1, 1) := by decide +kernel
theorem dX1_beginHour_6 : decode cX1_beginHour 6 = .ok (.iadd, 1) := by decide +kernel
theorem dX1_beginHour_7 : decode cX1_beginHour 7 = .ok (.putfield 28, 3) := by decide +kernel
theorem dX1_beginHour_10 : decode cX1_beginHour 10 = .ok (.iconst 0, 1) := by decide +kernel
theorem dX1_beginHour_11 : decode cX1_beginHour 11 = .ok (.istore_n 1, 1) := by decide +kernel
theorem dX1_beginHour_12 : decode cX1_beginHour 12 = .ok (.iload_n 1, 1) := by decide +kernel
theorem dX1_beginHour_13 : decode cX1_beginHour 13 = .ok (.aload_n 0, 1) := by decide +kernel
theorem dX1_beginHour_14 : decode cX1_beginHour 14 = .ok (.getfield 41, 3) := by decide +kernel
theorem dX1_beginHour_17 : decode cX1_beginHour 17 = .ok (.if_icmp .ge 56, 3) := by decide +kernel
theorem dX1_beginHour_20 : decode cX1_beginHour 20 = .ok (.aload_n 0, 1) := by decide +kernel
theorem dX1_beginHour_21 : decode cX1_beginHour 21 = .ok (.getfield 28, 3) := by decide +kernel
theorem dX1_beginHour_24 : decode cX1_beginHour 24 = .ok (.aload_n 0, 1) := by decide +kernel
theorem dX1_beginHour_25 : decode cX1_beginHour 25 = .ok (.getfield 25, 3) := by decide +kernel
theorem dX1_beginHour_28 : decode cX1_beginHour 28 = .ok (.iload_n 1, 1) := by decide +kernel
theorem dX1_beginHour_29 : decode cX1_beginHour 29 = .ok (.iaload, 1) := by decide +kernel
theorem dX1_beginHour_30 : decode cX1_beginHour 30 = .ok (.irem, 1) := by decide +kernel
theorem dX1_beginHour_31 : decode cX1_beginHour 31 = .ok (.ifCond .ne 36, 3) := by decide +kernel
theorem dX1_beginHour_34 : decode cX1_beginHour 34 = .ok (.aload_n 0, 1) := by decide +kernel
theorem dX1_beginHour_35 : decode cX1_beginHour 35 = .ok (.getfield 21, 3) := by decide +kernel
theorem dX1_beginHour_38 : decode cX1_beginHour 38 = .ok (.iload_n 1, 1) := by decide +kernel
theorem dX1_beginHour_39 : decode cX1_beginHour 39 = .ok (.baload, 1) := by decide +kernel
theorem dX1_beginHour_40 : decode cX1_beginHour 40 = .ok (.ifCond .eq 7, 3) := by decide +kernel
theorem dX1_beginHour_43 : decode cX1_beginHour 43 = .ok (.iconst 1, 1) := by decide +kernel
theorem dX1_beginHour_44 : decode cX1_beginHour 44 = .ok (.goto 5, 3) := by decide +kernel
theorem dX1_beginHour_47 : decode cX1_beginHour 47 = .ok (.bipush 7, 2) := by decide +kernel
theorem dX1_beginHour_49 : decode cX1_beginHour 49 = .ok (.istore_n 2, 1) := by decide +kernel
theorem dX1_beginHour_50 : decode cX1_beginHour 50 = .ok (.aload_n 0, 1) := by decide +kernel
theorem dX1_beginHour_51 : decode cX1_beginHour 51 = .ok (.getfield 18, 3) := by decide +kernel
theorem dX1_beginHour_54 : decode cX1_beginHour 54 = .ok (.iload_n 1, 1) := by decide +kernel
theorem dX1_beginHour_55 : decode cX1_beginHour 55 = .ok (.aload_n 0, 1) := by decide +kernel
theorem dX1_beginHour_56 : decode cX1_beginHour 56 = .ok (.getfield 18, 3) := by decide +kernel
theorem dX1_beginHour_59 : decode cX1_beginHour 59 = .ok (.iload_n 1, 1) := by decide +kernel
theorem dX1_beginHour_60 : decode cX1_beginHour 60 = .ok (.iaload, 1) := by decide +kernel
theorem dX1_beginHour_61 : decode cX1_beginHour 61 = .ok (.iload_n 2, 1) := by decide +kernel
theorem dX1_beginHour_62 : decode cX1_beginHour 62 = .ok (.iadd, 1) := by decide +kernel
theorem dX1_beginHour_63 : decode cX1_beginHour 63 = .ok (.bipush 8, 2) := by decide +kernel
theorem dX1_beginHour_65 : decode cX1_beginHour 65 = .ok (.irem, 1) := by decide +kernel
theorem dX1_beginHour_66 : decode cX1_beginHour 66 = .ok (.iastore, 1) := by decide +kernel
theorem dX1_beginHour_67 : decode cX1_beginHour 67 = .ok (.iinc 1 1, 3) := by decide +kernel
theorem dX1_beginHour_70 : decode cX1_beginHour 70 = .ok (.goto (-58), 3) := by decide +kernel
theorem dX1_beginHour_73 : decode cX1_beginHour 73 = .ok (.return_, 1) := by decide +kernel
theorem dX1_passOneHour_0 : decode cX1_passOneHour 0 = .ok (.aload_n 0, 1) := by decide +kernel
theorem dX1_passOneHour_1 : decode cX1_passOneHour 1 = .ok (.invokevirtual 48, 3) := by decide +kernel
theorem dX1_passOneHour_4 : decode cX1_passOneHour 4 = .ok (.iconst 0, 1) := by decide +kernel
theorem dX1_passOneHour_5 : decode cX1_passOneHour 5 = .ok (.istore_n 1, 1) := by decide +kernel
theorem dX1_passOneHour_6 : decode cX1_passOneHour 6 = .ok (.iconst 0, 1) := by decide +kernel
theorem dX1_passOneHour_7 : decode cX1_passOneHour 7 = .ok (.istore_n 2, 1) := by decide +kernel
theorem dX1_passOneHour_8 : decode cX1_passOneHour 8 = .ok (.iload_n 2, 1) := by decide +kernel
theorem dX1_passOneHour_9 : decode cX1_passOneHour 9 = .ok (.bipush 8, 2) := by decide +kernel
theorem dX1_passOneHour_11 : decode cX1_passOneHour 11 = .ok (.if_icmp .ge 100, 3) := by decide +kernel
theorem dX1_passOneHour_14 : decode cX1_passOneHour 14 = .ok (.aload_n 0, 1) := by decide +kernel
theorem dX1_passOneHour_15 : decode cX1_passOneHour 15 = .ok (.iload_n 2, 1) := by decide +kernel
theorem dX1_passOneHour_16 : decode cX1_passOneHour 16 = .ok (.invokevirtual 44, 3) := by decide +kernel
theorem dX1_passOneHour_19 : decode cX1_passOneHour 19 = .ok (.ifCond .eq 13, 3) := by decide +kernel
theorem dX1_passOneHour_22 : decode cX1_passOneHour 22 = .ok (.aload_n 0, 1) := by decide +kernel
theorem dX1_passOneHour_23 : decode cX1_passOneHour 23 = .ok (.getfield 9, 3) := by decide +kernel
theorem dX1_passOneHour_26 : decode cX1_passOneHour 26 = .ok (.iload_n 2, 1) := by decide +kernel
theorem dX1_passOneHour_27 : decode cX1_passOneHour 27 = .ok (.iconst 0, 1) := by decide +kernel
theorem dX1_passOneHour_28 : decode cX1_passOneHour 28 = .ok (.iastore, 1) := by decide +kernel
theorem dX1_passOneHour_29 : decode cX1_passOneHour 29 = .ok (.goto 76, 3) := by decide +kernel
theorem dX1_passOneHour_32 : decode cX1_passOneHour 32 = .ok (.aload_n 0, 1) := by decide +kernel
theorem dX1_passOneHour_33 : decode cX1_passOneHour 33 = .ok (.getfield 9, 3) := by decide +kernel
theorem dX1_passOneHour_36 : decode cX1_passOneHour 36 = .ok (.iload_n 2, 1) := by decide +kernel
theorem dX1_passOneHour_37 : decode cX1_passOneHour 37 = .ok (.iaload, 1) := by decide +kernel
theorem dX1_passOneHour_38 : decode cX1_passOneHour 38 = .ok (.iconst 5, 1) := by decide +kernel
theorem dX1_passOneHour_39 : decode cX1_passOneHour 39 = .ok (.if_icmp .lt 47, 3) := by decide +kernel
theorem dX1_passOneHour_42 : decode cX1_passOneHour 42 = .ok (.aload_n 0, 1) := by decide +kernel
theorem dX1_passOneHour_43 : decode cX1_passOneHour 43 = .ok (.iload_n 2, 1) := by decide +kernel
theorem dX1_passOneHour_44 : decode cX1_passOneHour 44 = .ok (.invokevirtual 51, 3) := by decide +kernel
theorem dX1_passOneHour_47 : decode cX1_passOneHour 47 = .ok (.ifCond .ne 39, 3) := by decide +kernel
theorem dX1_passOneHour_50 : decode cX1_passOneHour 50 = .ok (.aload_n 0, 1) := by decide +kernel
theorem dX1_passOneHour_51 : decode cX1_passOneHour 51 = .ok (.getfield 9, 3) := by decide +kernel
theorem dX1_passOneHour_54 : decode cX1_passOneHour 54 = .ok (.iload_n 2, 1) := by decide +kernel
theorem dX1_passOneHour_55 : decode cX1_passOneHour 55 = .ok (.iconst 0, 1) := by decide +kernel
theorem dX1_passOneHour_56 : decode cX1_passOneHour 56 = .ok (.iastore, 1) := by decide +kernel
theorem dX1_passOneHour_57 : decode cX1_passOneHour 57 = .ok (.aload_n 0, 1) := by decide +kernel
theorem dX1_passOneHour_58 : decode cX1_passOneHour 58 = .ok (.getfield 15, 3) := by decide +kernel
theorem dX1_passOneHour_61 : decode cX1_passOneHour 61 = .ok (.iload_n 2, 1) := by decide +kernel
theorem dX1_passOneHour_62 : decode cX1_passOneHour 62 = .ok (.dup2, 1) := by decide +kernel
theorem dX1_passOneHour_63 : decode cX1_passOneHour 63 = .ok (.iaload, 1) := by decide +kernel
theorem dX1_passOneHour_64 : decode cX1_passOneHour 64 = .ok (.iconst 1, 1) := by decide +kernel
theorem dX1_passOneHour_65 : decode cX1_passOneHour 65 = .ok (.iadd, 1) := by decide +kernel
theorem dX1_passOneHour_66 : decode cX1_passOneHour 66 = .ok (.iastore, 1) := by decide +kernel
theorem dX1_passOneHour_67 : decode cX1_passOneHour 67 = .ok (.aload_n 0, 1) := by decide +kernel
theorem dX1_passOneHour_68 : decode cX1_passOneHour 68 = .ok (.dup, 1) := by decide +kernel
theorem dX1_passOneHour_69 : decode cX1_passOneHour 69 = .ok (.getfield 38, 3) := by decide +kernel
theorem dX1_passOneHour_72 : decode cX1_passOneHour 72 = .ok (.iconst 1, 1) := by decide +kernel
theorem dX1_passOneHour_73 : decode cX1_passOneHour 73 = .ok (.iadd, 1) := by decide +kernel
theorem dX1_passOneHour_74 : decode cX1_passOneHour 74 = .ok (.putfield 38, 3) := by decide +kernel
theorem dX1_passOneHour_77 : decode cX1_passOneHour 77 = .ok (.iload_n 1, 1) := by decide +kernel
theorem dX1_passOneHour_78 : decode cX1_passOneHour 78 = .ok (.iconst 1, 1) := by decide +kernel
theorem dX1_passOneHour_79 : decode cX1_passOneHour 79 = .ok (.iload_n 2, 1) := by decide +kernel
theorem dX1_passOneHour_80 : decode cX1_passOneHour 80 = .ok (.ishl, 1) := by decide +kernel
theorem dX1_passOneHour_81 : decode cX1_passOneHour 81 = .ok (.ior, 1) := by decide +kernel
theorem dX1_passOneHour_82 : decode cX1_passOneHour 82 = .ok (.istore_n 1, 1) := by decide +kernel
theorem dX1_passOneHour_83 : decode cX1_passOneHour 83 = .ok (.goto 22, 3) := by decide +kernel
theorem dX1_passOneHour_86 : decode cX1_passOneHour 86 = .ok (.aload_n 0, 1) := by decide +kernel
theorem dX1_passOneHour_87 : decode cX1_passOneHour 87 = .ok (.getfield 9, 3) := by decide +kernel
theorem dX1_passOneHour_90 : decode cX1_passOneHour 90 = .ok (.iload_n 2, 1) := by decide +kernel
theorem dX1_passOneHour_91 : decode cX1_passOneHour 91 = .ok (.iaload, 1) := by decide +kernel
theorem dX1_passOneHour_92 : decode cX1_passOneHour 92 = .ok (.ifCond .le 13, 3) := by decide +kernel
theorem dX1_passOneHour_95 : decode cX1_passOneHour 95 = .ok (.aload_n 0, 1) := by decide +kernel
theorem dX1_passOneHour_96 : decode cX1_passOneHour 96 = .ok (.getfield 9, 3) := by decide +kernel
theorem dX1_passOneHour_99 : decode cX1_passOneHour 99 = .ok (.iload_n 2, 1) := by decide +kernel
theorem dX1_passOneHour_100 : decode cX1_passOneHour 100 = .ok (.dup2, 1) := by decide +kernel
theorem dX1_passOneHour_101 : decode cX1_passOneHour 101 = .ok (.iaload, 1) := by decide +kernel
theorem dX1_passOneHour_102 : decode cX1_passOneHour 102 = .ok (.iconst 1, 1) := by decide +kernel
theorem dX1_passOneHour_103 : decode cX1_passOneHour 103 = .ok (.isub, 1) := by decide +kernel
theorem dX1_passOneHour_104 : decode cX1_passOneHour 104 = .ok (.iastore, 1) := by decide +kernel
theorem dX1_passOneHour_105 : decode cX1_passOneHour 105 = .ok (.iinc 2 1, 3) := by decide +kernel
theorem dX1_passOneHour_108 : decode cX1_passOneHour 108 = .ok (.goto (-100), 3) := by decide +kernel
theorem dX1_passOneHour_111 : decode cX1_passOneHour 111 = .ok (.iload_n 1, 1) := by decide +kernel
theorem dX1_passOneHour_112 : decode cX1_passOneHour 112 = .ok (.ireturn, 1) := by decide +kernel
theorem dX1_visitByRemainders_0 : decode cX1_visitByRemainders 0 = .ok (.bipush 32, 2) := by decide +kernel
theorem dX1_visitByRemainders_2 : decode cX1_visitByRemainders 2 = .ok (.istore_n 2, 1) := by decide +kernel
theorem dX1_visitByRemainders_3 : decode cX1_visitByRemainders 3 = .ok (.iconst 0, 1) := by decide +kernel
theorem dX1_visitByRemainders_4 : decode cX1_visitByRemainders 4 = .ok (.istore_n 3, 1) := by decide +kernel
theorem dX1_visitByRemainders_5 : decode cX1_visitByRemainders 5 = .ok (.iload_n 3, 1) := by decide +kernel
theorem dX1_visitByRemainders_6 : decode cX1_visitByRemainders 6 = .ok (.aload_n 0, 1) := by decide +kernel
theorem dX1_visitByRemainders_7 : decode cX1_visitByRemainders 7 = .ok (.getfield 41, 3) := by decide +kernel
theorem dX1_visitByRemainders_10 : decode cX1_visitByRemainders 10 = .ok (.if_icmp .ge 20, 3) := by decide +kernel
theorem dX1_visitByRemainders_13 : decode cX1_visitByRemainders 13 = .ok (.iload_n 2, 1) := by decide +kernel
theorem dX1_visitByRemainders_14 : decode cX1_visitByRemainders 14 = .ok (.aload_n 0, 1) := by decide +kernel
theorem dX1_visitByRemainders_15 : decode cX1_visitByRemainders 15 = .ok (.iload_n 3, 1) := by decide +kernel
theorem dX1_visitByRemainders_16 : decode cX1_visitByRemainders 16 = .ok (.iload_n 1, 1) := by decide +kernel
theorem dX1_visitByRemainders_17 : decode cX1_visitByRemainders 17 = .ok (.invokevirtual 54, 3) := by decide +kernel
theorem dX1_visitByRemainders_20 : decode cX1_visitByRemainders 20 = .ok (.invokestatic 58, 3) := by decide +kernel
theorem dX1_visitByRemainders_23 : decode cX1_visitByRemainders 23 = .ok (.istore_n 2, 1) := by decide +kernel
theorem dX1_visitByRemainders_24 : decode cX1_visitByRemainders 24 = .ok (.iinc 3 1, 3) := by decide +kernel
theorem dX1_visitByRemainders_27 : decode cX1_visitByRemainders 27 = .ok (.goto (-22), 3) := by decide +kernel
theorem dX1_visitByRemainders_30 : decode cX1_visitByRemainders 30 = .ok (.iload_n 2, 1) := by decide +kernel
theorem dX1_visitByRemainders_31 : decode cX1_visitByRemainders 31 = .ok (.ireturn, 1) := by decide +kernel
theorem dX1_visitOf_0 : decode cX1_visitOf 0 = .ok (.aload_n 0, 1) := by decide +kernel
theorem dX1_visitOf_1 : decode cX1_visitOf 1 = .ok (.getfield 21, 3) := by decide +kernel
theorem dX1_visitOf_4 : decode cX1_visitOf 4 = .ok (.iload_n 1, 1) := by decide +kernel
theorem dX1_visitOf_5 : decode cX1_visitOf 5 = .ok (.baload, 1) := by decide +kernel
theorem dX1_visitOf_6 : decode cX1_visitOf 6 = .ok (.ifCond .eq 14, 3) := by decide +kernel
theorem dX1_visitOf_9 : decode cX1_visitOf 9 = .ok (.iload_n 2, 1) := by decide +kernel
theorem dX1_visitOf_10 : decode cX1_visitOf 10 = .ok (.aload_n 0, 1) := by decide +kernel
theorem dX1_visitOf_11 : decode cX1_visitOf 11 = .ok (.getfield 18, 3) := by decide +kernel
theorem dX1_visitOf_14 : decode cX1_visitOf 14 = .ok (.iload_n 1, 1) := by decide +kernel
theorem dX1_visitOf_15 : decode cX1_visitOf 15 = .ok (.iaload, 1) := by decide +kernel
theorem dX1_visitOf_16 : decode cX1_visitOf 16 = .ok (.isub, 1) := by decide +kernel
theorem dX1_visitOf_17 : decode cX1_visitOf 17 = .ok (.goto 11, 3) := by decide +kernel
theorem dX1_visitOf_20 : decode cX1_visitOf 20 = .ok (.aload_n 0, 1) := by decide +kernel
theorem dX1_visitOf_21 : decode cX1_visitOf 21 = .ok (.getfield 18, 3) := by decide +kernel
theorem dX1_visitOf_24 : decode cX1_visitOf 24 = .ok (.iload_n 1, 1) := by decide +kernel
theorem dX1_visitOf_25 : decode cX1_visitOf 25 = .ok (.iaload, 1) := by decide +kernel
theorem dX1_visitOf_26 : decode cX1_visitOf 26 = .ok (.iload_n 2, 1) := by decide +kernel
theorem dX1_visitOf_27 : decode cX1_visitOf 27 = .ok (.isub, 1) := by decide +kernel
theorem dX1_visitOf_28 : decode cX1_visitOf 28 = .ok (.istore_n 3, 1) := by decide +kernel
theorem dX1_visitOf_29 : decode cX1_visitOf 29 = .ok (.iload_n 3, 1) := by decide +kernel
theorem dX1_visitOf_30 : decode cX1_visitOf 30 = .ok (.bipush 8, 2) := by decide +kernel
theorem dX1_visitOf_32 : decode cX1_visitOf 32 = .ok (.invokestatic 63, 3) := by decide +kernel
theorem dX1_visitOf_35 : decode cX1_visitOf 35 = .ok (.istore 4, 2) := by decide +kernel
theorem dX1_visitOf_37 : decode cX1_visitOf 37 = .ok (.iload 4, 2) := by decide +kernel
theorem dX1_visitOf_39 : decode cX1_visitOf 39 = .ok (.ifCond .ne 7, 3) := by decide +kernel
theorem dX1_visitOf_42 : decode cX1_visitOf 42 = .ok (.iconst 0, 1) := by decide +kernel
theorem dX1_visitOf_43 : decode cX1_visitOf 43 = .ok (.goto 24, 3) := by decide +kernel
theorem dX1_visitOf_46 : decode cX1_visitOf 46 = .ok (.iload 4, 2) := by decide +kernel
theorem dX1_visitOf_48 : decode cX1_visitOf 48 = .ok (.aload_n 0, 1) := by decide +kernel
theorem dX1_visitOf_49 : decode cX1_visitOf 49 = .ok (.getfield 25, 3) := by decide +kernel
theorem dX1_visitOf_52 : decode cX1_visitOf 52 = .ok (.iload_n 1, 1) := by decide +kernel
theorem dX1_visitOf_53 : decode cX1_visitOf 53 = .ok (.iaload, 1) := by decide +kernel
theorem dX1_visitOf_54 : decode cX1_visitOf 54 = .ok (.imul, 1) := by decide +kernel
theorem dX1_visitOf_55 : decode cX1_visitOf 55 = .ok (.aload_n 0, 1) := by decide +kernel
theorem dX1_visitOf_56 : decode cX1_visitOf 56 = .ok (.getfield 28, 3) := by decide +kernel
theorem dX1_visitOf_59 : decode cX1_visitOf 59 = .ok (.aload_n 0, 1) := by decide +kernel
theorem dX1_visitOf_60 : decode cX1_visitOf 60 = .ok (.getfield 25, 3) := by decide +kernel
theorem dX1_visitOf_63 : decode cX1_visitOf 63 = .ok (.iload_n 1, 1) := by decide +kernel
theorem dX1_visitOf_64 : decode cX1_visitOf 64 = .ok (.iaload, 1) := by decide +kernel
theorem dX1_visitOf_65 : decode cX1_visitOf 65 = .ok (.irem, 1) := by decide +kernel
theorem dX1_visitOf_66 : decode cX1_visitOf 66 = .ok (.isub, 1) := by decide +kernel
theorem dX1_visitOf_67 : decode cX1_visitOf 67 = .ok (.ireturn, 1) := by decide +kernel
theorem dX1_zoneAtRank_0 : decode cX1_zoneAtRank 0 = .ok (.iconst 0, 1) := by decide +kernel
theorem dX1_zoneAtRank_1 : decode cX1_zoneAtRank 1 = .ok (.istore_n 2, 1) := by decide +kernel
theorem dX1_zoneAtRank_2 : decode cX1_zoneAtRank 2 = .ok (.iload_n 2, 1) := by decide +kernel
theorem dX1_zoneAtRank_3 : decode cX1_zoneAtRank 3 = .ok (.bipush 8, 2) := by decide +kernel
theorem dX1_zoneAtRank_5 : decode cX1_zoneAtRank 5 = .ok (.if_icmp .ge 20, 3) := by decide +kernel
theorem dX1_zoneAtRank_8 : decode cX1_zoneAtRank 8 = .ok (.aload_n 0, 1) := by decide +kernel
theorem dX1_zoneAtRank_9 : decode cX1_zoneAtRank 9 = .ok (.iload_n 2, 1) := by decide +kernel
theorem dX1_zoneAtRank_10 : decode cX1_zoneAtRank 10 = .ok (.invokevirtual 66, 3) := by decide +kernel
theorem dX1_zoneAtRank_13 : decode cX1_zoneAtRank 13 = .ok (.iload_n 1, 1) := by decide +kernel
theorem dX1_zoneAtRank_14 : decode cX1_zoneAtRank 14 = .ok (.if_icmp .ne 5, 3) := by decide +kernel
theorem dX1_zoneAtRank_17 : decode cX1_zoneAtRank 17 = .ok (.iload_n 2, 1) := by decide +kernel
theorem dX1_zoneAtRank_18 : decode cX1_zoneAtRank 18 = .ok (.ireturn, 1) := by decide +kernel
theorem dX1_zoneAtRank_19 : decode cX1_zoneAtRank 19 = .ok (.iinc 2 1, 3) := by decide +kernel
theorem dX1_zoneAtRank_22 : decode cX1_zoneAtRank 22 = .ok (.goto (-20), 3) := by decide +kernel
theorem dX1_zoneAtRank_25 : decode cX1_zoneAtRank 25 = .ok (.iconst (-1), 1) := by decide +kernel
theorem dX1_zoneAtRank_26 : decode cX1_zoneAtRank 26 = .ok (.ireturn, 1) := by decide +kernel
theorem dX1_rankOf_0 : decode cX1_rankOf 0 = .ok (.iconst 0, 1) := by decide +kernel
theorem dX1_rankOf_1 : decode cX1_rankOf 1 = .ok (.istore_n 2, 1) := by decide +kernel
theorem dX1_rankOf_2 : decode cX1_rankOf 2 = .ok (.iconst 0, 1) := by decide +kernel
theorem dX1_rankOf_3 : decode cX1_rankOf 3 = .ok (.istore_n 3, 1) := by decide +kernel
theorem dX1_rankOf_4 : decode cX1_rankOf 4 = .ok (.iload_n 3, 1) := by decide +kernel
theorem dX1_rankOf_5 : decode cX1_rankOf 5 = .ok (.bipush 8, 2) := by decide +kernel
theorem dX1_rankOf_7 : decode cX1_rankOf 7 = .ok (.if_icmp .ge 21, 3) := by decide +kernel
theorem dX1_rankOf_10 : decode cX1_rankOf 10 = .ok (.aload_n 0, 1) := by decide +kernel
theorem dX1_rankOf_11 : decode cX1_rankOf 11 = .ok (.iload_n 3, 1) := by decide +kernel
theorem dX1_rankOf_12 : decode cX1_rankOf 12 = .ok (.iload_n 1, 1) := by decide +kernel
theorem dX1_rankOf_13 : decode cX1_rankOf 13 = .ok (.invokevirtual 70, 3) := by decide +kernel
theorem dX1_rankOf_16 : decode cX1_rankOf 16 = .ok (.ifCond .eq 6, 3) := by decide +kernel
theorem dX1_rankOf_19 : decode cX1_rankOf 19 = .ok (.iinc 2 1, 3) := by decide +kernel
theorem dX1_rankOf_22 : decode cX1_rankOf 22 = .ok (.iinc 3 1, 3) := by decide +kernel
theorem dX1_rankOf_25 : decode cX1_rankOf 25 = .ok (.goto (-21), 3) := by decide +kernel
theorem dX1_rankOf_28 : decode cX1_rankOf 28 = .ok (.iload_n 2, 1) := by decide +kernel
theorem dX1_rankOf_29 : decode cX1_rankOf 29 = .ok (.ireturn, 1) := by decide +kernel
theorem dX1_comesBefore_0 : decode cX1_comesBefore 0 = .ok (.aload_n 0, 1) := by decide +kernel
theorem dX1_comesBefore_1 : decode cX1_comesBefore 1 = .ok (.getfield 9, 3) := by decide +kernel
theorem dX1_comesBefore_4 : decode cX1_comesBefore 4 = .ok (.iload_n 1, 1) := by decide +kernel
theorem dX1_comesBefore_5 : decode cX1_comesBefore 5 = .ok (.iaload, 1) := by decide +kernel
theorem dX1_comesBefore_6 : decode cX1_comesBefore 6 = .ok (.aload_n 0, 1) := by decide +kernel
theorem dX1_comesBefore_7 : decode cX1_comesBefore 7 = .ok (.getfield 9, 3) := by decide +kernel
theorem dX1_comesBefore_10 : decode cX1_comesBefore 10 = .ok (.iload_n 2, 1) := by decide +kernel
theorem dX1_comesBefore_11 : decode cX1_comesBefore 11 = .ok (.iaload, 1) := by decide +kernel
theorem dX1_comesBefore_12 : decode cX1_comesBefore 12 = .ok (.if_icmp .eq 24, 3) := by decide +kernel
theorem dX1_comesBefore_15 : decode cX1_comesBefore 15 = .ok (.aload_n 0, 1) := by decide +kernel
theorem dX1_comesBefore_16 : decode cX1_comesBefore 16 = .ok (.getfield 9, 3) := by decide +kernel
theorem dX1_comesBefore_19 : decode cX1_comesBefore 19 = .ok (.iload_n 1, 1) := by decide +kernel
theorem dX1_comesBefore_20 : decode cX1_comesBefore 20 = .ok (.iaload, 1) := by decide +kernel
theorem dX1_comesBefore_21 : decode cX1_comesBefore 21 = .ok (.aload_n 0, 1) := by decide +kernel
theorem dX1_comesBefore_22 : decode cX1_comesBefore 22 = .ok (.getfield 9, 3) := by decide +kernel
theorem dX1_comesBefore_25 : decode cX1_comesBefore 25 = .ok (.iload_n 2, 1) := by decide +kernel
theorem dX1_comesBefore_26 : decode cX1_comesBefore 26 = .ok (.iaload, 1) := by decide +kernel
theorem dX1_comesBefore_27 : decode cX1_comesBefore 27 = .ok (.if_icmp .le 7, 3) := by decide +kernel
theorem dX1_comesBefore_30 : decode cX1_comesBefore 30 = .ok (.iconst 1, 1) := by decide +kernel
theorem dX1_comesBefore_31 : decode cX1_comesBefore 31 = .ok (.goto 4, 3) := by decide +kernel
theorem dX1_comesBefore_34 : decode cX1_comesBefore 34 = .ok (.iconst 0, 1) := by decide +kernel
theorem dX1_comesBefore_35 : decode cX1_comesBefore 35 = .ok (.ireturn, 1) := by decide +kernel
theorem dX1_comesBefore_36 : decode cX1_comesBefore 36 = .ok (.aload_n 0, 1) := by decide +kernel
theorem dX1_comesBefore_37 : decode cX1_comesBefore 37 = .ok (.getfield 15, 3) := by decide +kernel
theorem dX1_comesBefore_40 : decode cX1_comesBefore 40 = .ok (.iload_n 1, 1) := by decide +kernel
theorem dX1_comesBefore_41 : decode cX1_comesBefore 41 = .ok (.iaload, 1) := by decide +kernel
theorem dX1_comesBefore_42 : decode cX1_comesBefore 42 = .ok (.aload_n 0, 1) := by decide +kernel
theorem dX1_comesBefore_43 : decode cX1_comesBefore 43 = .ok (.getfield 15, 3) := by decide +kernel
theorem dX1_comesBefore_46 : decode cX1_comesBefore 46 = .ok (.iload_n 2, 1) := by decide +kernel
theorem dX1_comesBefore_47 : decode cX1_comesBefore 47 = .ok (.iaload, 1) := by decide +kernel
theorem dX1_comesBefore_48 : decode cX1_comesBefore 48 = .ok (.if_icmp .eq 24, 3) := by decide +kernel
theorem dX1_comesBefore_51 : decode cX1_comesBefore 51 = .ok (.aload_n 0, 1) := by decide +kernel
theorem dX1_comesBefore_52 : decode cX1_comesBefore 52 = .ok (.getfield 15, 3) := by decide +kernel
theorem dX1_comesBefore_55 : decode cX1_comesBefore 55 = .ok (.iload_n 1, 1) := by decide +kernel
theorem dX1_comesBefore_56 : decode cX1_comesBefore 56 = .ok (.iaload, 1) := by decide +kernel
theorem dX1_comesBefore_57 : decode cX1_comesBefore 57 = .ok (.aload_n 0, 1) := by decide +kernel
theorem dX1_comesBefore_58 : decode cX1_comesBefore 58 = .ok (.getfield 15, 3) := by decide +kernel
theorem dX1_comesBefore_61 : decode cX1_comesBefore 61 = .ok (.iload_n 2, 1) := by decide +kernel
theorem dX1_comesBefore_62 : decode cX1_comesBefore 62 = .ok (.iaload, 1) := by decide +kernel
theorem dX1_comesBefore_63 : decode cX1_comesBefore 63 = .ok (.if_icmp .le 7, 3) := by decide +kernel
theorem dX1_comesBefore_66 : decode cX1_comesBefore 66 = .ok (.iconst 1, 1) := by decide +kernel
theorem dX1_comesBefore_67 : decode cX1_comesBefore 67 = .ok (.goto 4, 3) := by decide +kernel
theorem dX1_comesBefore_70 : decode cX1_comesBefore 70 = .ok (.iconst 0, 1) := by decide +kernel
theorem dX1_comesBefore_71 : decode cX1_comesBefore 71 = .ok (.ireturn, 1) := by decide +kernel
theorem dX1_comesBefore_72 : decode cX1_comesBefore 72 = .ok (.iload_n 1, 1) := by decide +kernel
theorem dX1_comesBefore_73 : decode cX1_comesBefore 73 = .ok (.iload_n 2, 1) := by decide +kernel
theorem dX1_comesBefore_74 : decode cX1_comesBefore 74 = .ok (.if_icmp .ge 7, 3) := by decide +kernel
theorem dX1_comesBefore_77 : decode cX1_comesBefore 77 = .ok (.iconst 1, 1) := by decide +kernel
theorem dX1_comesBefore_78 : decode cX1_comesBefore 78 = .ok (.goto 4, 3) := by decide +kernel
theorem dX1_comesBefore_81 : decode cX1_comesBefore 81 = .ok (.iconst 0, 1) := by decide +kernel
theorem dX1_comesBefore_82 : decode cX1_comesBefore 82 = .ok (.ireturn, 1) := by decide +kernel
theorem dX2_init_0 : decode cX2_init 0 = .ok (.aload_n 0, 1) := by decide +kernel
theorem dX2_init_1 : decode cX2_init 1 = .ok (.invokespecial 3, 3) := by decide +kernel
theorem dX2_init_4 : decode cX2_init 4 = .ok (.aload_n 0, 1) := by decide +kernel
theorem dX2_init_5 : decode cX2_init 5 = .ok (.bipush 60, 2) := by decide +kernel
theorem dX2_init_7 : decode cX2_init 7 = .ok (.newarray .char, 2) := by decide +kernel
theorem dX2_init_9 : decode cX2_init 9 = .ok (.putfield 9, 3) := by decide +kernel
theorem dX2_init_12 : decode cX2_init 12 = .ok (.aload_n 0, 1) := by decide +kernel
theorem dX2_init_13 : decode cX2_init 13 = .ok (.bipush 15, 2) := by decide +kernel
theorem dX2_init_15 : decode cX2_init 15 = .ok (.anewarray 15, 3) := by decide +kernel
theorem dX2_init_18 : decode cX2_init 18 = .ok (.putfield 17, 3) := by decide +kernel
theorem dX2_init_21 : decode cX2_init 21 = .ok (.aload_n 0, 1) := by decide +kernel
theorem dX2_init_22 : decode cX2_init 22 = .ok (.bipush 15, 2) := by decide +kernel
theorem dX2_init_24 : decode cX2_init 24 = .ok (.iconst 4, 1) := by decide +kernel
theorem dX2_init_25 : decode cX2_init 25 = .ok (.multianewarray 21 2, 4) := by decide +kernel
theorem dX2_init_29 : decode cX2_init 29 = .ok (.putfield 23, 3) := by decide +kernel
theorem dX2_init_32 : decode cX2_init 32 = .ok (.return_, 1) := by decide +kernel
theorem dX2_append_0 : decode cX2_append 0 = .ok (.aload_n 0, 1) := by decide +kernel
theorem dX2_append_1 : decode cX2_append 1 = .ok (.getfield 9, 3) := by decide +kernel
theorem dX2_append_4 : decode cX2_append 4 = .ok (.aload_n 0, 1) := by decide +kernel
theorem dX2_append_5 : decode cX2_append 5 = .ok (.getfield 26, 3) := by decide +kernel
theorem dX2_append_8 : decode cX2_append 8 = .ok (.iload_n 1, 1) := by decide +kernel
theorem dX2_append_9 : decode cX2_append 9 = .ok (.castore, 1) := by decide +kernel
theorem dX2_append_10 : decode cX2_append 10 = .ok (.aload_n 0, 1) := by decide +kernel
theorem dX2_append_11 : decode cX2_append 11 = .ok (.dup, 1) := by decide +kernel
theorem dX2_append_12 : decode cX2_append 12 = .ok (.getfield 26, 3) := by decide +kernel
theorem dX2_append_15 : decode cX2_append 15 = .ok (.iconst 1, 1) := by decide +kernel
theorem dX2_append_16 : decode cX2_append 16 = .ok (.iadd, 1) := by decide +kernel
theorem dX2_append_17 : decode cX2_append 17 = .ok (.putfield 26, 3) := by decide +kernel
theorem dX2_append_20 : decode cX2_append 20 = .ok (.aload_n 0, 1) := by decide +kernel
theorem dX2_append_21 : decode cX2_append 21 = .ok (.getfield 26, 3) := by decide +kernel
theorem dX2_append_24 : decode cX2_append 24 = .ok (.ireturn, 1) := by decide +kernel
theorem dX2_clear_0 : decode cX2_clear 0 = .ok (.aload_n 0, 1) := by decide +kernel
theorem dX2_clear_1 : decode cX2_clear 1 = .ok (.iconst 0, 1) := by decide +kernel
theorem dX2_clear_2 : decode cX2_clear 2 = .ok (.putfield 26, 3) := by decide +kernel
theorem dX2_clear_5 : decode cX2_clear 5 = .ok (.return_, 1) := by decide +kernel
theorem dX2_parse_0 : decode cX2_parse 0 = .ok (.aload_n 0, 1) := by decide +kernel
theorem dX2_parse_1 : decode cX2_parse 1 = .ok (.iconst 0, 1) := by decide +kernel
theorem dX2_parse_2 : decode cX2_parse 2 = .ok (.putfield 30, 3) := by decide +kernel
theorem dX2_parse_5 : decode cX2_parse 5 = .ok (.aload_n 0, 1) := by decide +kernel
theorem dX2_parse_6 : decode cX2_parse 6 = .ok (.iconst 0, 1) := by decide +kernel
theorem dX2_parse_7 : decode cX2_parse 7 = .ok (.putfield 33, 3) := by decide +kernel
theorem dX2_parse_10 : decode cX2_parse 10 = .ok (.iconst 0, 1) := by decide +kernel
theorem dX2_parse_11 : decode cX2_parse 11 = .ok (.istore_n 1, 1) := by decide +kernel
theorem dX2_parse_12 : decode cX2_parse 12 = .ok (.iload_n 1, 1) := by decide +kernel
theorem dX2_parse_13 : decode cX2_parse 13 = .ok (.bipush 15, 2) := by decide +kernel
theorem dX2_parse_15 : decode cX2_parse 15 = .ok (.if_icmp .ge 50, 3) := by decide +kernel
theorem dX2_parse_18 : decode cX2_parse 18 = .ok (.aload_n 0, 1) := by decide +kernel
theorem dX2_parse_19 : decode cX2_parse 19 = .ok (.invokevirtual 36, 3) := by decide +kernel
theorem dX2_parse_22 : decode cX2_parse 22 = .ok (.ifCond .eq 43, 3) := by decide +kernel
theorem dX2_parse_25 : decode cX2_parse 25 = .ok (.aload_n 0, 1) := by decide +kernel
theorem dX2_parse_26 : decode cX2_parse 26 = .ok (.invokevirtual 40, 3) := by decide +kernel
theorem dX2_parse_29 : decode cX2_parse 29 = .ok (.iconst (-1), 1) := by decide +kernel
theorem dX2_parse_30 : decode cX2_parse 30 = .ok (.if_icmp .ne 5, 3) := by decide +kernel
theorem dX2_parse_33 : decode cX2_parse 33 = .ok (.iconst (-1), 1) := by decide +kernel
theorem dX2_parse_34 : decode cX2_parse 34 = .ok (.ireturn, 1) := by decide +kernel
theorem dX2_parse_35 : decode cX2_parse 35 = .ok (.aload_n 0, 1) := by decide +kernel
theorem dX2_parse_36 : decode cX2_parse 36 = .ok (.invokevirtual 40, 3) := by decide +kernel
theorem dX2_parse_39 : decode cX2_parse 39 = .ok (.bipush 59, 2) := by decide +kernel
theorem dX2_parse_41 : decode cX2_parse 41 = .ok (.if_icmp .eq 8, 3) := by decide +kernel
theorem dX2_parse_44 : decode cX2_parse 44 = .ok (.aload_n 0, 1) := by decide +kernel
theorem dX2_parse_45 : decode cX2_parse 45 = .ok (.getfield 30, 3) := by decide +kernel
theorem dX2_parse_48 : decode cX2_parse 48 = .ok (.ireturn, 1) := by decide +kernel
theorem dX2_parse_49 : decode cX2_parse 49 = .ok (.aload_n 0, 1) := by decide +kernel
theorem dX2_parse_50 : decode cX2_parse 50 = .ok (.dup, 1) := by decide +kernel
theorem dX2_parse_51 : decode cX2_parse 51 = .ok (.getfield 30, 3) := by decide +kernel
theorem dX2_parse_54 : decode cX2_parse 54 = .ok (.iconst 1, 1) := by decide +kernel
theorem dX2_parse_55 : decode cX2_parse 55 = .ok (.iadd, 1) := by decide +kernel
theorem dX2_parse_56 : decode cX2_parse 56 = .ok (.putfield 30, 3) := by decide +kernel
theorem dX2_parse_59 : decode cX2_parse 59 = .ok (.iinc 1 1, 3) := by decide +kernel
theorem dX2_parse_62 : decode cX2_parse 62 = .ok (.goto (-50), 3) := by decide +kernel
theorem dX2_parse_65 : decode cX2_parse 65 = .ok (.aload_n 0, 1) := by decide +kernel
theorem dX2_parse_66 : decode cX2_parse 66 = .ok (.getfield 30, 3) := by decide +kernel
theorem dX2_parse_69 : decode cX2_parse 69 = .ok (.ireturn, 1) := by decide +kernel
theorem dX2_peek_0 : decode cX2_peek 0 = .ok (.aload_n 0, 1) := by decide +kernel
theorem dX2_peek_1 : decode cX2_peek 1 = .ok (.getfield 30, 3) := by decide +kernel
theorem dX2_peek_4 : decode cX2_peek 4 = .ok (.aload_n 0, 1) := by decide +kernel
theorem dX2_peek_5 : decode cX2_peek 5 = .ok (.getfield 26, 3) := by decide +kernel
theorem dX2_peek_8 : decode cX2_peek 8 = .ok (.if_icmp .ge 15, 3) := by decide +kernel
theorem dX2_peek_11 : decode cX2_peek 11 = .ok (.aload_n 0, 1) := by decide +kernel
theorem dX2_peek_12 : decode cX2_peek 12 = .ok (.getfield 9, 3) := by decide +kernel
theorem dX2_peek_15 : decode cX2_peek 15 = .ok (.aload_n 0, 1) := by decide +kernel
theorem dX2_peek_16 : decode cX2_peek 16 = .ok (.getfield 30, 3) := by decide +kernel
theorem dX2_peek_19 : decode cX2_peek 19 = .ok (.caload, 1) := by decide +kernel
theorem dX2_peek_20 : decode cX2_peek 20 = .ok (.goto 4, 3) := by decide +kernel
theorem dX2_peek_23 : decode cX2_peek 23 = .ok (.iconst (-1), 1) := by decide +kernel
theorem dX2_peek_24 : decode cX2_peek 24 = .ok (.ireturn, 1) := by decide +kernel
theorem dX2_readCommand_0 : decode cX2_readCommand 0 = .ok (.aload_n 0, 1) := by decide +kernel
theorem dX2_readCommand_1 : decode cX2_readCommand 1 = .ok (.invokevirtual 44, 3) := by decide +kernel
theorem dX2_readCommand_4 : decode cX2_readCommand 4 = .ok (.astore_n 1, 1) := by decide +kernel
theorem dX2_readCommand_5 : decode cX2_readCommand 5 = .ok (.aload_n 1, 1) := by decide +kernel
theorem dX2_readCommand_6 : decode cX2_readCommand 6 = .ok (.ifnonnull 5, 3) := by decide +kernel
theorem dX2_readCommand_9 : decode cX2_readCommand 9 = .ok (.iconst 0, 1) := by decide +kernel
theorem dX2_readCommand_10 : decode cX2_readCommand 10 = .ok (.ireturn, 1) := by decide +kernel
theorem dX2_readCommand_11 : decode cX2_readCommand 11 = .ok (.aload_n 0, 1) := by decide +kernel
theorem dX2_readCommand_12 : decode cX2_readCommand 12 = .ok (.getfield 17, 3) := by decide +kernel
theorem dX2_readCommand_15 : decode cX2_readCommand 15 = .ok (.aload_n 0, 1) := by decide +kernel
theorem dX2_readCommand_16 : decode cX2_readCommand 16 = .ok (.getfield 33, 3) := by decide +kernel
theorem dX2_readCommand_19 : decode cX2_readCommand 19 = .ok (.aload_n 1, 1) := by decide +kernel
theorem dX2_readCommand_20 : decode cX2_readCommand 20 = .ok (.aastore, 1) := by decide +kernel
theorem dX2_readCommand_21 : decode cX2_readCommand 21 = .ok (.aload_n 0, 1) := by decide +kernel
theorem dX2_readCommand_22 : decode cX2_readCommand 22 = .ok (.iconst 0, 1) := by decide +kernel
theorem dX2_readCommand_23 : decode cX2_readCommand 23 = .ok (.putfield 48, 3) := by decide +kernel
theorem dX2_readCommand_26 : decode cX2_readCommand 26 = .ok (.aload_n 0, 1) := by decide +kernel
theorem dX2_readCommand_27 : decode cX2_readCommand 27 = .ok (.aload_n 1, 1) := by decide +kernel
theorem dX2_readCommand_28 : decode cX2_readCommand 28 = .ok (.getfield 51, 3) := by decide +kernel
theorem dX2_readCommand_31 : decode cX2_readCommand 31 = .ok (.invokevirtual 55, 3) := by decide +kernel
theorem dX2_readCommand_34 : decode cX2_readCommand 34 = .ok (.ifCond .ne 5, 3) := by decide +kernel
theorem dX2_readCommand_37 : decode cX2_readCommand 37 = .ok (.iconst 0, 1) := by decide +kernel
theorem dX2_readCommand_38 : decode cX2_readCommand 38 = .ok (.ireturn, 1) := by decide +kernel
theorem dX2_readCommand_39 : decode cX2_readCommand 39 = .ok (.aload_n 0, 1) := by decide +kernel
theorem dX2_readCommand_40 : decode cX2_readCommand 40 = .ok (.dup, 1) := by decide +kernel
theorem dX2_readCommand_41 : decode cX2_readCommand 41 = .ok (.getfield 33, 3) := by decide +kernel
theorem dX2_readCommand_44 : decode cX2_readCommand 44 = .ok (.iconst 1, 1) := by decide +kernel
theorem dX2_readCommand_45 : decode cX2_readCommand 45 = .ok (.iadd, 1) := by decide +kernel
theorem dX2_readCommand_46 : decode cX2_readCommand 46 = .ok (.putfield 33, 3) := by decide +kernel
theorem dX2_readCommand_49 : decode cX2_readCommand 49 = .ok (.iconst 1, 1) := by decide +kernel
theorem dX2_readCommand_50 : decode cX2_readCommand 50 = .ok (.ireturn, 1) := by decide +kernel
theorem dX2_readWord_0 : decode cX2_readWord 0 = .ok (.iconst 0, 1) := by decide +kernel
theorem dX2_readWord_1 : decode cX2_readWord 1 = .ok (.istore_n 1, 1) := by decide +kernel
theorem dX2_readWord_2 : decode cX2_readWord 2 = .ok (.getstatic 59, 3) := by decide +kernel
theorem dX2_readWord_5 : decode cX2_readWord 5 = .ok (.astore_n 2, 1) := by decide +kernel
theorem dX2_readWord_6 : decode cX2_readWord 6 = .ok (.aload_n 2, 1) := by decide +kernel
theorem dX2_readWord_7 : decode cX2_readWord 7 = .ok (.arraylength, 1) := by decide +kernel
theorem dX2_readWord_8 : decode cX2_readWord 8 = .ok (.istore_n 3, 1) := by decide +kernel
theorem dX2_readWord_9 : decode cX2_readWord 9 = .ok (.iconst 0, 1) := by decide +kernel
theorem dX2_readWord_10 : decode cX2_readWord 10 = .ok (.istore 4, 2) := by decide +kernel
theorem dX2_readWord_12 : decode cX2_readWord 12 = .ok (.iload 4, 2) := by decide +kernel
theorem dX2_readWord_14 : decode cX2_readWord 14 = .ok (.iload_n 3, 1) := by decide +kernel
theorem dX2_readWord_15 : decode cX2_readWord 15 = .ok (.if_icmp .ge 60, 3) := by decide +kernel
theorem dX2_readWord_18 : decode cX2_readWord 18 = .ok (.aload_n 2, 1) := by decide +kernel
theorem dX2_readWord_19 : decode cX2_readWord 19 = .ok (.iload 4, 2) := by decide +kernel
theorem dX2_readWord_21 : decode cX2_readWord 21 = .ok (.aaload, 1) := by decide +kernel
theorem dX2_readWord_22 : decode cX2_readWord 22 = .ok (.astore 5, 2) := by decide +kernel
theorem dX2_readWord_24 : decode cX2_readWord 24 = .ok (.aload_n 0, 1) := by decide +kernel
theorem dX2_readWord_25 : decode cX2_readWord 25 = .ok (.aload 5, 2) := by decide +kernel
theorem dX2_readWord_27 : decode cX2_readWord 27 = .ok (.getfield 62, 3) := by decide +kernel
theorem dX2_readWord_30 : decode cX2_readWord 30 = .ok (.invokevirtual 65, 3) := by decide +kernel
theorem dX2_readWord_33 : decode cX2_readWord 33 = .ok (.istore 6, 2) := by decide +kernel
theorem dX2_readWord_35 : decode cX2_readWord 35 = .ok (.iload 6, 2) := by decide +kernel
theorem dX2_readWord_37 : decode cX2_readWord 37 = .ok (.aload 5, 2) := by decide +kernel
theorem dX2_readWord_39 : decode cX2_readWord 39 = .ok (.getfield 62, 3) := by decide +kernel
theorem dX2_readWord_42 : decode cX2_readWord 42 = .ok (.invokevirtual 69, 3) := by decide +kernel
theorem dX2_readWord_45 : decode cX2_readWord 45 = .ok (.if_icmp .ne 17, 3) := by decide +kernel
theorem dX2_readWord_48 : decode cX2_readWord 48 = .ok (.aload_n 0, 1) := by decide +kernel
theorem dX2_readWord_49 : decode cX2_readWord 49 = .ok (.dup, 1) := by decide +kernel
theorem dX2_readWord_50 : decode cX2_readWord 50 = .ok (.getfield 30, 3) := by decide +kernel
theorem dX2_readWord_53 : decode cX2_readWord 53 = .ok (.iload 6, 2) := by decide +kernel
theorem dX2_readWord_55 : decode cX2_readWord 55 = .ok (.iadd, 1) := by decide +kernel
theorem dX2_readWord_56 : decode cX2_readWord 56 = .ok (.putfield 30, 3) := by decide +kernel
theorem dX2_readWord_59 : decode cX2_readWord 59 = .ok (.aload 5, 2) := by decide +kernel
theorem dX2_readWord_61 : decode cX2_readWord 61 = .ok (.areturn, 1) := by decide +kernel
theorem dX2_readWord_62 : decode cX2_readWord 62 = .ok (.iload_n 1, 1) := by decide +kernel
theorem dX2_readWord_63 : decode cX2_readWord 63 = .ok (.iload 6, 2) := by decide +kernel
theorem dX2_readWord_65 : decode cX2_readWord 65 = .ok (.invokestatic 73, 3) := by decide +kernel
theorem dX2_readWord_68 : decode cX2_readWord 68 = .ok (.istore_n 1, 1) := by decide +kernel
theorem dX2_readWord_69 : decode cX2_readWord 69 = .ok (.iinc 4 1, 3) := by decide +kernel
theorem dX2_readWord_72 : decode cX2_readWord 72 = .ok (.goto (-60), 3) := by decide +kernel
theorem dX2_readWord_75 : decode cX2_readWord 75 = .ok (.aload_n 0, 1) := by decide +kernel
theorem dX2_readWord_76 : decode cX2_readWord 76 = .ok (.dup, 1) := by decide +kernel
theorem dX2_readWord_77 : decode cX2_readWord 77 = .ok (.getfield 30, 3) := by decide +kernel
theorem dX2_readWord_80 : decode cX2_readWord 80 = .ok (.iload_n 1, 1) := by decide +kernel
theorem dX2_readWord_81 : decode cX2_readWord 81 = .ok (.iadd, 1) := by decide +kernel
theorem dX2_readWord_82 : decode cX2_readWord 82 = .ok (.putfield 30, 3) := by decide +kernel
theorem dX2_readWord_85 : decode cX2_readWord 85 = .ok (.aconst_null, 1) := by decide +kernel
theorem dX2_readWord_86 : decode cX2_readWord 86 = .ok (.areturn, 1) := by decide +kernel
theorem dX2_matchingLetters_0 : decode cX2_matchingLetters 0 = .ok (.iconst 0, 1) := by decide +kernel
theorem dX2_matchingLetters_1 : decode cX2_matchingLetters 1 = .ok (.istore_n 2, 1) := by decide +kernel
theorem dX2_matchingLetters_2 : decode cX2_matchingLetters 2 = .ok (.iload_n 2, 1) := by decide +kernel
theorem dX2_matchingLetters_3 : decode cX2_matchingLetters 3 = .ok (.aload_n 1, 1) := by decide +kernel
theorem dX2_matchingLetters_4 : decode cX2_matchingLetters 4 = .ok (.invokevirtual 69, 3) := by decide +kernel
theorem dX2_matchingLetters_7 : decode cX2_matchingLetters 7 = .ok (.if_icmp .ge 41, 3) := by decide +kernel
theorem dX2_matchingLetters_10 : decode cX2_matchingLetters 10 = .ok (.aload_n 0, 1) := by decide +kernel
theorem dX2_matchingLetters_11 : decode cX2_matchingLetters 11 = .ok (.getfield 30, 3) := by decide +kernel
theorem dX2_matchingLetters_14 : decode cX2_matchingLetters 14 = .ok (.iload_n 2, 1) := by decide +kernel
theorem dX2_matchingLetters_15 : decode cX2_matchingLetters 15 = .ok (.iadd, 1) := by decide +kernel
theorem dX2_matchingLetters_16 : decode cX2_matchingLetters 16 = .ok (.aload_n 0, 1) := by decide +kernel
theorem dX2_matchingLetters_17 : decode cX2_matchingLetters 17 = .ok (.getfield 26, 3) := by decide +kernel
theorem dX2_matchingLetters_20 : decode cX2_matchingLetters 20 = .ok (.if_icmp .ge 28, 3) := by decide +kernel
theorem dX2_matchingLetters_23 : decode cX2_matchingLetters 23 = .ok (.aload_n 0, 1) := by decide +kernel
theorem dX2_matchingLetters_24 : decode cX2_matchingLetters 24 = .ok (.getfield 9, 3) := by decide +kernel
theorem dX2_matchingLetters_27 : decode cX2_matchingLetters 27 = .ok (.aload_n 0, 1) := by decide +kernel
theorem dX2_matchingLetters_28 : decode cX2_matchingLetters 28 = .ok (.getfield 30, 3) := by decide +kernel
theorem dX2_matchingLetters_31 : decode cX2_matchingLetters 31 = .ok (.iload_n 2, 1) := by decide +kernel
theorem dX2_matchingLetters_32 : decode cX2_matchingLetters 32 = .ok (.iadd, 1) := by decide +kernel
theorem dX2_matchingLetters_33 : decode cX2_matchingLetters 33 = .ok (.caload, 1) := by decide +kernel
theorem dX2_matchingLetters_34 : decode cX2_matchingLetters 34 = .ok (.aload_n 1, 1) := by decide +kernel
theorem dX2_matchingLetters_35 : decode cX2_matchingLetters 35 = .ok (.iload_n 2, 1) := by decide +kernel
theorem dX2_matchingLetters_36 : decode cX2_matchingLetters 36 = .ok (.invokevirtual 79, 3) := by decide +kernel
theorem dX2_matchingLetters_39 : decode cX2_matchingLetters 39 = .ok (.if_icmp .ne 9, 3) := by decide +kernel
theorem dX2_matchingLetters_42 : decode cX2_matchingLetters 42 = .ok (.iinc 2 1, 3) := by decide +kernel
theorem dX2_matchingLetters_45 : decode cX2_matchingLetters 45 = .ok (.goto (-43), 3) := by decide +kernel
theorem dX2_matchingLetters_48 : decode cX2_matchingLetters 48 = .ok (.iload_n 2, 1) := by decide +kernel
theorem dX2_matchingLetters_49 : decode cX2_matchingLetters 49 = .ok (.ireturn, 1) := by decide +kernel
theorem dX2_readForm_0 : decode cX2_readForm 0 = .ok (.iconst 0, 1) := by decide +kernel
theorem dX2_readForm_1 : decode cX2_readForm 1 = .ok (.istore_n 2, 1) := by decide +kernel
theorem dX2_readForm_2 : decode cX2_readForm 2 = .ok (.iload_n 2, 1) := by decide +kernel
theorem dX2_readForm_3 : decode cX2_readForm 3 = .ok (.aload_n 1, 1) := by decide +kernel
theorem dX2_readForm_4 : decode cX2_readForm 4 = .ok (.invokevirtual 69, 3) := by decide +kernel
theorem dX2_readForm_7 : decode cX2_readForm 7 = .ok (.if_icmp .ge 47, 3) := by decide +kernel
theorem dX2_readForm_10 : decode cX2_readForm 10 = .ok (.aload_n 1, 1) := by decide +kernel
theorem dX2_readForm_11 : decode cX2_readForm 11 = .ok (.iload_n 2, 1) := by decide +kernel
theorem dX2_readForm_12 : decode cX2_readForm 12 = .ok (.invokevirtual 79, 3) := by decide +kernel
theorem dX2_readForm_15 : decode cX2_readForm 15 = .ok (.istore_n 3, 1) := by decide +kernel
theorem dX2_readForm_16 : decode cX2_readForm 16 = .ok (.iload_n 3, 1) := by decide +kernel
theorem dX2_readForm_17 : decode cX2_readForm 17 = .ok (.bipush 63, 2) := by decide +kernel
theorem dX2_readForm_19 : decode cX2_readForm 19 = .ok (.if_icmp .ne 19, 3) := by decide +kernel
theorem dX2_readForm_22 : decode cX2_readForm 22 = .ok (.aload_n 0, 1) := by decide +kernel
theorem dX2_readForm_23 : decode cX2_readForm 23 = .ok (.invokevirtual 40, 3) := by decide +kernel
theorem dX2_readForm_26 : decode cX2_readForm 26 = .ok (.bipush 32, 2) := by decide +kernel
theorem dX2_readForm_28 : decode cX2_readForm 28 = .ok (.if_icmp .eq 20, 3) := by decide +kernel
theorem dX2_readForm_31 : decode cX2_readForm 31 = .ok (.aload_n 0, 1) := by decide +kernel
theorem dX2_readForm_32 : decode cX2_readForm 32 = .ok (.iconst 1, 1) := by decide +kernel
theorem dX2_readForm_33 : decode cX2_readForm 33 = .ok (.invokevirtual 83, 3) := by decide +kernel
theorem dX2_readForm_36 : decode cX2_readForm 36 = .ok (.iconst 1, 1) := by decide +kernel
theorem dX2_readForm_37 : decode cX2_readForm 37 = .ok (.ireturn, 1) := by decide +kernel
theorem dX2_readForm_38 : decode cX2_readForm 38 = .ok (.aload_n 0, 1) := by decide +kernel
theorem dX2_readForm_39 : decode cX2_readForm 39 = .ok (.iload_n 3, 1) := by decide +kernel
theorem dX2_readForm_40 : decode cX2_readForm 40 = .ok (.invokevirtual 87, 3) := by decide +kernel
theorem dX2_readForm_43 : decode cX2_readForm 43 = .ok (.ifCond .ne 5, 3) := by decide +kernel
theorem dX2_readForm_46 : decode cX2_readForm 46 = .ok (.iconst 0, 1) := by decide +kernel
theorem dX2_readForm_47 : decode cX2_readForm 47 = .ok (.ireturn, 1) := by decide +kernel
theorem dX2_readForm_48 : decode cX2_readForm 48 = .ok (.iinc 2 1, 3) := by decide +kernel
theorem dX2_readForm_51 : decode cX2_readForm 51 = .ok (.goto (-49), 3) := by decide +kernel
theorem dX2_readForm_54 : decode cX2_readForm 54 = .ok (.iconst 1, 1) := by decide +kernel
theorem dX2_readForm_55 : decode cX2_readForm 55 = .ok (.ireturn, 1) := by decide +kernel
theorem dX2_readPart_0 : decode cX2_readPart 0 = .ok (.iload_n 1, 1) := by decide +kernel
theorem dX2_readPart_1 : decode cX2_readPart 1 = .ok (.bipush 100, 2) := by decide +kernel
theorem dX2_readPart_3 : decode cX2_readPart 3 = .ok (.if_icmp .ne 9, 3) := by decide +kernel
theorem dX2_readPart_6 : decode cX2_readPart 6 = .ok (.aload_n 0, 1) := by decide +kernel
theorem dX2_readPart_7 : decode cX2_readPart 7 = .ok (.iconst 1, 1) := by decide +kernel
theorem dX2_readPart_8 : decode cX2_readPart 8 = .ok (.invokevirtual 91, 3) := by decide +kernel
theorem dX2_readPart_11 : decode cX2_readPart 11 = .ok (.ireturn, 1) := by decide +kernel
theorem dX2_readPart_12 : decode cX2_readPart 12 = .ok (.iload_n 1, 1) := by decide +kernel
theorem dX2_readPart_13 : decode cX2_readPart 13 = .ok (.bipush 110, 2) := by decide +kernel
theorem dX2_readPart_15 : decode cX2_readPart 15 = .ok (.if_icmp .ne 9, 3) := by decide +kernel
theorem dX2_readPart_18 : decode cX2_readPart 18 = .ok (.aload_n 0, 1) := by decide +kernel
theorem dX2_readPart_19 : decode cX2_readPart 19 = .ok (.iconst 2, 1) := by decide +kernel
theorem dX2_readPart_20 : decode cX2_readPart 20 = .ok (.invokevirtual 91, 3) := by decide +kernel
theorem dX2_readPart_23 : decode cX2_readPart 23 = .ok (.ireturn, 1) := by decide +kernel
theorem dX2_readPart_24 : decode cX2_readPart 24 = .ok (.iload_n 1, 1) := by decide +kernel
theorem dX2_readPart_25 : decode cX2_readPart 25 = .ok (.bipush 115, 2) := by decide +kernel
theorem dX2_readPart_27 : decode cX2_readPart 27 = .ok (.if_icmp .ne 10, 3) := by decide +kernel
theorem dX2_readPart_30 : decode cX2_readPart 30 = .ok (.aload_n 0, 1) := by decide +kernel
theorem dX2_readPart_31 : decode cX2_readPart 31 = .ok (.invokevirtual 95, 3) := by decide +kernel
theorem dX2_readPart_34 : decode cX2_readPart 34 = .ok (.goto 7, 3) := by decide +kernel
theorem dX2_readPart_37 : decode cX2_readPart 37 = .ok (.aload_n 0, 1) := by decide +kernel
theorem dX2_readPart_38 : decode cX2_readPart 38 = .ok (.invokevirtual 98, 3) := by decide +kernel
theorem dX2_readPart_41 : decode cX2_readPart 41 = .ok (.ireturn, 1) := by decide +kernel
theorem dX2_readBlank_0 : decode cX2_readBlank 0 = .ok (.aload_n 0, 1) := by decide +kernel
theorem dX2_readBlank_1 : decode cX2_readBlank 1 = .ok (.invokevirtual 40, 3) := by decide +kernel
theorem dX2_readBlank_4 : decode cX2_readBlank 4 = .ok (.bipush 32, 2) := by decide +kernel
theorem dX2_readBlank_6 : decode cX2_readBlank 6 = .ok (.if_icmp .eq 5, 3) := by decide +kernel
theorem dX2_readBlank_9 : decode cX2_readBlank 9 = .ok (.iconst 0, 1) := by decide +kernel
theorem dX2_readBlank_10 : decode cX2_readBlank 10 = .ok (.ireturn, 1) := by decide +kernel
theorem dX2_readBlank_11 : decode cX2_readBlank 11 = .ok (.aload_n 0, 1) := by decide +kernel
theorem dX2_readBlank_12 : decode cX2_readBlank 12 = .ok (.dup, 1) := by decide +kernel
theorem dX2_readBlank_13 : decode cX2_readBlank 13 = .ok (.getfield 30, 3) := by decide +kernel
theorem dX2_readBlank_16 : decode cX2_readBlank 16 = .ok (.iconst 1, 1) := by decide +kernel
theorem dX2_readBlank_17 : decode cX2_readBlank 17 = .ok (.iadd, 1) := by decide +kernel
theorem dX2_readBlank_18 : decode cX2_readBlank 18 = .ok (.putfield 30, 3) := by decide +kernel
theorem dX2_readBlank_21 : decode cX2_readBlank 21 = .ok (.iconst 1, 1) := by decide +kernel
theorem dX2_readBlank_22 : decode cX2_readBlank 22 = .ok (.ireturn, 1) := by decide +kernel
theorem dX2_readDirection_0 : decode cX2_readDirection 0 = .ok (.aload_n 0, 1) := by decide +kernel
theorem dX2_readDirection_1 : decode cX2_readDirection 1 = .ok (.invokevirtual 40, 3) := by decide +kernel
theorem dX2_readDirection_4 : decode cX2_readDirection 4 = .ok (.istore_n 1, 1) := by decide +kernel
theorem dX2_readDirection_5 : decode cX2_readDirection 5 = .ok (.iload_n 1, 1) := by decide +kernel
theorem dX2_readDirection_6 : decode cX2_readDirection 6 = .ok (.bipush 43, 2) := by decide +kernel
theorem dX2_readDirection_8 : decode cX2_readDirection 8 = .ok (.if_icmp .eq 11, 3) := by decide +kernel
theorem dX2_readDirection_11 : decode cX2_readDirection 11 = .ok (.iload_n 1, 1) := by decide +kernel
theorem dX2_readDirection_12 : decode cX2_readDirection 12 = .ok (.bipush 45, 2) := by decide +kernel
theorem dX2_readDirection_14 : decode cX2_readDirection 14 = .ok (.if_icmp .eq 5, 3) := by decide +kernel
theorem dX2_readDirection_17 : decode cX2_readDirection 17 = .ok (.iconst 0, 1) := by decide +kernel
theorem dX2_readDirection_18 : decode cX2_readDirection 18 = .ok (.ireturn, 1) := by decide +kernel
theorem dX2_readDirection_19 : decode cX2_readDirection 19 = .ok (.aload_n 0, 1) := by decide +kernel
theorem dX2_readDirection_20 : decode cX2_readDirection 20 = .ok (.dup, 1) := by decide +kernel
theorem dX2_readDirection_21 : decode cX2_readDirection 21 = .ok (.getfield 30, 3) := by decide +kernel
theorem dX2_readDirection_24 : decode cX2_readDirection 24 = .ok (.iconst 1, 1) := by decide +kernel
theorem dX2_readDirection_25 : decode cX2_readDirection 25 = .ok (.iadd, 1) := by decide +kernel
theorem dX2_readDirection_26 : decode cX2_readDirection 26 = .ok (.putfield 30, 3) := by decide +kernel
theorem dX2_readDirection_29 : decode cX2_readDirection 29 = .ok (.aload_n 0, 1) := by decide +kernel
theorem dX2_readDirection_30 : decode cX2_readDirection 30 = .ok (.iload_n 1, 1) := by decide +kernel
theorem dX2_readDirection_31 : decode cX2_readDirection 31 = .ok (.bipush 43, 2) := by decide +kernel
theorem dX2_readDirection_33 : decode cX2_readDirection 33 = .ok (.if_icmp .ne 7, 3) := by decide +kernel
theorem dX2_readDirection_36 : decode cX2_readDirection 36 = .ok (.iconst 1, 1) := by decide +kernel
theorem dX2_readDirection_37 : decode cX2_readDirection 37 = .ok (.goto 4, 3) := by decide +kernel
theorem dX2_readDirection_40 : decode cX2_readDirection 40 = .ok (.iconst 0, 1) := by decide +kernel
theorem dX2_readDirection_41 : decode cX2_readDirection 41 = .ok (.invokevirtual 83, 3) := by decide +kernel
theorem dX2_readDirection_44 : decode cX2_readDirection 44 = .ok (.iconst 1, 1) := by decide +kernel
theorem dX2_readDirection_45 : decode cX2_readDirection 45 = .ok (.ireturn, 1) := by decide +kernel
theorem dX2_readNumber_0 : decode cX2_readNumber 0 = .ok (.iconst 0, 1) := by decide +kernel
theorem dX2_readNumber_1 : decode cX2_readNumber 1 = .ok (.istore_n 2, 1) := by decide +kernel
theorem dX2_readNumber_2 : decode cX2_readNumber 2 = .ok (.iconst 0, 1) := by decide +kernel
theorem dX2_readNumber_3 : decode cX2_readNumber 3 = .ok (.istore_n 3, 1) := by decide +kernel
theorem dX2_readNumber_4 : decode cX2_readNumber 4 = .ok (.iload_n 2, 1) := by decide +kernel
theorem dX2_readNumber_5 : decode cX2_readNumber 5 = .ok (.iload_n 1, 1) := by decide +kernel
theorem dX2_readNumber_6 : decode cX2_readNumber 6 = .ok (.if_icmp .ge 50, 3) := by decide +kernel
theorem dX2_readNumber_9 : decode cX2_readNumber 9 = .ok (.aload_n 0, 1) := by decide +kernel
theorem dX2_readNumber_10 : decode cX2_readNumber 10 = .ok (.invokevirtual 40, 3) := by decide +kernel
theorem dX2_readNumber_13 : decode cX2_readNumber 13 = .ok (.bipush 48, 2) := by decide +kernel
theorem dX2_readNumber_15 : decode cX2_readNumber 15 = .ok (.if_icmp .lt 41, 3) := by decide +kernel
theorem dX2_readNumber_18 : decode cX2_readNumber 18 = .ok (.aload_n 0, 1) := by decide +kernel
theorem dX2_readNumber_19 : decode cX2_readNumber 19 = .ok (.invokevirtual 40, 3) := by decide +kernel
theorem dX2_readNumber_22 : decode cX2_readNumber 22 = .ok (.bipush 57, 2) := by decide +kernel
theorem dX2_readNumber_24 : decode cX2_readNumber 24 = .ok (.if_icmp .gt 32, 3) := by decide +kernel
theorem dX2_readNumber_27 : decode cX2_readNumber 27 = .ok (.iload_n 3, 1) := by decide +kernel
theorem dX2_readNumber_28 : decode cX2_readNumber 28 = .ok (.bipush 10, 2) := by decide +kernel
theorem dX2_readNumber_30 : decode cX2_readNumber 30 = .ok (.imul, 1) := by decide +kernel
theorem dX2_readNumber_31 : decode cX2_readNumber 31 = .ok (.aload_n 0, 1) := by decide +kernel
theorem dX2_readNumber_32 : decode cX2_readNumber 32 = .ok (.invokevirtual 40, 3) := by decide +kernel
theorem dX2_readNumber_35 : decode cX2_readNumber 35 = .ok (.iadd, 1) := by decide +kernel
theorem dX2_readNumber_36 : decode cX2_readNumber 36 = .ok (.bipush 48, 2) := by decide +kernel
theorem dX2_readNumber_38 : decode cX2_readNumber 38 = .ok (.isub, 1) := by decide +kernel
theorem dX2_readNumber_39 : decode cX2_readNumber 39 = .ok (.istore_n 3, 1) := by decide +kernel
theorem dX2_readNumber_40 : decode cX2_readNumber 40 = .ok (.iinc 2 1, 3) := by decide +kernel
theorem dX2_readNumber_43 : decode cX2_readNumber 43 = .ok (.aload_n 0, 1) := by decide +kernel
theorem dX2_readNumber_44 : decode cX2_readNumber 44 = .ok (.dup, 1) := by decide +kernel
theorem dX2_readNumber_45 : decode cX2_readNumber 45 = .ok (.getfield 30, 3) := by decide +kernel
theorem dX2_readNumber_48 : decode cX2_readNumber 48 = .ok (.iconst 1, 1) := by decide +kernel
theorem dX2_readNumber_49 : decode cX2_readNumber 49 = .ok (.iadd, 1) := by decide +kernel
theorem dX2_readNumber_50 : decode cX2_readNumber 50 = .ok (.putfield 30, 3) := by decide +kernel
theorem dX2_readNumber_53 : decode cX2_readNumber 53 = .ok (.goto (-49), 3) := by decide +kernel
theorem dX2_readNumber_56 : decode cX2_readNumber 56 = .ok (.iload_n 2, 1) := by decide +kernel
theorem dX2_readNumber_57 : decode cX2_readNumber 57 = .ok (.ifCond .ne 5, 3) := by decide +kernel
theorem dX2_readNumber_60 : decode cX2_readNumber 60 = .ok (.iconst 0, 1) := by decide +kernel
theorem dX2_readNumber_61 : decode cX2_readNumber 61 = .ok (.ireturn, 1) := by decide +kernel
theorem dX2_readNumber_62 : decode cX2_readNumber 62 = .ok (.aload_n 0, 1) := by decide +kernel
theorem dX2_readNumber_63 : decode cX2_readNumber 63 = .ok (.iload_n 3, 1) := by decide +kernel
theorem dX2_readNumber_64 : decode cX2_readNumber 64 = .ok (.invokevirtual 83, 3) := by decide +kernel
theorem dX2_readNumber_67 : decode cX2_readNumber 67 = .ok (.iconst 1, 1) := by decide +kernel
theorem dX2_readNumber_68 : decode cX2_readNumber 68 = .ok (.ireturn, 1) := by decide +kernel
theorem dX2_addNumber_0 : decode cX2_addNumber 0 = .ok (.aload_n 0, 1) := by decide +kernel
theorem dX2_addNumber_1 : decode cX2_addNumber 1 = .ok (.getfield 48, 3) := by decide +kernel
theorem dX2_addNumber_4 : decode cX2_addNumber 4 = .ok (.iconst 4, 1) := by decide +kernel
theorem dX2_addNumber_5 : decode cX2_addNumber 5 = .ok (.if_icmp .ge 28, 3) := by decide +kernel
theorem dX2_addNumber_8 : decode cX2_addNumber 8 = .ok (.aload_n 0, 1) := by decide +kernel
theorem dX2_addNumber_9 : decode cX2_addNumber 9 = .ok (.getfield 23, 3) := by decide +kernel
theorem dX2_addNumber_12 : decode cX2_addNumber 12 = .ok (.aload_n 0, 1) := by decide +kernel
theorem dX2_addNumber_13 : decode cX2_addNumber 13 = .ok (.getfield 33, 3) := by decide +kernel
theorem dX2_addNumber_16 : decode cX2_addNumber 16 = .ok (.aaload, 1) := by decide +kernel
theorem dX2_addNumber_17 : decode cX2_addNumber 17 = .ok (.aload_n 0, 1) := by decide +kernel
theorem dX2_addNumber_18 : decode cX2_addNumber 18 = .ok (.getfield 48, 3) := by decide +kernel
theorem dX2_addNumber_21 : decode cX2_addNumber 21 = .ok (.iload_n 1, 1) := by decide +kernel
theorem dX2_addNumber_22 : decode cX2_addNumber 22 = .ok (.iastore, 1) := by decide +kernel
theorem dX2_addNumber_23 : decode cX2_addNumber 23 = .ok (.aload_n 0, 1) := by decide +kernel
theorem dX2_addNumber_24 : decode cX2_addNumber 24 = .ok (.dup, 1) := by decide +kernel
theorem dX2_addNumber_25 : decode cX2_addNumber 25 = .ok (.getfield 48, 3) := by decide +kernel
theorem dX2_addNumber_28 : decode cX2_addNumber 28 = .ok (.iconst 1, 1) := by decide +kernel
theorem dX2_addNumber_29 : decode cX2_addNumber 29 = .ok (.iadd, 1) := by decide +kernel
theorem dX2_addNumber_30 : decode cX2_addNumber 30 = .ok (.putfield 48, 3) := by decide +kernel
theorem dX2_addNumber_33 : decode cX2_addNumber 33 = .ok (.return_, 1) := by decide +kernel
theorem dX3_init_0 : decode cX3_init 0 = .ok (.aload_n 0, 1) := by decide +kernel
theorem dX3_init_1 : decode cX3_init 1 = .ok (.invokespecial 3, 3) := by decide +kernel
theorem dX3_init_4 : decode cX3_init 4 = .ok (.return_, 1) := by decide +kernel
theorem dX3_copyFrom_0 : decode cX3_copyFrom 0 = .ok (.aload_n 0, 1) := by decide +kernel
theorem dX3_copyFrom_1 : decode cX3_copyFrom 1 = .ok (.aload_n 1, 1) := by decide +kernel
theorem dX3_copyFrom_2 : decode cX3_copyFrom 2 = .ok (.getfield 9, 3) := by decide +kernel
theorem dX3_copyFrom_5 : decode cX3_copyFrom 5 = .ok (.putfield 9, 3) := by decide +kernel
theorem dX3_copyFrom_8 : decode cX3_copyFrom 8 = .ok (.aload_n 0, 1) := by decide +kernel
theorem dX3_copyFrom_9 : decode cX3_copyFrom 9 = .ok (.aload_n 1, 1) := by decide +kernel
theorem dX3_copyFrom_10 : decode cX3_copyFrom 10 = .ok (.getfield 15, 3) := by decide +kernel
theorem dX3_copyFrom_13 : decode cX3_copyFrom 13 = .ok (.putfield 15, 3) := by decide +kernel
theorem dX3_copyFrom_16 : decode cX3_copyFrom 16 = .ok (.aload_n 0, 1) := by decide +kernel
theorem dX3_copyFrom_17 : decode cX3_copyFrom 17 = .ok (.aload_n 1, 1) := by decide +kernel
theorem dX3_copyFrom_18 : decode cX3_copyFrom 18 = .ok (.getfield 19, 3) := by decide +kernel
theorem dX3_copyFrom_21 : decode cX3_copyFrom 21 = .ok (.putfield 19, 3) := by decide +kernel
theorem dX3_copyFrom_24 : decode cX3_copyFrom 24 = .ok (.aload_n 0, 1) := by decide +kernel
theorem dX3_copyFrom_25 : decode cX3_copyFrom 25 = .ok (.aload_n 1, 1) := by decide +kernel
theorem dX3_copyFrom_26 : decode cX3_copyFrom 26 = .ok (.getfield 22, 3) := by decide +kernel
theorem dX3_copyFrom_29 : decode cX3_copyFrom 29 = .ok (.putfield 22, 3) := by decide +kernel
theorem dX3_copyFrom_32 : decode cX3_copyFrom 32 = .ok (.return_, 1) := by decide +kernel
theorem dX3_shutAnew_0 : decode cX3_shutAnew 0 = .ok (.aload_n 0, 1) := by decide +kernel
theorem dX3_shutAnew_1 : decode cX3_shutAnew 1 = .ok (.iconst 0, 1) := by decide +kernel
theorem dX3_shutAnew_2 : decode cX3_shutAnew 2 = .ok (.putfield 9, 3) := by decide +kernel
theorem dX3_shutAnew_5 : decode cX3_shutAnew 5 = .ok (.aload_n 0, 1) := by decide +kernel
theorem dX3_shutAnew_6 : decode cX3_shutAnew 6 = .ok (.iconst 0, 1) := by decide +kernel
theorem dX3_shutAnew_7 : decode cX3_shutAnew 7 = .ok (.putfield 15, 3) := by decide +kernel
theorem dX3_shutAnew_10 : decode cX3_shutAnew 10 = .ok (.aload_n 0, 1) := by decide +kernel
theorem dX3_shutAnew_11 : decode cX3_shutAnew 11 = .ok (.iconst 0, 1) := by decide +kernel
theorem dX3_shutAnew_12 : decode cX3_shutAnew 12 = .ok (.putfield 19, 3) := by decide +kernel
theorem dX3_shutAnew_15 : decode cX3_shutAnew 15 = .ok (.return_, 1) := by decide +kernel
theorem dX3_swingOpen_0 : decode cX3_swingOpen 0 = .ok (.aload_n 0, 1) := by decide +kernel
theorem dX3_swingOpen_1 : decode cX3_swingOpen 1 = .ok (.iconst 1, 1) := by decide +kernel
theorem dX3_swingOpen_2 : decode cX3_swingOpen 2 = .ok (.putfield 9, 3) := by decide +kernel
theorem dX3_swingOpen_5 : decode cX3_swingOpen 5 = .ok (.aload_n 0, 1) := by decide +kernel
theorem dX3_swingOpen_6 : decode cX3_swingOpen 6 = .ok (.iconst 0, 1) := by decide +kernel
theorem dX3_swingOpen_7 : decode cX3_swingOpen 7 = .ok (.putfield 19, 3) := by decide +kernel
theorem dX3_swingOpen_10 : decode cX3_swingOpen 10 = .ok (.aload_n 0, 1) := by decide +kernel
theorem dX3_swingOpen_11 : decode cX3_swingOpen 11 = .ok (.dup, 1) := by decide +kernel
theorem dX3_swingOpen_12 : decode cX3_swingOpen 12 = .ok (.getfield 22, 3) := by decide +kernel
theorem dX3_swingOpen_15 : decode cX3_swingOpen 15 = .ok (.iconst 1, 1) := by decide +kernel
theorem dX3_swingOpen_16 : decode cX3_swingOpen 16 = .ok (.iadd, 1) := by decide +kernel
theorem dX3_swingOpen_17 : decode cX3_swingOpen 17 = .ok (.putfield 22, 3) := by decide +kernel
theorem dX3_swingOpen_20 : decode cX3_swingOpen 20 = .ok (.return_, 1) := by decide +kernel
theorem dX3_countFailure_0 : decode cX3_countFailure 0 = .ok (.aload_n 0, 1) := by decide +kernel
theorem dX3_countFailure_1 : decode cX3_countFailure 1 = .ok (.dup, 1) := by decide +kernel
theorem dX3_countFailure_2 : decode cX3_countFailure 2 = .ok (.getfield 19, 3) := by decide +kernel
theorem dX3_countFailure_5 : decode cX3_countFailure 5 = .ok (.iconst 1, 1) := by decide +kernel
theorem dX3_countFailure_6 : decode cX3_countFailure 6 = .ok (.iadd, 1) := by decide +kernel
theorem dX3_countFailure_7 : decode cX3_countFailure 7 = .ok (.putfield 19, 3) := by decide +kernel
theorem dX3_countFailure_10 : decode cX3_countFailure 10 = .ok (.aload_n 0, 1) := by decide +kernel
theorem dX3_countFailure_11 : decode cX3_countFailure 11 = .ok (.getfield 19, 3) := by decide +kernel
theorem dX3_countFailure_14 : decode cX3_countFailure 14 = .ok (.iconst 3, 1) := by decide +kernel
theorem dX3_countFailure_15 : decode cX3_countFailure 15 = .ok (.if_icmp .ne 14, 3) := by decide +kernel
theorem dX3_countFailure_18 : decode cX3_countFailure 18 = .ok (.aload_n 0, 1) := by decide +kernel
theorem dX3_countFailure_19 : decode cX3_countFailure 19 = .ok (.iconst 0, 1) := by decide +kernel
theorem dX3_countFailure_20 : decode cX3_countFailure 20 = .ok (.putfield 19, 3) := by decide +kernel
theorem dX3_countFailure_23 : decode cX3_countFailure 23 = .ok (.aload_n 0, 1) := by decide +kernel
theorem dX3_countFailure_24 : decode cX3_countFailure 24 = .ok (.bipush 6, 2) := by decide +kernel
theorem dX3_countFailure_26 : decode cX3_countFailure 26 = .ok (.putfield 15, 3) := by decide +kernel
theorem dX3_countFailure_29 : decode cX3_countFailure 29 = .ok (.return_, 1) := by decide +kernel
theorem dX3_passOneHour_0 : decode cX3_passOneHour 0 = .ok (.aload_n 0, 1) := by decide +kernel
theorem dX3_passOneHour_1 : decode cX3_passOneHour 1 = .ok (.getfield 15, 3) := by decide +kernel
theorem dX3_passOneHour_4 : decode cX3_passOneHour 4 = .ok (.ifCond .le 13, 3) := by decide +kernel
theorem dX3_passOneHour_7 : decode cX3_passOneHour 7 = .ok (.aload_n 0, 1) := by decide +kernel
theorem dX3_passOneHour_8 : decode cX3_passOneHour 8 = .ok (.dup, 1) := by decide +kernel
theorem dX3_passOneHour_9 : decode cX3_passOneHour 9 = .ok (.getfield 15, 3) := by decide +kernel
theorem dX3_passOneHour_12 : decode cX3_passOneHour 12 = .ok (.iconst 1, 1) := by decide +kernel
theorem dX3_passOneHour_13 : decode cX3_passOneHour 13 = .ok (.isub, 1) := by decide +kernel
theorem dX3_passOneHour_14 : decode cX3_passOneHour 14 = .ok (.putfield 15, 3) := by decide +kernel
theorem dX3_passOneHour_17 : decode cX3_passOneHour 17 = .ok (.return_, 1) := by decide +kernel
theorem dX4_init_0 : decode cX4_init 0 = .ok (.aload_n 0, 1) := by decide +kernel
theorem dX4_init_1 : decode cX4_init 1 = .ok (.invokespecial 3, 3) := by decide +kernel
theorem dX4_init_4 : decode cX4_init 4 = .ok (.aload_n 0, 1) := by decide +kernel
theorem dX4_init_5 : decode cX4_init 5 = .ok (.bipush 9, 2) := by decide +kernel
theorem dX4_init_7 : decode cX4_init 7 = .ok (.anewarray 11, 3) := by decide +kernel
theorem dX4_init_10 : decode cX4_init 10 = .ok (.putfield 13, 3) := by decide +kernel
theorem dX4_init_13 : decode cX4_init 13 = .ok (.iconst 0, 1) := by decide +kernel
theorem dX4_init_14 : decode cX4_init 14 = .ok (.istore_n 1, 1) := by decide +kernel
theorem dX4_init_15 : decode cX4_init 15 = .ok (.iload_n 1, 1) := by decide +kernel
theorem dX4_init_16 : decode cX4_init 16 = .ok (.bipush 9, 2) := by decide +kernel
theorem dX4_init_18 : decode cX4_init 18 = .ok (.if_icmp .ge 22, 3) := by decide +kernel
theorem dX4_init_21 : decode cX4_init 21 = .ok (.aload_n 0, 1) := by decide +kernel
theorem dX4_init_22 : decode cX4_init 22 = .ok (.getfield 13, 3) := by decide +kernel
theorem dX4_init_25 : decode cX4_init 25 = .ok (.iload_n 1, 1) := by decide +kernel
theorem dX4_init_26 : decode cX4_init 26 = .ok (.new 11, 3) := by decide +kernel
theorem dX4_init_29 : decode cX4_init 29 = .ok (.dup, 1) := by decide +kernel
theorem dX4_init_30 : decode cX4_init 30 = .ok (.invokespecial 17, 3) := by decide +kernel
theorem dX4_init_33 : decode cX4_init 33 = .ok (.aastore, 1) := by decide +kernel
theorem dX4_init_34 : decode cX4_init 34 = .ok (.iinc 1 1, 3) := by decide +kernel
theorem dX4_init_37 : decode cX4_init 37 = .ok (.goto (-22), 3) := by decide +kernel
theorem dX4_init_40 : decode cX4_init 40 = .ok (.return_, 1) := by decide +kernel
theorem dX4_prepare_0 : decode cX4_prepare 0 = .ok (.aload_n 0, 1) := by decide +kernel
theorem dX4_prepare_1 : decode cX4_prepare 1 = .ok (.getfield 13, 3) := by decide +kernel
theorem dX4_prepare_4 : decode cX4_prepare 4 = .ok (.aload_n 0, 1) := by decide +kernel
theorem dX4_prepare_5 : decode cX4_prepare 5 = .ok (.getfield 18, 3) := by decide +kernel
theorem dX4_prepare_8 : decode cX4_prepare 8 = .ok (.aaload, 1) := by decide +kernel
theorem dX4_prepare_9 : decode cX4_prepare 9 = .ok (.aload_n 1, 1) := by decide +kernel
theorem dX4_prepare_10 : decode cX4_prepare 10 = .ok (.invokevirtual 22, 3) := by decide +kernel
theorem dX4_prepare_13 : decode cX4_prepare 13 = .ok (.return_, 1) := by decide +kernel
theorem dX4_prepared_0 : decode cX4_prepared 0 = .ok (.aload_n 0, 1) := by decide +kernel
theorem dX4_prepared_1 : decode cX4_prepared 1 = .ok (.getfield 13, 3) := by decide +kernel
theorem dX4_prepared_4 : decode cX4_prepared 4 = .ok (.aload_n 0, 1) := by decide +kernel
theorem dX4_prepared_5 : decode cX4_prepared 5 = .ok (.getfield 18, 3) := by decide +kernel
theorem dX4_prepared_8 : decode cX4_prepared 8 = .ok (.aaload, 1) := by decide +kernel
theorem dX4_prepared_9 : decode cX4_prepared 9 = .ok (.areturn, 1) := by decide +kernel
theorem dX4_keep_0 : decode cX4_keep 0 = .ok (.aload_n 0, 1) := by decide +kernel
theorem dX4_keep_1 : decode cX4_keep 1 = .ok (.aload_n 0, 1) := by decide +kernel
theorem dX4_keep_2 : decode cX4_keep 2 = .ok (.getfield 18, 3) := by decide +kernel
theorem dX4_keep_5 : decode cX4_keep 5 = .ok (.iconst 1, 1) := by decide +kernel
theorem dX4_keep_6 : decode cX4_keep 6 = .ok (.iadd, 1) := by decide +kernel
theorem dX4_keep_7 : decode cX4_keep 7 = .ok (.bipush 9, 2) := by decide +kernel
theorem dX4_keep_9 : decode cX4_keep 9 = .ok (.irem, 1) := by decide +kernel
theorem dX4_keep_10 : decode cX4_keep 10 = .ok (.putfield 18, 3) := by decide +kernel
theorem dX4_keep_13 : decode cX4_keep 13 = .ok (.aload_n 0, 1) := by decide +kernel
theorem dX4_keep_14 : decode cX4_keep 14 = .ok (.aload_n 0, 1) := by decide +kernel
theorem dX4_keep_15 : decode cX4_keep 15 = .ok (.getfield 26, 3) := by decide +kernel
theorem dX4_keep_18 : decode cX4_keep 18 = .ok (.iconst 1, 1) := by decide +kernel
theorem dX4_keep_19 : decode cX4_keep 19 = .ok (.iadd, 1) := by decide +kernel
theorem dX4_keep_20 : decode cX4_keep 20 = .ok (.bipush 8, 2) := by decide +kernel
theorem dX4_keep_22 : decode cX4_keep 22 = .ok (.invokestatic 29, 3) := by decide +kernel
theorem dX4_keep_25 : decode cX4_keep 25 = .ok (.putfield 26, 3) := by decide +kernel
theorem dX4_keep_28 : decode cX4_keep 28 = .ok (.return_, 1) := by decide +kernel
theorem dX4_takeLatest_0 : decode cX4_takeLatest 0 = .ok (.aload_n 0, 1) := by decide +kernel
theorem dX4_takeLatest_1 : decode cX4_takeLatest 1 = .ok (.aload_n 0, 1) := by decide +kernel
theorem dX4_takeLatest_2 : decode cX4_takeLatest 2 = .ok (.getfield 18, 3) := by decide +kernel
theorem dX4_takeLatest_5 : decode cX4_takeLatest 5 = .ok (.bipush 9, 2) := by decide +kernel
theorem dX4_takeLatest_7 : decode cX4_takeLatest 7 = .ok (.iadd, 1) := by decide +kernel
theorem dX4_takeLatest_8 : decode cX4_takeLatest 8 = .ok (.iconst 1, 1) := by decide +kernel
theorem dX4_takeLatest_9 : decode cX4_takeLatest 9 = .ok (.isub, 1) := by decide +kernel
theorem dX4_takeLatest_10 : decode cX4_takeLatest 10 = .ok (.bipush 9, 2) := by decide +kernel
theorem dX4_takeLatest_12 : decode cX4_takeLatest 12 = .ok (.irem, 1) := by decide +kernel
theorem dX4_takeLatest_13 : decode cX4_takeLatest 13 = .ok (.putfield 18, 3) := by decide +kernel
theorem dX4_takeLatest_16 : decode cX4_takeLatest 16 = .ok (.aload_n 0, 1) := by decide +kernel
theorem dX4_takeLatest_17 : decode cX4_takeLatest 17 = .ok (.dup, 1) := by decide +kernel
theorem dX4_takeLatest_18 : decode cX4_takeLatest 18 = .ok (.getfield 26, 3) := by decide +kernel
theorem dX4_takeLatest_21 : decode cX4_takeLatest 21 = .ok (.iconst 1, 1) := by decide +kernel
theorem dX4_takeLatest_22 : decode cX4_takeLatest 22 = .ok (.isub, 1) := by decide +kernel
theorem dX4_takeLatest_23 : decode cX4_takeLatest 23 = .ok (.putfield 26, 3) := by decide +kernel
theorem dX4_takeLatest_26 : decode cX4_takeLatest 26 = .ok (.aload_n 0, 1) := by decide +kernel
theorem dX4_takeLatest_27 : decode cX4_takeLatest 27 = .ok (.getfield 13, 3) := by decide +kernel
theorem dX4_takeLatest_30 : decode cX4_takeLatest 30 = .ok (.aload_n 0, 1) := by decide +kernel
theorem dX4_takeLatest_31 : decode cX4_takeLatest 31 = .ok (.getfield 18, 3) := by decide +kernel
theorem dX4_takeLatest_34 : decode cX4_takeLatest 34 = .ok (.aaload, 1) := by decide +kernel
theorem dX4_takeLatest_35 : decode cX4_takeLatest 35 = .ok (.areturn, 1) := by decide +kernel
theorem dX4_clear_0 : decode cX4_clear 0 = .ok (.aload_n 0, 1) := by decide +kernel
theorem dX4_clear_1 : decode cX4_clear 1 = .ok (.iconst 0, 1) := by decide +kernel
theorem dX4_clear_2 : decode cX4_clear 2 = .ok (.putfield 26, 3) := by decide +kernel
theorem dX4_clear_5 : decode cX4_clear 5 = .ok (.return_, 1) := by decide +kernel
theorem dX5_init_0 : decode cX5_init 0 = .ok (.aload_n 0, 1) := by decide +kernel
theorem dX5_init_1 : decode cX5_init 1 = .ok (.invokespecial 3, 3) := by decide +kernel
theorem dX5_init_4 : decode cX5_init 4 = .ok (.aload_n 0, 1) := by decide +kernel
theorem dX5_init_5 : decode cX5_init 5 = .ok (.bipush 12, 2) := by decide +kernel
theorem dX5_init_7 : decode cX5_init 7 = .ok (.newarray .int, 2) := by decide +kernel
theorem dX5_init_9 : decode cX5_init 9 = .ok (.putfield 9, 3) := by decide +kernel
theorem dX5_init_12 : decode cX5_init 12 = .ok (.aload_n 0, 1) := by decide +kernel
theorem dX5_init_13 : decode cX5_init 13 = .ok (.bipush 12, 2) := by decide +kernel
theorem dX5_init_15 : decode cX5_init 15 = .ok (.newarray .char, 2) := by decide +kernel
theorem dX5_init_17 : decode cX5_init 17 = .ok (.putfield 15, 3) := by decide +kernel
theorem dX5_init_20 : decode cX5_init 20 = .ok (.aload_n 0, 1) := by decide +kernel
theorem dX5_init_21 : decode cX5_init 21 = .ok (.bipush 12, 2) := by decide +kernel
theorem dX5_init_23 : decode cX5_init 23 = .ok (.newarray .int, 2) := by decide +kernel
theorem dX5_init_25 : decode cX5_init 25 = .ok (.putfield 19, 3) := by decide +kernel
theorem dX5_init_28 : decode cX5_init 28 = .ok (.return_, 1) := by decide +kernel
theorem dX5_copyFrom_0 : decode cX5_copyFrom 0 = .ok (.aload_n 0, 1) := by decide +kernel
theorem dX5_copyFrom_1 : decode cX5_copyFrom 1 = .ok (.aload_n 1, 1) := by decide +kernel
theorem dX5_copyFrom_2 : decode cX5_copyFrom 2 = .ok (.getfield 22, 3) := by decide +kernel
theorem dX5_copyFrom_5 : decode cX5_copyFrom 5 = .ok (.putfield 22, 3) := by decide +kernel
theorem dX5_copyFrom_8 : decode cX5_copyFrom 8 = .ok (.aload_n 1, 1) := by decide +kernel
theorem dX5_copyFrom_9 : decode cX5_copyFrom 9 = .ok (.getfield 9, 3) := by decide +kernel
theorem dX5_copyFrom_12 : decode cX5_copyFrom 12 = .ok (.iconst 0, 1) := by decide +kernel
theorem dX5_copyFrom_13 : decode cX5_copyFrom 13 = .ok (.aload_n 0, 1) := by decide +kernel
theorem dX5_copyFrom_14 : decode cX5_copyFrom 14 = .ok (.getfield 9, 3) := by decide +kernel
theorem dX5_copyFrom_17 : decode cX5_copyFrom 17 = .ok (.iconst 0, 1) := by decide +kernel
theorem dX5_copyFrom_18 : decode cX5_copyFrom 18 = .ok (.bipush 12, 2) := by decide +kernel
theorem dX5_copyFrom_20 : decode cX5_copyFrom 20 = .ok (.invokestatic 26, 3) := by decide +kernel
theorem dX5_copyFrom_23 : decode cX5_copyFrom 23 = .ok (.aload_n 1, 1) := by decide +kernel
theorem dX5_copyFrom_24 : decode cX5_copyFrom 24 = .ok (.getfield 15, 3) := by decide +kernel
theorem dX5_copyFrom_27 : decode cX5_copyFrom 27 = .ok (.iconst 0, 1) := by decide +kernel
theorem dX5_copyFrom_28 : decode cX5_copyFrom 28 = .ok (.aload_n 0, 1) := by decide +kernel
theorem dX5_copyFrom_29 : decode cX5_copyFrom 29 = .ok (.getfield 15, 3) := by decide +kernel
theorem dX5_copyFrom_32 : decode cX5_copyFrom 32 = .ok (.iconst 0, 1) := by decide +kernel
theorem dX5_copyFrom_33 : decode cX5_copyFrom 33 = .ok (.bipush 12, 2) := by decide +kernel
theorem dX5_copyFrom_35 : decode cX5_copyFrom 35 = .ok (.invokestatic 26, 3) := by decide +kernel
theorem dX5_copyFrom_38 : decode cX5_copyFrom 38 = .ok (.aload_n 1, 1) := by decide +kernel
theorem dX5_copyFrom_39 : decode cX5_copyFrom 39 = .ok (.getfield 19, 3) := by decide +kernel
theorem dX5_copyFrom_42 : decode cX5_copyFrom 42 = .ok (.iconst 0, 1) := by decide +kernel
theorem dX5_copyFrom_43 : decode cX5_copyFrom 43 = .ok (.aload_n 0, 1) := by decide +kernel
theorem dX5_copyFrom_44 : decode cX5_copyFrom 44 = .ok (.getfield 19, 3) := by decide +kernel
theorem dX5_copyFrom_47 : decode cX5_copyFrom 47 = .ok (.iconst 0, 1) := by decide +kernel
theorem dX5_copyFrom_48 : decode cX5_copyFrom 48 = .ok (.bipush 12, 2) := by decide +kernel
theorem dX5_copyFrom_50 : decode cX5_copyFrom 50 = .ok (.invokestatic 26, 3) := by decide +kernel
theorem dX5_copyFrom_53 : decode cX5_copyFrom 53 = .ok (.return_, 1) := by decide +kernel
theorem dX5_enter_0 : decode cX5_enter 0 = .ok (.aload_n 0, 1) := by decide +kernel
theorem dX5_enter_1 : decode cX5_enter 1 = .ok (.getfield 22, 3) := by decide +kernel
theorem dX5_enter_4 : decode cX5_enter 4 = .ok (.bipush 12, 2) := by decide +kernel
theorem dX5_enter_6 : decode cX5_enter 6 = .ok (.if_icmp .ne 7, 3) := by decide +kernel
theorem dX5_enter_9 : decode cX5_enter 9 = .ok (.aload_n 0, 1) := by decide +kernel
theorem dX5_enter_10 : decode cX5_enter 10 = .ok (.invokevirtual 32, 3) := by decide +kernel
theorem dX5_enter_13 : decode cX5_enter 13 = .ok (.aload_n 0, 1) := by decide +kernel
theorem dX5_enter_14 : decode cX5_enter 14 = .ok (.getfield 9, 3) := by decide +kernel
theorem dX5_enter_17 : decode cX5_enter 17 = .ok (.aload_n 0, 1) := by decide +kernel
theorem dX5_enter_18 : decode cX5_enter 18 = .ok (.getfield 22, 3) := by decide +kernel
theorem dX5_enter_21 : decode cX5_enter 21 = .ok (.iload_n 1, 1) := by decide +kernel
theorem dX5_enter_22 : decode cX5_enter 22 = .ok (.iastore, 1) := by decide +kernel
theorem dX5_enter_23 : decode cX5_enter 23 = .ok (.aload_n 0, 1) := by decide +kernel
theorem dX5_enter_24 : decode cX5_enter 24 = .ok (.getfield 15, 3) := by decide +kernel
theorem dX5_enter_27 : decode cX5_enter 27 = .ok (.aload_n 0, 1) := by decide +kernel
theorem dX5_enter_28 : decode cX5_enter 28 = .ok (.getfield 22, 3) := by decide +kernel
theorem dX5_enter_31 : decode cX5_enter 31 = .ok (.iload_n 2, 1) := by decide +kernel
theorem dX5_enter_32 : decode cX5_enter 32 = .ok (.castore, 1) := by decide +kernel
theorem dX5_enter_33 : decode cX5_enter 33 = .ok (.aload_n 0, 1) := by decide +kernel
theorem dX5_enter_34 : decode cX5_enter 34 = .ok (.getfield 19, 3) := by decide +kernel
theorem dX5_enter_37 : decode cX5_enter 37 = .ok (.aload_n 0, 1) := by decide +kernel
theorem dX5_enter_38 : decode cX5_enter 38 = .ok (.getfield 22, 3) := by decide +kernel
theorem dX5_enter_41 : decode cX5_enter 41 = .ok (.iload_n 3, 1) := by decide +kernel
theorem dX5_enter_42 : decode cX5_enter 42 = .ok (.iastore, 1) := by decide +kernel
theorem dX5_enter_43 : decode cX5_enter 43 = .ok (.aload_n 0, 1) := by decide +kernel
theorem dX5_enter_44 : decode cX5_enter 44 = .ok (.dup, 1) := by decide +kernel
theorem dX5_enter_45 : decode cX5_enter 45 = .ok (.getfield 22, 3) := by decide +kernel
theorem dX5_enter_48 : decode cX5_enter 48 = .ok (.iconst 1, 1) := by decide +kernel
theorem dX5_enter_49 : decode cX5_enter 49 = .ok (.iadd, 1) := by decide +kernel
theorem dX5_enter_50 : decode cX5_enter 50 = .ok (.putfield 22, 3) := by decide +kernel
theorem dX5_enter_53 : decode cX5_enter 53 = .ok (.return_, 1) := by decide +kernel
theorem dX5_dropOldest_0 : decode cX5_dropOldest 0 = .ok (.aload_n 0, 1) := by decide +kernel
theorem dX5_dropOldest_1 : decode cX5_dropOldest 1 = .ok (.dup, 1) := by decide +kernel
theorem dX5_dropOldest_2 : decode cX5_dropOldest 2 = .ok (.getfield 22, 3) := by decide +kernel
theorem dX5_dropOldest_5 : decode cX5_dropOldest 5 = .ok (.iconst 1, 1) := by decide +kernel
theorem dX5_dropOldest_6 : decode cX5_dropOldest 6 = .ok (.isub, 1) := by decide +kernel
theorem dX5_dropOldest_7 : decode cX5_dropOldest 7 = .ok (.putfield 22, 3) := by decide +kernel
theorem dX5_dropOldest_10 : decode cX5_dropOldest 10 = .ok (.aload_n 0, 1) := by decide +kernel
theorem dX5_dropOldest_11 : decode cX5_dropOldest 11 = .ok (.getfield 9, 3) := by decide +kernel
theorem dX5_dropOldest_14 : decode cX5_dropOldest 14 = .ok (.iconst 1, 1) := by decide +kernel
theorem dX5_dropOldest_15 : decode cX5_dropOldest 15 = .ok (.aload_n 0, 1) := by decide +kernel
theorem dX5_dropOldest_16 : decode cX5_dropOldest 16 = .ok (.getfield 9, 3) := by decide +kernel
theorem dX5_dropOldest_19 : decode cX5_dropOldest 19 = .ok (.iconst 0, 1) := by decide +kernel
theorem dX5_dropOldest_20 : decode cX5_dropOldest 20 = .ok (.aload_n 0, 1) := by decide +kernel
theorem dX5_dropOldest_21 : decode cX5_dropOldest 21 = .ok (.getfield 22, 3) := by decide +kernel
theorem dX5_dropOldest_24 : decode cX5_dropOldest 24 = .ok (.invokestatic 26, 3) := by decide +kernel
theorem dX5_dropOldest_27 : decode cX5_dropOldest 27 = .ok (.aload_n 0, 1) := by decide +kernel
theorem dX5_dropOldest_28 : decode cX5_dropOldest 28 = .ok (.getfield 15, 3) := by decide +kernel
theorem dX5_dropOldest_31 : decode cX5_dropOldest 31 = .ok (.iconst 1, 1) := by decide +kernel
theorem dX5_dropOldest_32 : decode cX5_dropOldest 32 = .ok (.aload_n 0, 1) := by decide +kernel
theorem dX5_dropOldest_33 : decode cX5_dropOldest 33 = .ok (.getfield 15, 3) := by decide +kernel
theorem dX5_dropOldest_36 : decode cX5_dropOldest 36 = .ok (.iconst 0, 1) := by decide +kernel
theorem dX5_dropOldest_37 : decode cX5_dropOldest 37 = .ok (.aload_n 0, 1) := by decide +kernel
theorem dX5_dropOldest_38 : decode cX5_dropOldest 38 = .ok (.getfield 22, 3) := by decide +kernel
theorem dX5_dropOldest_41 : decode cX5_dropOldest 41 = .ok (.invokestatic 26, 3) := by decide +kernel
theorem dX5_dropOldest_44 : decode cX5_dropOldest 44 = .ok (.aload_n 0, 1) := by decide +kernel
theorem dX5_dropOldest_45 : decode cX5_dropOldest 45 = .ok (.getfield 19, 3) := by decide +kernel
theorem dX5_dropOldest_48 : decode cX5_dropOldest 48 = .ok (.iconst 1, 1) := by decide +kernel
theorem dX5_dropOldest_49 : decode cX5_dropOldest 49 = .ok (.aload_n 0, 1) := by decide +kernel
theorem dX5_dropOldest_50 : decode cX5_dropOldest 50 = .ok (.getfield 19, 3) := by decide +kernel
theorem dX5_dropOldest_53 : decode cX5_dropOldest 53 = .ok (.iconst 0, 1) := by decide +kernel
theorem dX5_dropOldest_54 : decode cX5_dropOldest 54 = .ok (.aload_n 0, 1) := by decide +kernel
theorem dX5_dropOldest_55 : decode cX5_dropOldest 55 = .ok (.getfield 22, 3) := by decide +kernel
theorem dX5_dropOldest_58 : decode cX5_dropOldest 58 = .ok (.invokestatic 26, 3) := by decide +kernel
theorem dX5_dropOldest_61 : decode cX5_dropOldest 61 = .ok (.return_, 1) := by decide +kernel
theorem dX6_init_0 : decode cX6_init 0 = .ok (.aload_n 0, 1) := by decide +kernel
theorem dX6_init_1 : decode cX6_init 1 = .ok (.invokespecial 3, 3) := by decide +kernel
theorem dX6_init_4 : decode cX6_init 4 = .ok (.aload_n 0, 1) := by decide +kernel
theorem dX6_init_5 : decode cX6_init 5 = .ok (.bipush 8, 2) := by decide +kernel
theorem dX6_init_7 : decode cX6_init 7 = .ok (.newarray .int, 2) := by decide +kernel
theorem dX6_init_9 : decode cX6_init 9 = .ok (.putfield 9, 3) := by decide +kernel
theorem dX6_init_12 : decode cX6_init 12 = .ok (.aload_n 0, 1) := by decide +kernel
theorem dX6_init_13 : decode cX6_init 13 = .ok (.iconst 3, 1) := by decide +kernel
theorem dX6_init_14 : decode cX6_init 14 = .ok (.newarray .int, 2) := by decide +kernel
theorem dX6_init_16 : decode cX6_init 16 = .ok (.putfield 15, 3) := by decide +kernel
theorem dX6_init_19 : decode cX6_init 19 = .ok (.aload_n 0, 1) := by decide +kernel
theorem dX6_init_20 : decode cX6_init 20 = .ok (.bipush 8, 2) := by decide +kernel
theorem dX6_init_22 : decode cX6_init 22 = .ok (.newarray .int, 2) := by decide +kernel
theorem dX6_init_24 : decode cX6_init 24 = .ok (.putfield 18, 3) := by decide +kernel
theorem dX6_init_27 : decode cX6_init 27 = .ok (.return_, 1) := by decide +kernel
theorem dX6_copyFrom_0 : decode cX6_copyFrom 0 = .ok (.aload_n 0, 1) := by decide +kernel
theorem dX6_copyFrom_1 : decode cX6_copyFrom 1 = .ok (.aload_n 1, 1) := by decide +kernel
theorem dX6_copyFrom_2 : decode cX6_copyFrom 2 = .ok (.getfield 21, 3) := by decide +kernel
theorem dX6_copyFrom_5 : decode cX6_copyFrom 5 = .ok (.putfield 21, 3) := by decide +kernel
theorem dX6_copyFrom_8 : decode cX6_copyFrom 8 = .ok (.aload_n 1, 1) := by decide +kernel
theorem dX6_copyFrom_9 : decode cX6_copyFrom 9 = .ok (.getfield 9, 3) := by decide +kernel
theorem dX6_copyFrom_12 : decode cX6_copyFrom 12 = .ok (.iconst 0, 1) := by decide +kernel
theorem dX6_copyFrom_13 : decode cX6_copyFrom 13 = .ok (.aload_n 0, 1) := by decide +kernel
theorem dX6_copyFrom_14 : decode cX6_copyFrom 14 = .ok (.getfield 9, 3) := by decide +kernel
theorem dX6_copyFrom_17 : decode cX6_copyFrom 17 = .ok (.iconst 0, 1) := by decide +kernel
theorem dX6_copyFrom_18 : decode cX6_copyFrom 18 = .ok (.bipush 8, 2) := by decide +kernel
theorem dX6_copyFrom_20 : decode cX6_copyFrom 20 = .ok (.invokestatic 25, 3) := by decide +kernel
theorem dX6_copyFrom_23 : decode cX6_copyFrom 23 = .ok (.aload_n 0, 1) := by decide +kernel
theorem dX6_copyFrom_24 : decode cX6_copyFrom 24 = .ok (.aload_n 1, 1) := by decide +kernel
theorem dX6_copyFrom_25 : decode cX6_copyFrom 25 = .ok (.getfield 31, 3) := by decide +kernel
theorem dX6_copyFrom_28 : decode cX6_copyFrom 28 = .ok (.putfield 31, 3) := by decide +kernel
theorem dX6_copyFrom_31 : decode cX6_copyFrom 31 = .ok (.aload_n 0, 1) := by decide +kernel
theorem dX6_copyFrom_32 : decode cX6_copyFrom 32 = .ok (.aload_n 1, 1) := by decide +kernel
theorem dX6_copyFrom_33 : decode cX6_copyFrom 33 = .ok (.getfield 35, 3) := by decide +kernel
theorem dX6_copyFrom_36 : decode cX6_copyFrom 36 = .ok (.putfield 35, 3) := by decide +kernel
theorem dX6_copyFrom_39 : decode cX6_copyFrom 39 = .ok (.aload_n 1, 1) := by decide +kernel
theorem dX6_copyFrom_40 : decode cX6_copyFrom 40 = .ok (.getfield 15, 3) := by decide +kernel
theorem dX6_copyFrom_43 : decode cX6_copyFrom 43 = .ok (.iconst 0, 1) := by decide +kernel
theorem dX6_copyFrom_44 : decode cX6_copyFrom 44 = .ok (.aload_n 0, 1) := by decide +kernel
theorem dX6_copyFrom_45 : decode cX6_copyFrom 45 = .ok (.getfield 15, 3) := by decide +kernel
theorem dX6_copyFrom_48 : decode cX6_copyFrom 48 = .ok (.iconst 0, 1) := by decide +kernel
theorem dX6_copyFrom_49 : decode cX6_copyFrom 49 = .ok (.iconst 3, 1) := by decide +kernel
theorem dX6_copyFrom_50 : decode cX6_copyFrom 50 = .ok (.invokestatic 25, 3) := by decide +kernel
theorem dX6_copyFrom_53 : decode cX6_copyFrom 53 = .ok (.aload_n 0, 1) := by decide +kernel
theorem dX6_copyFrom_54 : decode cX6_copyFrom 54 = .ok (.aload_n 1, 1) := by decide +kernel
theorem dX6_copyFrom_55 : decode cX6_copyFrom 55 = .ok (.getfield 38, 3) := by decide +kernel
theorem dX6_copyFrom_58 : decode cX6_copyFrom 58 = .ok (.putfield 38, 3) := by decide +kernel
theorem dX6_copyFrom_61 : decode cX6_copyFrom 61 = .ok (.aload_n 1, 1) := by decide +kernel
theorem dX6_copyFrom_62 : decode cX6_copyFrom 62 = .ok (.getfield 18, 3) := by decide +kernel
theorem dX6_copyFrom_65 : decode cX6_copyFrom 65 = .ok (.iconst 0, 1) := by decide +kernel
theorem dX6_copyFrom_66 : decode cX6_copyFrom 66 = .ok (.aload_n 0, 1) := by decide +kernel
theorem dX6_copyFrom_67 : decode cX6_copyFrom 67 = .ok (.getfield 18, 3) := by decide +kernel
theorem dX6_copyFrom_70 : decode cX6_copyFrom 70 = .ok (.iconst 0, 1) := by decide +kernel
theorem dX6_copyFrom_71 : decode cX6_copyFrom 71 = .ok (.bipush 8, 2) := by decide +kernel
theorem dX6_copyFrom_73 : decode cX6_copyFrom 73 = .ok (.invokestatic 25, 3) := by decide +kernel
theorem dX6_copyFrom_76 : decode cX6_copyFrom 76 = .ok (.return_, 1) := by decide +kernel
theorem dX6_positionOf_0 : decode cX6_positionOf 0 = .ok (.iload_n 0, 1) := by decide +kernel
theorem dX6_positionOf_1 : decode cX6_positionOf 1 = .ok (.iconst 1, 1) := by decide +kernel
theorem dX6_positionOf_2 : decode cX6_positionOf 2 = .ok (.iadd, 1) := by decide +kernel
theorem dX6_positionOf_3 : decode cX6_positionOf 3 = .ok (.ireturn, 1) := by decide +kernel
theorem dX6_isResidue_0 : decode cX6_isResidue 0 = .ok (.iload_n 0, 1) := by decide +kernel
theorem dX6_isResidue_1 : decode cX6_isResidue 1 = .ok (.ifCond .lt 13, 3) := by decide +kernel
theorem dX6_isResidue_4 : decode cX6_isResidue 4 = .ok (.iload_n 0, 1) := by decide +kernel
theorem dX6_isResidue_5 : decode cX6_isResidue 5 = .ok (.bipush 97, 2) := by decide +kernel
theorem dX6_isResidue_7 : decode cX6_isResidue 7 = .ok (.if_icmp .ge 7, 3) := by decide +kernel
theorem dX6_isResidue_10 : decode cX6_isResidue 10 = .ok (.iconst 1, 1) := by decide +kernel
theorem dX6_isResidue_11 : decode cX6_isResidue 11 = .ok (.goto 4, 3) := by decide +kernel
theorem dX6_isResidue_14 : decode cX6_isResidue 14 = .ok (.iconst 0, 1) := by decide +kernel
theorem dX6_isResidue_15 : decode cX6_isResidue 15 = .ok (.ireturn, 1) := by decide +kernel
theorem dX6_hasHolder_0 : decode cX6_hasHolder 0 = .ok (.iload_n 1, 1) := by decide +kernel
theorem dX6_hasHolder_1 : decode cX6_hasHolder 1 = .ok (.ifCond .lt 15, 3) := by decide +kernel
theorem dX6_hasHolder_4 : decode cX6_hasHolder 4 = .ok (.iload_n 1, 1) := by decide +kernel
theorem dX6_hasHolder_5 : decode cX6_hasHolder 5 = .ok (.aload_n 0, 1) := by decide +kernel
theorem dX6_hasHolder_6 : decode cX6_hasHolder 6 = .ok (.getfield 21, 3) := by decide +kernel
theorem dX6_hasHolder_9 : decode cX6_hasHolder 9 = .ok (.if_icmp .ge 7, 3) := by decide +kernel
theorem dX6_hasHolder_12 : decode cX6_hasHolder 12 = .ok (.iconst 1, 1) := by decide +kernel
theorem dX6_hasHolder_13 : decode cX6_hasHolder 13 = .ok (.goto 4, 3) := by decide +kernel
theorem dX6_hasHolder_16 : decode cX6_hasHolder 16 = .ok (.iconst 0, 1) := by decide +kernel
theorem dX6_hasHolder_17 : decode cX6_hasHolder 17 = .ok (.ireturn, 1) := by decide +kernel
theorem dX6_areEnough_0 : decode cX6_areEnough 0 = .ok (.aload_n 0, 1) := by decide +kernel
theorem dX6_areEnough_1 : decode cX6_areEnough 1 = .ok (.getfield 31, 3) := by decide +kernel
theorem dX6_areEnough_4 : decode cX6_areEnough 4 = .ok (.ifCond .eq 18, 3) := by decide +kernel
theorem dX6_areEnough_7 : decode cX6_areEnough 7 = .ok (.aload_n 0, 1) := by decide +kernel
theorem dX6_areEnough_8 : decode cX6_areEnough 8 = .ok (.getfield 38, 3) := by decide +kernel
theorem dX6_areEnough_11 : decode cX6_areEnough 11 = .ok (.aload_n 0, 1) := by decide +kernel
theorem dX6_areEnough_12 : decode cX6_areEnough 12 = .ok (.getfield 35, 3) := by decide +kernel
theorem dX6_areEnough_15 : decode cX6_areEnough 15 = .ok (.if_icmp .lt 7, 3) := by decide +kernel
theorem dX6_areEnough_18 : decode cX6_areEnough 18 = .ok (.iconst 1, 1) := by decide +kernel
theorem dX6_areEnough_19 : decode cX6_areEnough 19 = .ok (.goto 4, 3) := by decide +kernel
theorem dX6_areEnough_22 : decode cX6_areEnough 22 = .ok (.iconst 0, 1) := by decide +kernel
theorem dX6_areEnough_23 : decode cX6_areEnough 23 = .ok (.ireturn, 1) := by decide +kernel
theorem dX6_valueOn_0 : decode cX6_valueOn 0 = .ok (.iconst 0, 1) := by decide +kernel
theorem dX6_valueOn_1 : decode cX6_valueOn 1 = .ok (.istore_n 2, 1) := by decide +kernel
theorem dX6_valueOn_2 : decode cX6_valueOn 2 = .ok (.aload_n 0, 1) := by decide +kernel
theorem dX6_valueOn_3 : decode cX6_valueOn 3 = .ok (.arraylength, 1) := by decide +kernel
theorem dX6_valueOn_4 : decode cX6_valueOn 4 = .ok (.iconst 1, 1) := by decide +kernel
theorem dX6_valueOn_5 : decode cX6_valueOn 5 = .ok (.isub, 1) := by decide +kernel
theorem dX6_valueOn_6 : decode cX6_valueOn 6 = .ok (.istore_n 3, 1) := by decide +kernel
theorem dX6_valueOn_7 : decode cX6_valueOn 7 = .ok (.iload_n 3, 1) := by decide +kernel
theorem dX6_valueOn_8 : decode cX6_valueOn 8 = .ok (.ifCond .lt 20, 3) := by decide +kernel
theorem dX6_valueOn_11 : decode cX6_valueOn 11 = .ok (.iload_n 2, 1) := by decide +kernel
theorem dX6_valueOn_12 : decode cX6_valueOn 12 = .ok (.iload_n 1, 1) := by decide +kernel
theorem dX6_valueOn_13 : decode cX6_valueOn 13 = .ok (.imul, 1) := by decide +kernel
theorem dX6_valueOn_14 : decode cX6_valueOn 14 = .ok (.aload_n 0, 1) := by decide +kernel
theorem dX6_valueOn_15 : decode cX6_valueOn 15 = .ok (.iload_n 3, 1) := by decide +kernel
theorem dX6_valueOn_16 : decode cX6_valueOn 16 = .ok (.iaload, 1) := by decide +kernel
theorem dX6_valueOn_17 : decode cX6_valueOn 17 = .ok (.iadd, 1) := by decide +kernel
theorem dX6_valueOn_18 : decode cX6_valueOn 18 = .ok (.bipush 97, 2) := by decide +kernel
theorem dX6_valueOn_20 : decode cX6_valueOn 20 = .ok (.irem, 1) := by decide +kernel
theorem dX6_valueOn_21 : decode cX6_valueOn 21 = .ok (.istore_n 2, 1) := by decide +kernel
theorem dX6_valueOn_22 : decode cX6_valueOn 22 = .ok (.iinc 3 (-1), 3) := by decide +kernel
theorem dX6_valueOn_25 : decode cX6_valueOn 25 = .ok (.goto (-18), 3) := by decide +kernel
theorem dX6_valueOn_28 : decode cX6_valueOn 28 = .ok (.iload_n 2, 1) := by decide +kernel
theorem dX6_valueOn_29 : decode cX6_valueOn 29 = .ok (.ireturn, 1) := by decide +kernel
theorem dX6_correctShare_0 : decode cX6_correctShare 0 = .ok (.aload_n 0, 1) := by decide +kernel
theorem dX6_correctShare_1 : decode cX6_correctShare 1 = .ok (.getfield 15, 3) := by decide +kernel
theorem dX6_correctShare_4 : decode cX6_correctShare 4 = .ok (.iload_n 1, 1) := by decide +kernel
theorem dX6_correctShare_5 : decode cX6_correctShare 5 = .ok (.invokestatic 41, 3) := by decide +kernel
theorem dX6_correctShare_8 : decode cX6_correctShare 8 = .ok (.invokestatic 45, 3) := by decide +kernel
theorem dX6_correctShare_11 : decode cX6_correctShare 11 = .ok (.ireturn, 1) := by decide +kernel
theorem dX6_placeOf_0 : decode cX6_placeOf 0 = .ok (.iconst 0, 1) := by decide +kernel
theorem dX6_placeOf_1 : decode cX6_placeOf 1 = .ok (.istore_n 2, 1) := by decide +kernel
theorem dX6_placeOf_2 : decode cX6_placeOf 2 = .ok (.iload_n 2, 1) := by decide +kernel
theorem dX6_placeOf_3 : decode cX6_placeOf 3 = .ok (.aload_n 0, 1) := by decide +kernel
theorem dX6_placeOf_4 : decode cX6_placeOf 4 = .ok (.getfield 38, 3) := by decide +kernel
theorem dX6_placeOf_7 : decode cX6_placeOf 7 = .ok (.if_icmp .ge 21, 3) := by decide +kernel
theorem dX6_placeOf_10 : decode cX6_placeOf 10 = .ok (.aload_n 0, 1) := by decide +kernel
theorem dX6_placeOf_11 : decode cX6_placeOf 11 = .ok (.getfield 18, 3) := by decide +kernel
theorem dX6_placeOf_14 : decode cX6_placeOf 14 = .ok (.iload_n 2, 1) := by decide +kernel
theorem dX6_placeOf_15 : decode cX6_placeOf 15 = .ok (.iaload, 1) := by decide +kernel
theorem dX6_placeOf_16 : decode cX6_placeOf 16 = .ok (.iload_n 1, 1) := by decide +kernel
theorem dX6_placeOf_17 : decode cX6_placeOf 17 = .ok (.if_icmp .ne 5, 3) := by decide +kernel
theorem dX6_placeOf_20 : decode cX6_placeOf 20 = .ok (.iload_n 2, 1) := by decide +kernel
theorem dX6_placeOf_21 : decode cX6_placeOf 21 = .ok (.ireturn, 1) := by decide +kernel
theorem dX6_placeOf_22 : decode cX6_placeOf 22 = .ok (.iinc 2 1, 3) := by decide +kernel
theorem dX6_placeOf_25 : decode cX6_placeOf 25 = .ok (.goto (-23), 3) := by decide +kernel
theorem dX6_placeOf_28 : decode cX6_placeOf 28 = .ok (.iconst (-1), 1) := by decide +kernel
theorem dX6_placeOf_29 : decode cX6_placeOf 29 = .ok (.ireturn, 1) := by decide +kernel
theorem dX6_join_0 : decode cX6_join 0 = .ok (.aload_n 0, 1) := by decide +kernel
theorem dX6_join_1 : decode cX6_join 1 = .ok (.getfield 21, 3) := by decide +kernel
theorem dX6_join_4 : decode cX6_join 4 = .ok (.istore_n 1, 1) := by decide +kernel
theorem dX6_join_5 : decode cX6_join 5 = .ok (.aload_n 0, 1) := by decide +kernel
theorem dX6_join_6 : decode cX6_join 6 = .ok (.dup, 1) := by decide +kernel
theorem dX6_join_7 : decode cX6_join 7 = .ok (.getfield 21, 3) := by decide +kernel
theorem dX6_join_10 : decode cX6_join 10 = .ok (.iconst 1, 1) := by decide +kernel
theorem dX6_join_11 : decode cX6_join 11 = .ok (.iadd, 1) := by decide +kernel
theorem dX6_join_12 : decode cX6_join 12 = .ok (.putfield 21, 3) := by decide +kernel
theorem dX6_join_15 : decode cX6_join 15 = .ok (.aload_n 0, 1) := by decide +kernel
theorem dX6_join_16 : decode cX6_join 16 = .ok (.getfield 9, 3) := by decide +kernel
theorem dX6_join_19 : decode cX6_join 19 = .ok (.iload_n 1, 1) := by decide +kernel
theorem dX6_join_20 : decode cX6_join 20 = .ok (.aload_n 0, 1) := by decide +kernel
theorem dX6_join_21 : decode cX6_join 21 = .ok (.iload_n 1, 1) := by decide +kernel
theorem dX6_join_22 : decode cX6_join 22 = .ok (.invokevirtual 49, 3) := by decide +kernel
theorem dX6_join_25 : decode cX6_join 25 = .ok (.iastore, 1) := by decide +kernel
theorem dX6_join_26 : decode cX6_join 26 = .ok (.iload_n 1, 1) := by decide +kernel
theorem dX6_join_27 : decode cX6_join 27 = .ok (.ireturn, 1) := by decide +kernel
theorem dX6_sealWith_0 : decode cX6_sealWith 0 = .ok (.aload_n 0, 1) := by decide +kernel
theorem dX6_sealWith_1 : decode cX6_sealWith 1 = .ok (.iconst 1, 1) := by decide +kernel
theorem dX6_sealWith_2 : decode cX6_sealWith 2 = .ok (.putfield 31, 3) := by decide +kernel
theorem dX6_sealWith_5 : decode cX6_sealWith 5 = .ok (.aload_n 0, 1) := by decide +kernel
theorem dX6_sealWith_6 : decode cX6_sealWith 6 = .ok (.iload 4, 2) := by decide +kernel
theorem dX6_sealWith_8 : decode cX6_sealWith 8 = .ok (.putfield 35, 3) := by decide +kernel
theorem dX6_sealWith_11 : decode cX6_sealWith 11 = .ok (.aload_n 0, 1) := by decide +kernel
theorem dX6_sealWith_12 : decode cX6_sealWith 12 = .ok (.getfield 15, 3) := by decide +kernel
theorem dX6_sealWith_15 : decode cX6_sealWith 15 = .ok (.iconst 0, 1) := by decide +kernel
theorem dX6_sealWith_16 : decode cX6_sealWith 16 = .ok (.iload_n 1, 1) := by decide +kernel
theorem dX6_sealWith_17 : decode cX6_sealWith 17 = .ok (.iastore, 1) := by decide +kernel
theorem dX6_sealWith_18 : decode cX6_sealWith 18 = .ok (.aload_n 0, 1) := by decide +kernel
theorem dX6_sealWith_19 : decode cX6_sealWith 19 = .ok (.getfield 15, 3) := by decide +kernel
theorem dX6_sealWith_22 : decode cX6_sealWith 22 = .ok (.iconst 1, 1) := by decide +kernel
theorem dX6_sealWith_23 : decode cX6_sealWith 23 = .ok (.iload 4, 2) := by decide +kernel
theorem dX6_sealWith_25 : decode cX6_sealWith 25 = .ok (.iconst 1, 1) := by decide +kernel
theorem dX6_sealWith_26 : decode cX6_sealWith 26 = .ok (.if_icmp .ne 7, 3) := by decide +kernel
theorem dX6_sealWith_29 : decode cX6_sealWith 29 = .ok (.iconst 0, 1) := by decide +kernel
theorem dX6_sealWith_30 : decode cX6_sealWith 30 = .ok (.goto 4, 3) := by decide +kernel
theorem dX6_sealWith_33 : decode cX6_sealWith 33 = .ok (.iload_n 2, 1) := by decide +kernel
theorem dX6_sealWith_34 : decode cX6_sealWith 34 = .ok (.iastore, 1) := by decide +kernel
theorem dX6_sealWith_35 : decode cX6_sealWith 35 = .ok (.aload_n 0, 1) := by decide +kernel
theorem dX6_sealWith_36 : decode cX6_sealWith 36 = .ok (.getfield 15, 3) := by decide +kernel
theorem dX6_sealWith_39 : decode cX6_sealWith 39 = .ok (.iconst 2, 1) := by decide +kernel
theorem dX6_sealWith_40 : decode cX6_sealWith 40 = .ok (.iload 4, 2) := by decide +kernel
theorem dX6_sealWith_42 : decode cX6_sealWith 42 = .ok (.iconst 3, 1) := by decide +kernel
theorem dX6_sealWith_43 : decode cX6_sealWith 43 = .ok (.if_icmp .ge 7, 3) := by decide +kernel
theorem dX6_sealWith_46 : decode cX6_sealWith 46 = .ok (.iconst 0, 1) := by decide +kernel
theorem dX6_sealWith_47 : decode cX6_sealWith 47 = .ok (.goto 4, 3) := by decide +kernel
theorem dX6_sealWith_50 : decode cX6_sealWith 50 = .ok (.iload_n 3, 1) := by decide +kernel
theorem dX6_sealWith_51 : decode cX6_sealWith 51 = .ok (.iastore, 1) := by decide +kernel
theorem dX6_sealWith_52 : decode cX6_sealWith 52 = .ok (.aload_n 0, 1) := by decide +kernel
theorem dX6_sealWith_53 : decode cX6_sealWith 53 = .ok (.iconst 0, 1) := by decide +kernel
theorem dX6_sealWith_54 : decode cX6_sealWith 54 = .ok (.putfield 38, 3) := by decide +kernel
theorem dX6_sealWith_57 : decode cX6_sealWith 57 = .ok (.iconst 0, 1) := by decide +kernel
theorem dX6_sealWith_58 : decode cX6_sealWith 58 = .ok (.istore 5, 2) := by decide +kernel
theorem dX6_sealWith_60 : decode cX6_sealWith 60 = .ok (.iload 5, 2) := by decide +kernel
theorem dX6_sealWith_62 : decode cX6_sealWith 62 = .ok (.aload_n 0, 1) := by decide +kernel
theorem dX6_sealWith_63 : decode cX6_sealWith 63 = .ok (.getfield 21, 3) := by decide +kernel
theorem dX6_sealWith_66 : decode cX6_sealWith 66 = .ok (.if_icmp .ge 22, 3) := by decide +kernel
theorem dX6_sealWith_69 : decode cX6_sealWith 69 = .ok (.aload_n 0, 1) := by decide +kernel
theorem dX6_sealWith_70 : decode cX6_sealWith 70 = .ok (.getfield 9, 3) := by decide +kernel
theorem dX6_sealWith_73 : decode cX6_sealWith 73 = .ok (.iload 5, 2) := by decide +kernel
theorem dX6_sealWith_75 : decode cX6_sealWith 75 = .ok (.aload_n 0, 1) := by decide +kernel
theorem dX6_sealWith_76 : decode cX6_sealWith 76 = .ok (.iload 5, 2) := by decide +kernel
theorem dX6_sealWith_78 : decode cX6_sealWith 78 = .ok (.invokevirtual 49, 3) := by decide +kernel
theorem dX6_sealWith_81 : decode cX6_sealWith 81 = .ok (.iastore, 1) := by decide +kernel
theorem dX6_sealWith_82 : decode cX6_sealWith 82 = .ok (.iinc 5 1, 3) := by decide +kernel
theorem dX6_sealWith_85 : decode cX6_sealWith 85 = .ok (.goto (-25), 3) := by decide +kernel
theorem dX6_sealWith_88 : decode cX6_sealWith 88 = .ok (.return_, 1) := by decide +kernel
theorem dX6_show_0 : decode cX6_show 0 = .ok (.aload_n 0, 1) := by decide +kernel
theorem dX6_show_1 : decode cX6_show 1 = .ok (.getfield 18, 3) := by decide +kernel
theorem dX6_show_4 : decode cX6_show 4 = .ok (.aload_n 0, 1) := by decide +kernel
theorem dX6_show_5 : decode cX6_show 5 = .ok (.getfield 38, 3) := by decide +kernel
theorem dX6_show_8 : decode cX6_show 8 = .ok (.iload_n 1, 1) := by decide +kernel
theorem dX6_show_9 : decode cX6_show 9 = .ok (.iastore, 1) := by decide +kernel
theorem dX6_show_10 : decode cX6_show 10 = .ok (.aload_n 0, 1) := by decide +kernel
theorem dX6_show_11 : decode cX6_show 11 = .ok (.dup, 1) := by decide +kernel
theorem dX6_show_12 : decode cX6_show 12 = .ok (.getfield 38, 3) := by decide +kernel
theorem dX6_show_15 : decode cX6_show 15 = .ok (.iconst 1, 1) := by decide +kernel
theorem dX6_show_16 : decode cX6_show 16 = .ok (.iadd, 1) := by decide +kernel
theorem dX6_show_17 : decode cX6_show 17 = .ok (.putfield 38, 3) := by decide +kernel
theorem dX6_show_20 : decode cX6_show 20 = .ok (.aload_n 0, 1) := by decide +kernel
theorem dX6_show_21 : decode cX6_show 21 = .ok (.getfield 38, 3) := by decide +kernel
theorem dX6_show_24 : decode cX6_show 24 = .ok (.ireturn, 1) := by decide +kernel
theorem dX6_hide_0 : decode cX6_hide 0 = .ok (.aload_n 0, 1) := by decide +kernel
theorem dX6_hide_1 : decode cX6_hide 1 = .ok (.dup, 1) := by decide +kernel
theorem dX6_hide_2 : decode cX6_hide 2 = .ok (.getfield 38, 3) := by decide +kernel
theorem dX6_hide_5 : decode cX6_hide 5 = .ok (.iconst 1, 1) := by decide +kernel
theorem dX6_hide_6 : decode cX6_hide 6 = .ok (.isub, 1) := by decide +kernel
theorem dX6_hide_7 : decode cX6_hide 7 = .ok (.putfield 38, 3) := by decide +kernel
theorem dX6_hide_10 : decode cX6_hide 10 = .ok (.iload_n 1, 1) := by decide +kernel
theorem dX6_hide_11 : decode cX6_hide 11 = .ok (.istore_n 2, 1) := by decide +kernel
theorem dX6_hide_12 : decode cX6_hide 12 = .ok (.iload_n 2, 1) := by decide +kernel
theorem dX6_hide_13 : decode cX6_hide 13 = .ok (.aload_n 0, 1) := by decide +kernel
theorem dX6_hide_14 : decode cX6_hide 14 = .ok (.getfield 38, 3) := by decide +kernel
theorem dX6_hide_17 : decode cX6_hide 17 = .ok (.if_icmp .ge 23, 3) := by decide +kernel
theorem dX6_hide_20 : decode cX6_hide 20 = .ok (.aload_n 0, 1) := by decide +kernel
theorem dX6_hide_21 : decode cX6_hide 21 = .ok (.getfield 18, 3) := by decide +kernel
theorem dX6_hide_24 : decode cX6_hide 24 = .ok (.iload_n 2, 1) := by decide +kernel
theorem dX6_hide_25 : decode cX6_hide 25 = .ok (.aload_n 0, 1) := by decide +kernel
theorem dX6_hide_26 : decode cX6_hide 26 = .ok (.getfield 18, 3) := by decide +kernel
theorem dX6_hide_29 : decode cX6_hide 29 = .ok (.iload_n 2, 1) := by decide +kernel
theorem dX6_hide_30 : decode cX6_hide 30 = .ok (.iconst 1, 1) := by decide +kernel
theorem dX6_hide_31 : decode cX6_hide 31 = .ok (.iadd, 1) := by decide +kernel
theorem dX6_hide_32 : decode cX6_hide 32 = .ok (.iaload, 1) := by decide +kernel
theorem dX6_hide_33 : decode cX6_hide 33 = .ok (.iastore, 1) := by decide +kernel
theorem dX6_hide_34 : decode cX6_hide 34 = .ok (.iinc 2 1, 3) := by decide +kernel
theorem dX6_hide_37 : decode cX6_hide 37 = .ok (.goto (-25), 3) := by decide +kernel
theorem dX6_hide_40 : decode cX6_hide 40 = .ok (.aload_n 0, 1) := by decide +kernel
theorem dX6_hide_41 : decode cX6_hide 41 = .ok (.getfield 38, 3) := by decide +kernel
theorem dX6_hide_44 : decode cX6_hide 44 = .ok (.ireturn, 1) := by decide +kernel
theorem dX6_toldAt_0 : decode cX6_toldAt 0 = .ok (.aload_n 0, 1) := by decide +kernel
theorem dX6_toldAt_1 : decode cX6_toldAt 1 = .ok (.aload_n 0, 1) := by decide +kernel
theorem dX6_toldAt_2 : decode cX6_toldAt 2 = .ok (.getfield 18, 3) := by decide +kernel
theorem dX6_toldAt_5 : decode cX6_toldAt 5 = .ok (.iload_n 1, 1) := by decide +kernel
theorem dX6_toldAt_6 : decode cX6_toldAt 6 = .ok (.invokevirtual 52, 3) := by decide +kernel
theorem dX6_toldAt_9 : decode cX6_toldAt 9 = .ok (.ireturn, 1) := by decide +kernel
theorem dX6_allAgree_0 : decode cX6_allAgree 0 = .ok (.aload_n 0, 1) := by decide +kernel
theorem dX6_allAgree_1 : decode cX6_allAgree 1 = .ok (.aload_n 0, 1) := by decide +kernel
theorem dX6_allAgree_2 : decode cX6_allAgree 2 = .ok (.getfield 18, 3) := by decide +kernel
theorem dX6_allAgree_5 : decode cX6_allAgree 5 = .ok (.aload_n 0, 1) := by decide +kernel
theorem dX6_allAgree_6 : decode cX6_allAgree 6 = .ok (.getfield 38, 3) := by decide +kernel
theorem dX6_allAgree_9 : decode cX6_allAgree 9 = .ok (.invokevirtual 55, 3) := by decide +kernel
theorem dX6_allAgree_12 : decode cX6_allAgree 12 = .ok (.ireturn, 1) := by decide +kernel
theorem dX6_tellTheSecret_0 : decode cX6_tellTheSecret 0 = .ok (.aload_n 0, 1) := by decide +kernel
theorem dX6_tellTheSecret_1 : decode cX6_tellTheSecret 1 = .ok (.aload_n 0, 1) := by decide +kernel
theorem dX6_tellTheSecret_2 : decode cX6_tellTheSecret 2 = .ok (.getfield 18, 3) := by decide +kernel
theorem dX6_tellTheSecret_5 : decode cX6_tellTheSecret 5 = .ok (.aload_n 0, 1) := by decide +kernel
theorem dX6_tellTheSecret_6 : decode cX6_tellTheSecret 6 = .ok (.getfield 38, 3) := by decide +kernel
theorem dX6_tellTheSecret_9 : decode cX6_tellTheSecret 9 = .ok (.invokevirtual 55, 3) := by decide +kernel
theorem dX6_tellTheSecret_12 : decode cX6_tellTheSecret 12 = .ok (.ifCond .eq 21, 3) := by decide +kernel
theorem dX6_tellTheSecret_15 : decode cX6_tellTheSecret 15 = .ok (.aload_n 0, 1) := by decide +kernel
theorem dX6_tellTheSecret_16 : decode cX6_tellTheSecret 16 = .ok (.iconst 0, 1) := by decide +kernel
theorem dX6_tellTheSecret_17 : decode cX6_tellTheSecret 17 = .ok (.invokevirtual 59, 3) := by decide +kernel
theorem dX6_tellTheSecret_20 : decode cX6_tellTheSecret 20 = .ok (.aload_n 0, 1) := by decide +kernel
theorem dX6_tellTheSecret_21 : decode cX6_tellTheSecret 21 = .ok (.getfield 15, 3) := by decide +kernel
theorem dX6_tellTheSecret_24 : decode cX6_tellTheSecret 24 = .ok (.iconst 0, 1) := by decide +kernel
theorem dX6_tellTheSecret_25 : decode cX6_tellTheSecret 25 = .ok (.iaload, 1) := by decide +kernel
theorem dX6_tellTheSecret_26 : decode cX6_tellTheSecret 26 = .ok (.if_icmp .ne 7, 3) := by decide +kernel
theorem dX6_tellTheSecret_29 : decode cX6_tellTheSecret 29 = .ok (.iconst 1, 1) := by decide +kernel
theorem dX6_tellTheSecret_30 : decode cX6_tellTheSecret 30 = .ok (.goto 4, 3) := by decide +kernel
theorem dX6_tellTheSecret_33 : decode cX6_tellTheSecret 33 = .ok (.iconst 0, 1) := by decide +kernel
theorem dX6_tellTheSecret_34 : decode cX6_tellTheSecret 34 = .ok (.ireturn, 1) := by decide +kernel
theorem dX6_isOneCurve_0 : decode cX6_isOneCurve 0 = .ok (.aload_n 0, 1) := by decide +kernel
theorem dX6_isOneCurve_1 : decode cX6_isOneCurve 1 = .ok (.getfield 35, 3) := by decide +kernel
theorem dX6_isOneCurve_4 : decode cX6_isOneCurve 4 = .ok (.istore_n 3, 1) := by decide +kernel
theorem dX6_isOneCurve_5 : decode cX6_isOneCurve 5 = .ok (.iload_n 3, 1) := by decide +kernel
theorem dX6_isOneCurve_6 : decode cX6_isOneCurve 6 = .ok (.iload_n 2, 1) := by decide +kernel
theorem dX6_isOneCurve_7 : decode cX6_isOneCurve 7 = .ok (.if_icmp .ge 36, 3) := by decide +kernel
theorem dX6_isOneCurve_10 : decode cX6_isOneCurve 10 = .ok (.aload_n 1, 1) := by decide +kernel
theorem dX6_isOneCurve_11 : decode cX6_isOneCurve 11 = .ok (.iload_n 3, 1) := by decide +kernel
theorem dX6_isOneCurve_12 : decode cX6_isOneCurve 12 = .ok (.iaload, 1) := by decide +kernel
theorem dX6_isOneCurve_13 : decode cX6_isOneCurve 13 = .ok (.istore 4, 2) := by decide +kernel
theorem dX6_isOneCurve_15 : decode cX6_isOneCurve 15 = .ok (.aload_n 0, 1) := by decide +kernel
theorem dX6_isOneCurve_16 : decode cX6_isOneCurve 16 = .ok (.getfield 9, 3) := by decide +kernel
theorem dX6_isOneCurve_19 : decode cX6_isOneCurve 19 = .ok (.iload 4, 2) := by decide +kernel
theorem dX6_isOneCurve_21 : decode cX6_isOneCurve 21 = .ok (.iaload, 1) := by decide +kernel
theorem dX6_isOneCurve_22 : decode cX6_isOneCurve 22 = .ok (.aload_n 0, 1) := by decide +kernel
theorem dX6_isOneCurve_23 : decode cX6_isOneCurve 23 = .ok (.aload_n 1, 1) := by decide +kernel
theorem dX6_isOneCurve_24 : decode cX6_isOneCurve 24 = .ok (.iload 4, 2) := by decide +kernel
theorem dX6_isOneCurve_26 : decode cX6_isOneCurve 26 = .ok (.invokestatic 41, 3) := by decide +kernel
theorem dX6_isOneCurve_29 : decode cX6_isOneCurve 29 = .ok (.invokevirtual 52, 3) := by decide +kernel
theorem dX6_isOneCurve_32 : decode cX6_isOneCurve 32 = .ok (.if_icmp .eq 5, 3) := by decide +kernel
theorem dX6_isOneCurve_35 : decode cX6_isOneCurve 35 = .ok (.iconst 0, 1) := by decide +kernel
theorem dX6_isOneCurve_36 : decode cX6_isOneCurve 36 = .ok (.ireturn, 1) := by decide +kernel
theorem dX6_isOneCurve_37 : decode cX6_isOneCurve 37 = .ok (.iinc 3 1, 3) := by decide +kernel
theorem dX6_isOneCurve_40 : decode cX6_isOneCurve 40 = .ok (.goto (-35), 3) := by decide +kernel
theorem dX6_isOneCurve_43 : decode cX6_isOneCurve 43 = .ok (.iconst 1, 1) := by decide +kernel
theorem dX6_isOneCurve_44 : decode cX6_isOneCurve 44 = .ok (.ireturn, 1) := by decide +kernel
theorem dX6_valueThrough_0 : decode cX6_valueThrough 0 = .ok (.iconst 0, 1) := by decide +kernel
theorem dX6_valueThrough_1 : decode cX6_valueThrough 1 = .ok (.istore_n 3, 1) := by decide +kernel
theorem dX6_valueThrough_2 : decode cX6_valueThrough 2 = .ok (.iconst 0, 1) := by decide +kernel
theorem dX6_valueThrough_3 : decode cX6_valueThrough 3 = .ok (.istore 4, 2) := by decide +kernel
theorem dX6_valueThrough_5 : decode cX6_valueThrough 5 = .ok (.iload 4, 2) := by decide +kernel
theorem dX6_valueThrough_7 : decode cX6_valueThrough 7 = .ok (.aload_n 0, 1) := by decide +kernel
theorem dX6_valueThrough_8 : decode cX6_valueThrough 8 = .ok (.getfield 35, 3) := by decide +kernel
theorem dX6_valueThrough_11 : decode cX6_valueThrough 11 = .ok (.if_icmp .ge 30, 3) := by decide +kernel
theorem dX6_valueThrough_14 : decode cX6_valueThrough 14 = .ok (.iload_n 3, 1) := by decide +kernel
theorem dX6_valueThrough_15 : decode cX6_valueThrough 15 = .ok (.aload_n 0, 1) := by decide +kernel
theorem dX6_valueThrough_16 : decode cX6_valueThrough 16 = .ok (.getfield 9, 3) := by decide +kernel
theorem dX6_valueThrough_19 : decode cX6_valueThrough 19 = .ok (.aload_n 1, 1) := by decide +kernel
theorem dX6_valueThrough_20 : decode cX6_valueThrough 20 = .ok (.iload 4, 2) := by decide +kernel
theorem dX6_valueThrough_22 : decode cX6_valueThrough 22 = .ok (.iaload, 1) := by decide +kernel
theorem dX6_valueThrough_23 : decode cX6_valueThrough 23 = .ok (.iaload, 1) := by decide +kernel
theorem dX6_valueThrough_24 : decode cX6_valueThrough 24 = .ok (.aload_n 0, 1) := by decide +kernel
theorem dX6_valueThrough_25 : decode cX6_valueThrough 25 = .ok (.aload_n 1, 1) := by decide +kernel
theorem dX6_valueThrough_26 : decode cX6_valueThrough 26 = .ok (.iload 4, 2) := by decide +kernel
theorem dX6_valueThrough_28 : decode cX6_valueThrough 28 = .ok (.iload_n 2, 1) := by decide +kernel
theorem dX6_valueThrough_29 : decode cX6_valueThrough 29 = .ok (.invokevirtual 62, 3) := by decide +kernel
theorem dX6_valueThrough_32 : decode cX6_valueThrough 32 = .ok (.imul, 1) := by decide +kernel
theorem dX6_valueThrough_33 : decode cX6_valueThrough 33 = .ok (.iadd, 1) := by decide +kernel
theorem dX6_valueThrough_34 : decode cX6_valueThrough 34 = .ok (.istore_n 3, 1) := by decide +kernel
theorem dX6_valueThrough_35 : decode cX6_valueThrough 35 = .ok (.iinc 4 1, 3) := by decide +kernel
theorem dX6_valueThrough_38 : decode cX6_valueThrough 38 = .ok (.goto (-33), 3) := by decide +kernel
theorem dX6_valueThrough_41 : decode cX6_valueThrough 41 = .ok (.iload_n 3, 1) := by decide +kernel
theorem dX6_valueThrough_42 : decode cX6_valueThrough 42 = .ok (.bipush 97, 2) := by decide +kernel
theorem dX6_valueThrough_44 : decode cX6_valueThrough 44 = .ok (.irem, 1) := by decide +kernel
theorem dX6_valueThrough_45 : decode cX6_valueThrough 45 = .ok (.ireturn, 1) := by decide +kernel
theorem dX6_quotientsOf_0 : decode cX6_quotientsOf 0 = .ok (.iload_n 3, 1) := by decide +kernel
theorem dX6_quotientsOf_1 : decode cX6_quotientsOf 1 = .ok (.iconst 1, 1) := by decide +kernel
theorem dX6_quotientsOf_2 : decode cX6_quotientsOf 2 = .ok (.isub, 1) := by decide +kernel
theorem dX6_quotientsOf_3 : decode cX6_quotientsOf 3 = .ok (.istore 4, 2) := by decide +kernel
theorem dX6_quotientsOf_5 : decode cX6_quotientsOf 5 = .ok (.iconst 1, 1) := by decide +kernel
theorem dX6_quotientsOf_6 : decode cX6_quotientsOf 6 = .ok (.istore 5, 2) := by decide +kernel
theorem dX6_quotientsOf_8 : decode cX6_quotientsOf 8 = .ok (.iconst 1, 1) := by decide +kernel
theorem dX6_quotientsOf_9 : decode cX6_quotientsOf 9 = .ok (.istore 6, 2) := by decide +kernel
theorem dX6_quotientsOf_11 : decode cX6_quotientsOf 11 = .ok (.iconst 0, 1) := by decide +kernel
theorem dX6_quotientsOf_12 : decode cX6_quotientsOf 12 = .ok (.istore 7, 2) := by decide +kernel
theorem dX6_quotientsOf_14 : decode cX6_quotientsOf 14 = .ok (.iload 7, 2) := by decide +kernel
theorem dX6_quotientsOf_16 : decode cX6_quotientsOf 16 = .ok (.aload_n 0, 1) := by decide +kernel
theorem dX6_quotientsOf_17 : decode cX6_quotientsOf 17 = .ok (.getfield 35, 3) := by decide +kernel
theorem dX6_quotientsOf_20 : decode cX6_quotientsOf 20 = .ok (.if_icmp .ge 52, 3) := by decide +kernel
theorem dX6_quotientsOf_23 : decode cX6_quotientsOf 23 = .ok (.iload 7, 2) := by decide +kernel
theorem dX6_quotientsOf_25 : decode cX6_quotientsOf 25 = .ok (.iload_n 2, 1) := by decide +kernel
theorem dX6_quotientsOf_26 : decode cX6_quotientsOf 26 = .ok (.if_icmp .eq 40, 3) := by decide +kernel
theorem dX6_quotientsOf_29 : decode cX6_quotientsOf 29 = .ok (.iload 5, 2) := by decide +kernel
theorem dX6_quotientsOf_31 : decode cX6_quotientsOf 31 = .ok (.iload 4, 2) := by decide +kernel
theorem dX6_quotientsOf_33 : decode cX6_quotientsOf 33 = .ok (.aload_n 1, 1) := by decide +kernel
theorem dX6_quotientsOf_34 : decode cX6_quotientsOf 34 = .ok (.iload 7, 2) := by decide +kernel
theorem dX6_quotientsOf_36 : decode cX6_quotientsOf 36 = .ok (.iaload, 1) := by decide +kernel
theorem dX6_quotientsOf_37 : decode cX6_quotientsOf 37 = .ok (.isub, 1) := by decide +kernel
theorem dX6_quotientsOf_38 : decode cX6_quotientsOf 38 = .ok (.bipush 97, 2) := by decide +kernel
theorem dX6_quotientsOf_40 : decode cX6_quotientsOf 40 = .ok (.iadd, 1) := by decide +kernel
theorem dX6_quotientsOf_41 : decode cX6_quotientsOf 41 = .ok (.imul, 1) := by decide +kernel
theorem dX6_quotientsOf_42 : decode cX6_quotientsOf 42 = .ok (.bipush 97, 2) := by decide +kernel
theorem dX6_quotientsOf_44 : decode cX6_quotientsOf 44 = .ok (.irem, 1) := by decide +kernel
theorem dX6_quotientsOf_45 : decode cX6_quotientsOf 45 = .ok (.istore 5, 2) := by decide +kernel
theorem dX6_quotientsOf_47 : decode cX6_quotientsOf 47 = .ok (.iload 6, 2) := by decide +kernel
theorem dX6_quotientsOf_49 : decode cX6_quotientsOf 49 = .ok (.aload_n 1, 1) := by decide +kernel
theorem dX6_quotientsOf_50 : decode cX6_quotientsOf 50 = .ok (.iload_n 2, 1) := by decide +kernel
theorem dX6_quotientsOf_51 : decode cX6_quotientsOf 51 = .ok (.iaload, 1) := by decide +kernel
theorem dX6_quotientsOf_52 : decode cX6_quotientsOf 52 = .ok (.aload_n 1, 1) := by decide +kernel
theorem dX6_quotientsOf_53 : decode cX6_quotientsOf 53 = .ok (.iload 7, 2) := by decide +kernel
theorem dX6_quotientsOf_55 : decode cX6_quotientsOf 55 = .ok (.iaload, 1) := by decide +kernel
theorem dX6_quotientsOf_56 : decode cX6_quotientsOf 56 = .ok (.isub, 1) := by decide +kernel
theorem dX6_quotientsOf_57 : decode cX6_quotientsOf 57 = .ok (.bipush 97, 2) := by decide +kernel
theorem dX6_quotientsOf_59 : decode cX6_quotientsOf 59 = .ok (.iadd, 1) := by decide +kernel
theorem dX6_quotientsOf_60 : decode cX6_quotientsOf 60 = .ok (.imul, 1) := by decide +kernel
theorem dX6_quotientsOf_61 : decode cX6_quotientsOf 61 = .ok (.bipush 97, 2) := by decide +kernel
theorem dX6_quotientsOf_63 : decode cX6_quotientsOf 63 = .ok (.irem, 1) := by decide +kernel
theorem dX6_quotientsOf_64 : decode cX6_quotientsOf 64 = .ok (.istore 6, 2) := by decide +kernel
theorem dX6_quotientsOf_66 : decode cX6_quotientsOf 66 = .ok (.iinc 7 1, 3) := by decide +kernel
theorem dX6_quotientsOf_69 : decode cX6_quotientsOf 69 = .ok (.goto (-55), 3) := by decide +kernel
theorem dX6_quotientsOf_72 : decode cX6_quotientsOf 72 = .ok (.iload 5, 2) := by decide +kernel
theorem dX6_quotientsOf_74 : decode cX6_quotientsOf 74 = .ok (.getstatic 66, 3) := by decide +kernel
theorem dX6_quotientsOf_77 : decode cX6_quotientsOf 77 = .ok (.iload 6, 2) := by decide +kernel
theorem dX6_quotientsOf_79 : decode cX6_quotientsOf 79 = .ok (.iaload, 1) := by decide +kernel
theorem dX6_quotientsOf_80 : decode cX6_quotientsOf 80 = .ok (.imul, 1) := by decide +kernel
theorem dX6_quotientsOf_81 : decode cX6_quotientsOf 81 = .ok (.bipush 97, 2) := by decide +kernel
theorem dX6_quotientsOf_83 : decode cX6_quotientsOf 83 = .ok (.irem, 1) := by decide +kernel
theorem dX6_quotientsOf_84 : decode cX6_quotientsOf 84 = .ok (.ireturn, 1) := by decide +kernel
theorem dX7_init_0 : decode cX7_init 0 = .ok (.aload_n 0, 1) := by decide +kernel
theorem dX7_init_1 : decode cX7_init 1 = .ok (.invokespecial 3, 3) := by decide +kernel
theorem dX7_init_4 : decode cX7_init 4 = .ok (.aload_n 0, 1) := by decide +kernel
theorem dX7_init_5 : decode cX7_init 5 = .ok (.sipush 200, 3) := by decide +kernel
theorem dX7_init_8 : decode cX7_init 8 = .ok (.newarray .char, 2) := by decide +kernel
theorem dX7_init_10 : decode cX7_init 10 = .ok (.putfield 9, 3) := by decide +kernel
theorem dX7_init_13 : decode cX7_init 13 = .ok (.return_, 1) := by decide +kernel
theorem dX7_clear_0 : decode cX7_clear 0 = .ok (.aload_n 0, 1) := by decide +kernel
theorem dX7_clear_1 : decode cX7_clear 1 = .ok (.iconst 0, 1) := by decide +kernel
theorem dX7_clear_2 : decode cX7_clear 2 = .ok (.putfield 15, 3) := by decide +kernel
theorem dX7_clear_5 : decode cX7_clear 5 = .ok (.return_, 1) := by decide +kernel
theorem dX7_put_0 : decode cX7_put 0 = .ok (.aload_n 0, 1) := by decide +kernel
theorem dX7_put_1 : decode cX7_put 1 = .ok (.getfield 15, 3) := by decide +kernel
theorem dX7_put_4 : decode cX7_put 4 = .ok (.sipush 200, 3) := by decide +kernel
theorem dX7_put_7 : decode cX7_put 7 = .ok (.if_icmp .ge 23, 3) := by decide +kernel
theorem dX7_put_10 : decode cX7_put 10 = .ok (.aload_n 0, 1) := by decide +kernel
theorem dX7_put_11 : decode cX7_put 11 = .ok (.getfield 9, 3) := by decide +kernel
theorem dX7_put_14 : decode cX7_put 14 = .ok (.aload_n 0, 1) := by decide +kernel
theorem dX7_put_15 : decode cX7_put 15 = .ok (.getfield 15, 3) := by decide +kernel
theorem dX7_put_18 : decode cX7_put 18 = .ok (.iload_n 1, 1) := by decide +kernel
theorem dX7_put_19 : decode cX7_put 19 = .ok (.castore, 1) := by decide +kernel
theorem dX7_put_20 : decode cX7_put 20 = .ok (.aload_n 0, 1) := by decide +kernel
theorem dX7_put_21 : decode cX7_put 21 = .ok (.dup, 1) := by decide +kernel
theorem dX7_put_22 : decode cX7_put 22 = .ok (.getfield 15, 3) := by decide +kernel
theorem dX7_put_25 : decode cX7_put 25 = .ok (.iconst 1, 1) := by decide +kernel
theorem dX7_put_26 : decode cX7_put 26 = .ok (.iadd, 1) := by decide +kernel
theorem dX7_put_27 : decode cX7_put 27 = .ok (.putfield 15, 3) := by decide +kernel
theorem dX7_put_30 : decode cX7_put 30 = .ok (.return_, 1) := by decide +kernel
theorem dX7_startItem_0 : decode cX7_startItem 0 = .ok (.iload_n 1, 1) := by decide +kernel
theorem dX7_startItem_1 : decode cX7_startItem 1 = .ok (.ifCond .le 9, 3) := by decide +kernel
theorem dX7_startItem_4 : decode cX7_startItem 4 = .ok (.aload_n 0, 1) := by decide +kernel
theorem dX7_startItem_5 : decode cX7_startItem 5 = .ok (.bipush 32, 2) := by decide +kernel
theorem dX7_startItem_7 : decode cX7_startItem 7 = .ok (.invokevirtual 19, 3) := by decide +kernel
theorem dX7_startItem_10 : decode cX7_startItem 10 = .ok (.return_, 1) := by decide +kernel
theorem dX7_putNumber_0 : decode cX7_putNumber 0 = .ok (.iconst 0, 1) := by decide +kernel
theorem dX7_putNumber_1 : decode cX7_putNumber 1 = .ok (.istore_n 2, 1) := by decide +kernel
theorem dX7_putNumber_2 : decode cX7_putNumber 2 = .ok (.ldc 23, 2) := by decide +kernel
theorem dX7_putNumber_4 : decode cX7_putNumber 4 = .ok (.istore_n 3, 1) := by decide +kernel
theorem dX7_putNumber_5 : decode cX7_putNumber 5 = .ok (.iload_n 3, 1) := by decide +kernel
theorem dX7_putNumber_6 : decode cX7_putNumber 6 = .ok (.ifCond .le 53, 3) := by decide +kernel
theorem dX7_putNumber_9 : decode cX7_putNumber 9 = .ok (.iload_n 1, 1) := by decide +kernel
theorem dX7_putNumber_10 : decode cX7_putNumber 10 = .ok (.iload_n 3, 1) := by decide +kernel
theorem dX7_putNumber_11 : decode cX7_putNumber 11 = .ok (.idiv, 1) := by decide +kernel
theorem dX7_putNumber_12 : decode cX7_putNumber 12 = .ok (.bipush 10, 2) := by decide +kernel
theorem dX7_putNumber_14 : decode cX7_putNumber 14 = .ok (.irem, 1) := by decide +kernel
theorem dX7_putNumber_15 : decode cX7_putNumber 15 = .ok (.istore 4, 2) := by decide +kernel
theorem dX7_putNumber_17 : decode cX7_putNumber 17 = .ok (.iload_n 2, 1) := by decide +kernel
theorem dX7_putNumber_18 : decode cX7_putNumber 18 = .ok (.ifCond .ne 13, 3) := by decide +kernel
theorem dX7_putNumber_21 : decode cX7_putNumber 21 = .ok (.iload 4, 2) := by decide +kernel
theorem dX7_putNumber_23 : decode cX7_putNumber 23 = .ok (.ifCond .gt 8, 3) := by decide +kernel
theorem dX7_putNumber_26 : decode cX7_putNumber 26 = .ok (.iload_n 3, 1) := by decide +kernel
theorem dX7_putNumber_27 : decode cX7_putNumber 27 = .ok (.iconst 1, 1) := by decide +kernel
theorem dX7_putNumber_28 : decode cX7_putNumber 28 = .ok (.if_icmp .ne 7, 3) := by decide +kernel
theorem dX7_putNumber_31 : decode cX7_putNumber 31 = .ok (.iconst 1, 1) := by decide +kernel
theorem dX7_putNumber_32 : decode cX7_putNumber 32 = .ok (.goto 4, 3) := by decide +kernel
theorem dX7_putNumber_35 : decode cX7_putNumber 35 = .ok (.iconst 0, 1) := by decide +kernel
theorem dX7_putNumber_36 : decode cX7_putNumber 36 = .ok (.istore_n 2, 1) := by decide +kernel
theorem dX7_putNumber_37 : decode cX7_putNumber 37 = .ok (.iload_n 2, 1) := by decide +kernel
theorem dX7_putNumber_38 : decode cX7_putNumber 38 = .ok (.ifCond .eq 13, 3) := by decide +kernel
theorem dX7_putNumber_41 : decode cX7_putNumber 41 = .ok (.aload_n 0, 1) := by decide +kernel
theorem dX7_putNumber_42 : decode cX7_putNumber 42 = .ok (.bipush 48, 2) := by decide +kernel
theorem dX7_putNumber_44 : decode cX7_putNumber 44 = .ok (.iload 4, 2) := by decide +kernel
theorem dX7_putNumber_46 : decode cX7_putNumber 46 = .ok (.iadd, 1) := by decide +kernel
theorem dX7_putNumber_47 : decode cX7_putNumber 47 = .ok (.i2c, 1) := by decide +kernel
theorem dX7_putNumber_48 : decode cX7_putNumber 48 = .ok (.invokevirtual 19, 3) := by decide +kernel
theorem dX7_putNumber_51 : decode cX7_putNumber 51 = .ok (.iload_n 3, 1) := by decide +kernel
theorem dX7_putNumber_52 : decode cX7_putNumber 52 = .ok (.bipush 10, 2) := by decide +kernel
theorem dX7_putNumber_54 : decode cX7_putNumber 54 = .ok (.idiv, 1) := by decide +kernel
theorem dX7_putNumber_55 : decode cX7_putNumber 55 = .ok (.istore_n 3, 1) := by decide +kernel
theorem dX7_putNumber_56 : decode cX7_putNumber 56 = .ok (.goto (-51), 3) := by decide +kernel
theorem dX7_putNumber_59 : decode cX7_putNumber 59 = .ok (.return_, 1) := by decide +kernel
theorem dX8_init_0 : decode cX8_init 0 = .ok (.aload_n 0, 1) := by decide +kernel
theorem dX8_init_1 : decode cX8_init 1 = .ok (.invokespecial 3, 3) := by decide +kernel
theorem dX8_init_4 : decode cX8_init 4 = .ok (.aload_n 0, 1) := by decide +kernel
theorem dX8_init_5 : decode cX8_init 5 = .ok (.iconst 3, 1) := by decide +kernel
theorem dX8_init_6 : decode cX8_init 6 = .ok (.iconst 4, 1) := by decide +kernel
theorem dX8_init_7 : decode cX8_init 7 = .ok (.multianewarray 9 2, 4) := by decide +kernel
theorem dX8_init_11 : decode cX8_init 11 = .ok (.putfield 11, 3) := by decide +kernel
theorem dX8_init_14 : decode cX8_init 14 = .ok (.aload_n 0, 1) := by decide +kernel
theorem dX8_init_15 : decode cX8_init 15 = .ok (.iconst 3, 1) := by decide +kernel
theorem dX8_init_16 : decode cX8_init 16 = .ok (.newarray .int, 2) := by decide +kernel
theorem dX8_init_18 : decode cX8_init 18 = .ok (.putfield 16, 3) := by decide +kernel
theorem dX8_init_21 : decode cX8_init 21 = .ok (.aload_n 0, 1) := by decide +kernel
theorem dX8_init_22 : decode cX8_init 22 = .ok (.bipush 8, 2) := by decide +kernel
theorem dX8_init_24 : decode cX8_init 24 = .ok (.newarray .int, 2) := by decide +kernel
theorem dX8_init_26 : decode cX8_init 26 = .ok (.putfield 20, 3) := by decide +kernel
theorem dX8_init_29 : decode cX8_init 29 = .ok (.return_, 1) := by decide +kernel
theorem dX8_secretOf_0 : decode cX8_secretOf 0 = .ok (.aload_n 0, 1) := by decide +kernel
theorem dX8_secretOf_1 : decode cX8_secretOf 1 = .ok (.aload_n 1, 1) := by decide +kernel
theorem dX8_secretOf_2 : decode cX8_secretOf 2 = .ok (.aload_n 1, 1) := by decide +kernel
theorem dX8_secretOf_3 : decode cX8_secretOf 3 = .ok (.getfield 23, 3) := by decide +kernel
theorem dX8_secretOf_6 : decode cX8_secretOf 6 = .ok (.invokevirtual 28, 3) := by decide +kernel
theorem dX8_secretOf_9 : decode cX8_secretOf 9 = .ok (.aload_n 0, 1) := by decide +kernel
theorem dX8_secretOf_10 : decode cX8_secretOf 10 = .ok (.getfield 16, 3) := by decide +kernel
theorem dX8_secretOf_13 : decode cX8_secretOf 13 = .ok (.iconst 0, 1) := by decide +kernel
theorem dX8_secretOf_14 : decode cX8_secretOf 14 = .ok (.iaload, 1) := by decide +kernel
theorem dX8_secretOf_15 : decode cX8_secretOf 15 = .ok (.ireturn, 1) := by decide +kernel
theorem dX8_mostOnCurves_0 : decode cX8_mostOnCurves 0 = .ok (.iconst 0, 1) := by decide +kernel
theorem dX8_mostOnCurves_1 : decode cX8_mostOnCurves 1 = .ok (.istore_n 2, 1) := by decide +kernel
theorem dX8_mostOnCurves_2 : decode cX8_mostOnCurves 2 = .ok (.iconst 1, 1) := by decide +kernel
theorem dX8_mostOnCurves_3 : decode cX8_mostOnCurves 3 = .ok (.istore_n 3, 1) := by decide +kernel
theorem dX8_mostOnCurves_4 : decode cX8_mostOnCurves 4 = .ok (.iload_n 3, 1) := by decide +kernel
theorem dX8_mostOnCurves_5 : decode cX8_mostOnCurves 5 = .ok (.iconst 1, 1) := by decide +kernel
theorem dX8_mostOnCurves_6 : decode cX8_mostOnCurves 6 = .ok (.aload_n 1, 1) := by decide +kernel
theorem dX8_mostOnCurves_7 : decode cX8_mostOnCurves 7 = .ok (.getfield 32, 3) := by decide +kernel
theorem dX8_mostOnCurves_10 : decode cX8_mostOnCurves 10 = .ok (.ishl, 1) := by decide +kernel
theorem dX8_mostOnCurves_11 : decode cX8_mostOnCurves 11 = .ok (.if_icmp .ge 45, 3) := by decide +kernel
theorem dX8_mostOnCurves_14 : decode cX8_mostOnCurves 14 = .ok (.iload_n 3, 1) := by decide +kernel
theorem dX8_mostOnCurves_15 : decode cX8_mostOnCurves 15 = .ok (.invokestatic 36, 3) := by decide +kernel
theorem dX8_mostOnCurves_18 : decode cX8_mostOnCurves 18 = .ok (.aload_n 1, 1) := by decide +kernel
theorem dX8_mostOnCurves_19 : decode cX8_mostOnCurves 19 = .ok (.getfield 42, 3) := by decide +kernel
theorem dX8_mostOnCurves_22 : decode cX8_mostOnCurves 22 = .ok (.if_icmp .ne 28, 3) := by decide +kernel
theorem dX8_mostOnCurves_25 : decode cX8_mostOnCurves 25 = .ok (.aload_n 0, 1) := by decide +kernel
theorem dX8_mostOnCurves_26 : decode cX8_mostOnCurves 26 = .ok (.aload_n 1, 1) := by decide +kernel
theorem dX8_mostOnCurves_27 : decode cX8_mostOnCurves 27 = .ok (.iload_n 3, 1) := by decide +kernel
theorem dX8_mostOnCurves_28 : decode cX8_mostOnCurves 28 = .ok (.invokevirtual 45, 3) := by decide +kernel
theorem dX8_mostOnCurves_31 : decode cX8_mostOnCurves 31 = .ok (.aload_n 0, 1) := by decide +kernel
theorem dX8_mostOnCurves_32 : decode cX8_mostOnCurves 32 = .ok (.aload_n 1, 1) := by decide +kernel
theorem dX8_mostOnCurves_33 : decode cX8_mostOnCurves 33 = .ok (.aload_n 0, 1) := by decide +kernel
theorem dX8_mostOnCurves_34 : decode cX8_mostOnCurves 34 = .ok (.getfield 20, 3) := by decide +kernel
theorem dX8_mostOnCurves_37 : decode cX8_mostOnCurves 37 = .ok (.invokevirtual 28, 3) := by decide +kernel
theorem dX8_mostOnCurves_40 : decode cX8_mostOnCurves 40 = .ok (.iload_n 2, 1) := by decide +kernel
theorem dX8_mostOnCurves_41 : decode cX8_mostOnCurves 41 = .ok (.aload_n 0, 1) := by decide +kernel
theorem dX8_mostOnCurves_42 : decode cX8_mostOnCurves 42 = .ok (.aload_n 1, 1) := by decide +kernel
theorem dX8_mostOnCurves_43 : decode cX8_mostOnCurves 43 = .ok (.invokevirtual 49, 3) := by decide +kernel
theorem dX8_mostOnCurves_46 : decode cX8_mostOnCurves 46 = .ok (.invokestatic 53, 3) := by decide +kernel
theorem dX8_mostOnCurves_49 : decode cX8_mostOnCurves 49 = .ok (.istore_n 2, 1) := by decide +kernel
theorem dX8_mostOnCurves_50 : decode cX8_mostOnCurves 50 = .ok (.iinc 3 1, 3) := by decide +kernel
theorem dX8_mostOnCurves_53 : decode cX8_mostOnCurves 53 = .ok (.goto (-49), 3) := by decide +kernel
theorem dX8_mostOnCurves_56 : decode cX8_mostOnCurves 56 = .ok (.iload_n 2, 1) := by decide +kernel
theorem dX8_mostOnCurves_57 : decode cX8_mostOnCurves 57 = .ok (.ireturn, 1) := by decide +kernel
theorem dX8_mostInSets_0 : decode cX8_mostInSets 0 = .ok (.iconst 0, 1) := by decide +kernel
theorem dX8_mostInSets_1 : decode cX8_mostInSets 1 = .ok (.istore_n 2, 1) := by decide +kernel
theorem dX8_mostInSets_2 : decode cX8_mostInSets 2 = .ok (.iconst 1, 1) := by decide +kernel
theorem dX8_mostInSets_3 : decode cX8_mostInSets 3 = .ok (.istore_n 3, 1) := by decide +kernel
theorem dX8_mostInSets_4 : decode cX8_mostInSets 4 = .ok (.iload_n 3, 1) := by decide +kernel
theorem dX8_mostInSets_5 : decode cX8_mostInSets 5 = .ok (.iconst 1, 1) := by decide +kernel
theorem dX8_mostInSets_6 : decode cX8_mostInSets 6 = .ok (.aload_n 1, 1) := by decide +kernel
theorem dX8_mostInSets_7 : decode cX8_mostInSets 7 = .ok (.getfield 32, 3) := by decide +kernel
theorem dX8_mostInSets_10 : decode cX8_mostInSets 10 = .ok (.ishl, 1) := by decide +kernel
theorem dX8_mostInSets_11 : decode cX8_mostInSets 11 = .ok (.if_icmp .ge 43, 3) := by decide +kernel
theorem dX8_mostInSets_14 : decode cX8_mostInSets 14 = .ok (.iload_n 3, 1) := by decide +kernel
theorem dX8_mostInSets_15 : decode cX8_mostInSets 15 = .ok (.invokestatic 36, 3) := by decide +kernel
theorem dX8_mostInSets_18 : decode cX8_mostInSets 18 = .ok (.istore 4, 2) := by decide +kernel
theorem dX8_mostInSets_20 : decode cX8_mostInSets 20 = .ok (.iload 4, 2) := by decide +kernel
theorem dX8_mostInSets_22 : decode cX8_mostInSets 22 = .ok (.iload_n 2, 1) := by decide +kernel
theorem dX8_mostInSets_23 : decode cX8_mostInSets 23 = .ok (.if_icmp .le 25, 3) := by decide +kernel
theorem dX8_mostInSets_26 : decode cX8_mostInSets 26 = .ok (.aload_n 0, 1) := by decide +kernel
theorem dX8_mostInSets_27 : decode cX8_mostInSets 27 = .ok (.aload_n 1, 1) := by decide +kernel
theorem dX8_mostInSets_28 : decode cX8_mostInSets 28 = .ok (.iload_n 3, 1) := by decide +kernel
theorem dX8_mostInSets_29 : decode cX8_mostInSets 29 = .ok (.invokevirtual 45, 3) := by decide +kernel
theorem dX8_mostInSets_32 : decode cX8_mostInSets 32 = .ok (.aload_n 1, 1) := by decide +kernel
theorem dX8_mostInSets_33 : decode cX8_mostInSets 33 = .ok (.aload_n 0, 1) := by decide +kernel
theorem dX8_mostInSets_34 : decode cX8_mostInSets 34 = .ok (.getfield 20, 3) := by decide +kernel
theorem dX8_mostInSets_37 : decode cX8_mostInSets 37 = .ok (.iload 4, 2) := by decide +kernel
theorem dX8_mostInSets_39 : decode cX8_mostInSets 39 = .ok (.invokevirtual 59, 3) := by decide +kernel
theorem dX8_mostInSets_42 : decode cX8_mostInSets 42 = .ok (.ifCond .eq 6, 3) := by decide +kernel
theorem dX8_mostInSets_45 : decode cX8_mostInSets 45 = .ok (.iload 4, 2) := by decide +kernel
theorem dX8_mostInSets_47 : decode cX8_mostInSets 47 = .ok (.istore_n 2, 1) := by decide +kernel
theorem dX8_mostInSets_48 : decode cX8_mostInSets 48 = .ok (.iinc 3 1, 3) := by decide +kernel
theorem dX8_mostInSets_51 : decode cX8_mostInSets 51 = .ok (.goto (-47), 3) := by decide +kernel
theorem dX8_mostInSets_54 : decode cX8_mostInSets 54 = .ok (.iload_n 2, 1) := by decide +kernel
theorem dX8_mostInSets_55 : decode cX8_mostInSets 55 = .ok (.ireturn, 1) := by decide +kernel
theorem dX8_choose_0 : decode cX8_choose 0 = .ok (.iconst 0, 1) := by decide +kernel
theorem dX8_choose_1 : decode cX8_choose 1 = .ok (.istore_n 3, 1) := by decide +kernel
theorem dX8_choose_2 : decode cX8_choose 2 = .ok (.iconst 0, 1) := by decide +kernel
theorem dX8_choose_3 : decode cX8_choose 3 = .ok (.istore 4, 2) := by decide +kernel
theorem dX8_choose_5 : decode cX8_choose 5 = .ok (.iload 4, 2) := by decide +kernel
theorem dX8_choose_7 : decode cX8_choose 7 = .ok (.aload_n 1, 1) := by decide +kernel
theorem dX8_choose_8 : decode cX8_choose 8 = .ok (.getfield 32, 3) := by decide +kernel
theorem dX8_choose_11 : decode cX8_choose 11 = .ok (.if_icmp .ge 35, 3) := by decide +kernel
theorem dX8_choose_14 : decode cX8_choose 14 = .ok (.iload_n 2, 1) := by decide +kernel
theorem dX8_choose_15 : decode cX8_choose 15 = .ok (.iload 4, 2) := by decide +kernel
theorem dX8_choose_17 : decode cX8_choose 17 = .ok (.ishr, 1) := by decide +kernel
theorem dX8_choose_18 : decode cX8_choose 18 = .ok (.iconst 1, 1) := by decide +kernel
theorem dX8_choose_19 : decode cX8_choose 19 = .ok (.iand, 1) := by decide +kernel
theorem dX8_choose_20 : decode cX8_choose 20 = .ok (.iconst 1, 1) := by decide +kernel
theorem dX8_choose_21 : decode cX8_choose 21 = .ok (.if_icmp .ne 19, 3) := by decide +kernel
theorem dX8_choose_24 : decode cX8_choose 24 = .ok (.aload_n 0, 1) := by decide +kernel
theorem dX8_choose_25 : decode cX8_choose 25 = .ok (.getfield 20, 3) := by decide +kernel
theorem dX8_choose_28 : decode cX8_choose 28 = .ok (.iload_n 3, 1) := by decide +kernel
theorem dX8_choose_29 : decode cX8_choose 29 = .ok (.aload_n 1, 1) := by decide +kernel
theorem dX8_choose_30 : decode cX8_choose 30 = .ok (.getfield 23, 3) := by decide +kernel
theorem dX8_choose_33 : decode cX8_choose 33 = .ok (.iload 4, 2) := by decide +kernel
theorem dX8_choose_35 : decode cX8_choose 35 = .ok (.iaload, 1) := by decide +kernel
theorem dX8_choose_36 : decode cX8_choose 36 = .ok (.iastore, 1) := by decide +kernel
theorem dX8_choose_37 : decode cX8_choose 37 = .ok (.iinc 3 1, 3) := by decide +kernel
theorem dX8_choose_40 : decode cX8_choose 40 = .ok (.iinc 4 1, 3) := by decide +kernel
theorem dX8_choose_43 : decode cX8_choose 43 = .ok (.goto (-38), 3) := by decide +kernel
theorem dX8_choose_46 : decode cX8_choose 46 = .ok (.return_, 1) := by decide +kernel
theorem dX8_countOnCurve_0 : decode cX8_countOnCurve 0 = .ok (.iconst 0, 1) := by decide +kernel
theorem dX8_countOnCurve_1 : decode cX8_countOnCurve 1 = .ok (.istore_n 2, 1) := by decide +kernel
theorem dX8_countOnCurve_2 : decode cX8_countOnCurve 2 = .ok (.iconst 0, 1) := by decide +kernel
theorem dX8_countOnCurve_3 : decode cX8_countOnCurve 3 = .ok (.istore_n 3, 1) := by decide +kernel
theorem dX8_countOnCurve_4 : decode cX8_countOnCurve 4 = .ok (.iload_n 3, 1) := by decide +kernel
theorem dX8_countOnCurve_5 : decode cX8_countOnCurve 5 = .ok (.aload_n 1, 1) := by decide +kernel
theorem dX8_countOnCurve_6 : decode cX8_countOnCurve 6 = .ok (.getfield 32, 3) := by decide +kernel
theorem dX8_countOnCurve_9 : decode cX8_countOnCurve 9 = .ok (.if_icmp .ge 42, 3) := by decide +kernel
theorem dX8_countOnCurve_12 : decode cX8_countOnCurve 12 = .ok (.aload_n 1, 1) := by decide +kernel
theorem dX8_countOnCurve_13 : decode cX8_countOnCurve 13 = .ok (.getfield 23, 3) := by decide +kernel
theorem dX8_countOnCurve_16 : decode cX8_countOnCurve 16 = .ok (.iload_n 3, 1) := by decide +kernel
theorem dX8_countOnCurve_17 : decode cX8_countOnCurve 17 = .ok (.iaload, 1) := by decide +kernel
theorem dX8_countOnCurve_18 : decode cX8_countOnCurve 18 = .ok (.istore 4, 2) := by decide +kernel
theorem dX8_countOnCurve_20 : decode cX8_countOnCurve 20 = .ok (.aload_n 1, 1) := by decide +kernel
theorem dX8_countOnCurve_21 : decode cX8_countOnCurve 21 = .ok (.getfield 63, 3) := by decide +kernel
theorem dX8_countOnCurve_24 : decode cX8_countOnCurve 24 = .ok (.iload 4, 2) := by decide +kernel
theorem dX8_countOnCurve_26 : decode cX8_countOnCurve 26 = .ok (.iaload, 1) := by decide +kernel
theorem dX8_countOnCurve_27 : decode cX8_countOnCurve 27 = .ok (.aload_n 0, 1) := by decide +kernel
theorem dX8_countOnCurve_28 : decode cX8_countOnCurve 28 = .ok (.getfield 16, 3) := by decide +kernel
theorem dX8_countOnCurve_31 : decode cX8_countOnCurve 31 = .ok (.iload 4, 2) := by decide +kernel
theorem dX8_countOnCurve_33 : decode cX8_countOnCurve 33 = .ok (.invokestatic 66, 3) := by decide +kernel
theorem dX8_countOnCurve_36 : decode cX8_countOnCurve 36 = .ok (.invokestatic 69, 3) := by decide +kernel
theorem dX8_countOnCurve_39 : decode cX8_countOnCurve 39 = .ok (.if_icmp .ne 6, 3) := by decide +kernel
theorem dX8_countOnCurve_42 : decode cX8_countOnCurve 42 = .ok (.iinc 2 1, 3) := by decide +kernel
theorem dX8_countOnCurve_45 : decode cX8_countOnCurve 45 = .ok (.iinc 3 1, 3) := by decide +kernel
theorem dX8_countOnCurve_48 : decode cX8_countOnCurve 48 = .ok (.goto (-44), 3) := by decide +kernel
theorem dX8_countOnCurve_51 : decode cX8_countOnCurve 51 = .ok (.iload_n 2, 1) := by decide +kernel
theorem dX8_countOnCurve_52 : decode cX8_countOnCurve 52 = .ok (.ireturn, 1) := by decide +kernel
theorem dX8_fit_0 : decode cX8_fit 0 = .ok (.aload_n 1, 1) := by decide +kernel
theorem dX8_fit_1 : decode cX8_fit 1 = .ok (.getfield 42, 3) := by decide +kernel
theorem dX8_fit_4 : decode cX8_fit 4 = .ok (.istore_n 3, 1) := by decide +kernel
theorem dX8_fit_5 : decode cX8_fit 5 = .ok (.iconst 0, 1) := by decide +kernel
theorem dX8_fit_6 : decode cX8_fit 6 = .ok (.istore 4, 2) := by decide +kernel
theorem dX8_fit_8 : decode cX8_fit 8 = .ok (.iload 4, 2) := by decide +kernel
theorem dX8_fit_10 : decode cX8_fit 10 = .ok (.iload_n 3, 1) := by decide +kernel
theorem dX8_fit_11 : decode cX8_fit 11 = .ok (.if_icmp .ge 29, 3) := by decide +kernel
theorem dX8_fit_14 : decode cX8_fit 14 = .ok (.aload_n 0, 1) := by decide +kernel
theorem dX8_fit_15 : decode cX8_fit 15 = .ok (.iload 4, 2) := by decide +kernel
theorem dX8_fit_17 : decode cX8_fit 17 = .ok (.iload_n 3, 1) := by decide +kernel
theorem dX8_fit_18 : decode cX8_fit 18 = .ok (.aload_n 2, 1) := by decide +kernel
theorem dX8_fit_19 : decode cX8_fit 19 = .ok (.iload 4, 2) := by decide +kernel
theorem dX8_fit_21 : decode cX8_fit 21 = .ok (.iaload, 1) := by decide +kernel
theorem dX8_fit_22 : decode cX8_fit 22 = .ok (.aload_n 1, 1) := by decide +kernel
theorem dX8_fit_23 : decode cX8_fit 23 = .ok (.getfield 63, 3) := by decide +kernel
theorem dX8_fit_26 : decode cX8_fit 26 = .ok (.aload_n 2, 1) := by decide +kernel
theorem dX8_fit_27 : decode cX8_fit 27 = .ok (.iload 4, 2) := by decide +kernel
theorem dX8_fit_29 : decode cX8_fit 29 = .ok (.iaload, 1) := by decide +kernel
theorem dX8_fit_30 : decode cX8_fit 30 = .ok (.iaload, 1) := by decide +kernel
theorem dX8_fit_31 : decode cX8_fit 31 = .ok (.invokevirtual 73, 3) := by decide +kernel
theorem dX8_fit_34 : decode cX8_fit 34 = .ok (.iinc 4 1, 3) := by decide +kernel
theorem dX8_fit_37 : decode cX8_fit 37 = .ok (.goto (-29), 3) := by decide +kernel
theorem dX8_fit_40 : decode cX8_fit 40 = .ok (.iconst 0, 1) := by decide +kernel
theorem dX8_fit_41 : decode cX8_fit 41 = .ok (.istore 4, 2) := by decide +kernel
theorem dX8_fit_43 : decode cX8_fit 43 = .ok (.iload 4, 2) := by decide +kernel
theorem dX8_fit_45 : decode cX8_fit 45 = .ok (.iload_n 3, 1) := by decide +kernel
theorem dX8_fit_46 : decode cX8_fit 46 = .ok (.if_icmp .ge 16, 3) := by decide +kernel
theorem dX8_fit_49 : decode cX8_fit 49 = .ok (.aload_n 0, 1) := by decide +kernel
theorem dX8_fit_50 : decode cX8_fit 50 = .ok (.iload 4, 2) := by decide +kernel
theorem dX8_fit_52 : decode cX8_fit 52 = .ok (.iload_n 3, 1) := by decide +kernel
theorem dX8_fit_53 : decode cX8_fit 53 = .ok (.invokevirtual 77, 3) := by decide +kernel
theorem dX8_fit_56 : decode cX8_fit 56 = .ok (.iinc 4 1, 3) := by decide +kernel
theorem dX8_fit_59 : decode cX8_fit 59 = .ok (.goto (-16), 3) := by decide +kernel
theorem dX8_fit_62 : decode cX8_fit 62 = .ok (.iconst 0, 1) := by decide +kernel
theorem dX8_fit_63 : decode cX8_fit 63 = .ok (.istore 4, 2) := by decide +kernel
theorem dX8_fit_65 : decode cX8_fit 65 = .ok (.iload 4, 2) := by decide +kernel
theorem dX8_fit_67 : decode cX8_fit 67 = .ok (.iconst 3, 1) := by decide +kernel
theorem dX8_fit_68 : decode cX8_fit 68 = .ok (.if_icmp .ge 35, 3) := by decide +kernel
theorem dX8_fit_71 : decode cX8_fit 71 = .ok (.aload_n 0, 1) := by decide +kernel
theorem dX8_fit_72 : decode cX8_fit 72 = .ok (.getfield 16, 3) := by decide +kernel
theorem dX8_fit_75 : decode cX8_fit 75 = .ok (.iload 4, 2) := by decide +kernel
theorem dX8_fit_77 : decode cX8_fit 77 = .ok (.iload 4, 2) := by decide +kernel
theorem dX8_fit_79 : decode cX8_fit 79 = .ok (.iload_n 3, 1) := by decide +kernel
theorem dX8_fit_80 : decode cX8_fit 80 = .ok (.if_icmp .ge 15, 3) := by decide +kernel
theorem dX8_fit_83 : decode cX8_fit 83 = .ok (.aload_n 0, 1) := by decide +kernel
theorem dX8_fit_84 : decode cX8_fit 84 = .ok (.getfield 11, 3) := by decide +kernel
theorem dX8_fit_87 : decode cX8_fit 87 = .ok (.iload 4, 2) := by decide +kernel
theorem dX8_fit_89 : decode cX8_fit 89 = .ok (.aaload, 1) := by decide +kernel
theorem dX8_fit_90 : decode cX8_fit 90 = .ok (.iload_n 3, 1) := by decide +kernel
theorem dX8_fit_91 : decode cX8_fit 91 = .ok (.iaload, 1) := by decide +kernel
theorem dX8_fit_92 : decode cX8_fit 92 = .ok (.goto 4, 3) := by decide +kernel
theorem dX8_fit_95 : decode cX8_fit 95 = .ok (.iconst 0, 1) := by decide +kernel
theorem dX8_fit_96 : decode cX8_fit 96 = .ok (.iastore, 1) := by decide +kernel
theorem dX8_fit_97 : decode cX8_fit 97 = .ok (.iinc 4 1, 3) := by decide +kernel
theorem dX8_fit_100 : decode cX8_fit 100 = .ok (.goto (-35), 3) := by decide +kernel
theorem dX8_fit_103 : decode cX8_fit 103 = .ok (.return_, 1) := by decide +kernel
theorem dX8_setEquation_0 : decode cX8_setEquation 0 = .ok (.iconst 1, 1) := by decide +kernel
theorem dX8_setEquation_1 : decode cX8_setEquation 1 = .ok (.istore 5, 2) := by decide +kernel
theorem dX8_setEquation_3 : decode cX8_setEquation 3 = .ok (.iconst 0, 1) := by decide +kernel
theorem dX8_setEquation_4 : decode cX8_setEquation 4 = .ok (.istore 6, 2) := by decide +kernel
theorem dX8_setEquation_6 : decode cX8_setEquation 6 = .ok (.iload 6, 2) := by decide +kernel
theorem dX8_setEquation_8 : decode cX8_setEquation 8 = .ok (.iload_n 2, 1) := by decide +kernel
theorem dX8_setEquation_9 : decode cX8_setEquation 9 = .ok (.if_icmp .ge 32, 3) := by decide +kernel
theorem dX8_setEquation_12 : decode cX8_setEquation 12 = .ok (.aload_n 0, 1) := by decide +kernel
theorem dX8_setEquation_13 : decode cX8_setEquation 13 = .ok (.getfield 11, 3) := by decide +kernel
theorem dX8_setEquation_16 : decode cX8_setEquation 16 = .ok (.iload_n 1, 1) := by decide +kernel
theorem dX8_setEquation_17 : decode cX8_setEquation 17 = .ok (.aaload, 1) := by decide +kernel
theorem dX8_setEquation_18 : decode cX8_setEquation 18 = .ok (.iload 6, 2) := by decide +kernel
theorem dX8_setEquation_20 : decode cX8_setEquation 20 = .ok (.iload 5, 2) := by decide +kernel
theorem dX8_setEquation_22 : decode cX8_setEquation 22 = .ok (.iastore, 1) := by decide +kernel
theorem dX8_setEquation_23 : decode cX8_setEquation 23 = .ok (.iload 5, 2) := by decide +kernel
theorem dX8_setEquation_25 : decode cX8_setEquation 25 = .ok (.iload_n 3, 1) := by decide +kernel
theorem dX8_setEquation_26 : decode cX8_setEquation 26 = .ok (.invokestatic 66, 3) := by decide +kernel
theorem dX8_setEquation_29 : decode cX8_setEquation 29 = .ok (.imul, 1) := by decide +kernel
theorem dX8_setEquation_30 : decode cX8_setEquation 30 = .ok (.bipush 97, 2) := by decide +kernel
theorem dX8_setEquation_32 : decode cX8_setEquation 32 = .ok (.irem, 1) := by decide +kernel
theorem dX8_setEquation_33 : decode cX8_setEquation 33 = .ok (.istore 5, 2) := by decide +kernel
theorem dX8_setEquation_35 : decode cX8_setEquation 35 = .ok (.iinc 6 1, 3) := by decide +kernel
theorem dX8_setEquation_38 : decode cX8_setEquation 38 = .ok (.goto (-32), 3) := by decide +kernel
theorem dX8_setEquation_41 : decode cX8_setEquation 41 = .ok (.aload_n 0, 1) := by decide +kernel
theorem dX8_setEquation_42 : decode cX8_setEquation 42 = .ok (.getfield 11, 3) := by decide +kernel
theorem dX8_setEquation_45 : decode cX8_setEquation 45 = .ok (.iload_n 1, 1) := by decide +kernel
theorem dX8_setEquation_46 : decode cX8_setEquation 46 = .ok (.aaload, 1) := by decide +kernel
theorem dX8_setEquation_47 : decode cX8_setEquation 47 = .ok (.iload_n 2, 1) := by decide +kernel
theorem dX8_setEquation_48 : decode cX8_setEquation 48 = .ok (.iload 4, 2) := by decide +kernel
theorem dX8_setEquation_50 : decode cX8_setEquation 50 = .ok (.iastore, 1) := by decide +kernel
theorem dX8_setEquation_51 : decode cX8_setEquation 51 = .ok (.return_, 1) := by decide +kernel
theorem dX8_eliminate_0 : decode cX8_eliminate 0 = .ok (.aload_n 0, 1) := by decide +kernel
theorem dX8_eliminate_1 : decode cX8_eliminate 1 = .ok (.getfield 11, 3) := by decide +kernel
theorem dX8_eliminate_4 : decode cX8_eliminate 4 = .ok (.iload_n 1, 1) := by decide +kernel
theorem dX8_eliminate_5 : decode cX8_eliminate 5 = .ok (.aaload, 1) := by decide +kernel
theorem dX8_eliminate_6 : decode cX8_eliminate 6 = .ok (.astore_n 3, 1) := by decide +kernel
theorem dX8_eliminate_7 : decode cX8_eliminate 7 = .ok (.getstatic 81, 3) := by decide +kernel
theorem dX8_eliminate_10 : decode cX8_eliminate 10 = .ok (.aload_n 3, 1) := by decide +kernel
theorem dX8_eliminate_11 : decode cX8_eliminate 11 = .ok (.iload_n 1, 1) := by decide +kernel
theorem dX8_eliminate_12 : decode cX8_eliminate 12 = .ok (.iaload, 1) := by decide +kernel
theorem dX8_eliminate_13 : decode cX8_eliminate 13 = .ok (.iaload, 1) := by decide +kernel
theorem dX8_eliminate_14 : decode cX8_eliminate 14 = .ok (.istore 4, 2) := by decide +kernel
theorem dX8_eliminate_16 : decode cX8_eliminate 16 = .ok (.iload_n 1, 1) := by decide +kernel
theorem dX8_eliminate_17 : decode cX8_eliminate 17 = .ok (.istore 5, 2) := by decide +kernel
theorem dX8_eliminate_19 : decode cX8_eliminate 19 = .ok (.iload 5, 2) := by decide +kernel
theorem dX8_eliminate_21 : decode cX8_eliminate 21 = .ok (.iload_n 2, 1) := by decide +kernel
theorem dX8_eliminate_22 : decode cX8_eliminate 22 = .ok (.if_icmp .gt 23, 3) := by decide +kernel
theorem dX8_eliminate_25 : decode cX8_eliminate 25 = .ok (.aload_n 3, 1) := by decide +kernel
theorem dX8_eliminate_26 : decode cX8_eliminate 26 = .ok (.iload 5, 2) := by decide +kernel
theorem dX8_eliminate_28 : decode cX8_eliminate 28 = .ok (.aload_n 3, 1) := by decide +kernel
theorem dX8_eliminate_29 : decode cX8_eliminate 29 = .ok (.iload 5, 2) := by decide +kernel
theorem dX8_eliminate_31 : decode cX8_eliminate 31 = .ok (.iaload, 1) := by decide +kernel
theorem dX8_eliminate_32 : decode cX8_eliminate 32 = .ok (.iload 4, 2) := by decide +kernel
theorem dX8_eliminate_34 : decode cX8_eliminate 34 = .ok (.imul, 1) := by decide +kernel
theorem dX8_eliminate_35 : decode cX8_eliminate 35 = .ok (.bipush 97, 2) := by decide +kernel
theorem dX8_eliminate_37 : decode cX8_eliminate 37 = .ok (.irem, 1) := by decide +kernel
theorem dX8_eliminate_38 : decode cX8_eliminate 38 = .ok (.iastore, 1) := by decide +kernel
theorem dX8_eliminate_39 : decode cX8_eliminate 39 = .ok (.iinc 5 1, 3) := by decide +kernel
theorem dX8_eliminate_42 : decode cX8_eliminate 42 = .ok (.goto (-23), 3) := by decide +kernel
theorem dX8_eliminate_45 : decode cX8_eliminate 45 = .ok (.iconst 0, 1) := by decide +kernel
theorem dX8_eliminate_46 : decode cX8_eliminate 46 = .ok (.istore 5, 2) := by decide +kernel
theorem dX8_eliminate_48 : decode cX8_eliminate 48 = .ok (.iload 5, 2) := by decide +kernel
theorem dX8_eliminate_50 : decode cX8_eliminate 50 = .ok (.iload_n 2, 1) := by decide +kernel
theorem dX8_eliminate_51 : decode cX8_eliminate 51 = .ok (.if_icmp .ge 28, 3) := by decide +kernel
theorem dX8_eliminate_54 : decode cX8_eliminate 54 = .ok (.iload 5, 2) := by decide +kernel
theorem dX8_eliminate_56 : decode cX8_eliminate 56 = .ok (.iload_n 1, 1) := by decide +kernel
theorem dX8_eliminate_57 : decode cX8_eliminate 57 = .ok (.if_icmp .eq 16, 3) := by decide +kernel
theorem dX8_eliminate_60 : decode cX8_eliminate 60 = .ok (.aload_n 0, 1) := by decide +kernel
theorem dX8_eliminate_61 : decode cX8_eliminate 61 = .ok (.getfield 11, 3) := by decide +kernel
theorem dX8_eliminate_64 : decode cX8_eliminate 64 = .ok (.iload 5, 2) := by decide +kernel
theorem dX8_eliminate_66 : decode cX8_eliminate 66 = .ok (.aaload, 1) := by decide +kernel
theorem dX8_eliminate_67 : decode cX8_eliminate 67 = .ok (.aload_n 3, 1) := by decide +kernel
theorem dX8_eliminate_68 : decode cX8_eliminate 68 = .ok (.iload_n 1, 1) := by decide +kernel
theorem dX8_eliminate_69 : decode cX8_eliminate 69 = .ok (.iload_n 2, 1) := by decide +kernel
theorem dX8_eliminate_70 : decode cX8_eliminate 70 = .ok (.invokestatic 84, 3) := by decide +kernel
theorem dX8_eliminate_73 : decode cX8_eliminate 73 = .ok (.iinc 5 1, 3) := by decide +kernel
theorem dX8_eliminate_76 : decode cX8_eliminate 76 = .ok (.goto (-28), 3) := by decide +kernel
theorem dX8_eliminate_79 : decode cX8_eliminate 79 = .ok (.return_, 1) := by decide +kernel
theorem dX8_subtract_0 : decode cX8_subtract 0 = .ok (.aload_n 0, 1) := by decide +kernel
theorem dX8_subtract_1 : decode cX8_subtract 1 = .ok (.iload_n 2, 1) := by decide +kernel
theorem dX8_subtract_2 : decode cX8_subtract 2 = .ok (.iaload, 1) := by decide +kernel
theorem dX8_subtract_3 : decode cX8_subtract 3 = .ok (.istore 4, 2) := by decide +kernel
theorem dX8_subtract_5 : decode cX8_subtract 5 = .ok (.iload_n 2, 1) := by decide +kernel
theorem dX8_subtract_6 : decode cX8_subtract 6 = .ok (.istore 5, 2) := by decide +kernel
theorem dX8_subtract_8 : decode cX8_subtract 8 = .ok (.iload 5, 2) := by decide +kernel
theorem dX8_subtract_10 : decode cX8_subtract 10 = .ok (.iload_n 3, 1) := by decide +kernel
theorem dX8_subtract_11 : decode cX8_subtract 11 = .ok (.if_icmp .gt 30, 3) := by decide +kernel
theorem dX8_subtract_14 : decode cX8_subtract 14 = .ok (.aload_n 0, 1) := by decide +kernel
theorem dX8_subtract_15 : decode cX8_subtract 15 = .ok (.iload 5, 2) := by decide +kernel
theorem dX8_subtract_17 : decode cX8_subtract 17 = .ok (.aload_n 0, 1) := by decide +kernel
theorem dX8_subtract_18 : decode cX8_subtract 18 = .ok (.iload 5, 2) := by decide +kernel
theorem dX8_subtract_20 : decode cX8_subtract 20 = .ok (.iaload, 1) := by decide +kernel
theorem dX8_subtract_21 : decode cX8_subtract 21 = .ok (.iload 4, 2) := by decide +kernel
theorem dX8_subtract_23 : decode cX8_subtract 23 = .ok (.aload_n 1, 1) := by decide +kernel
theorem dX8_subtract_24 : decode cX8_subtract 24 = .ok (.iload 5, 2) := by decide +kernel
theorem dX8_subtract_26 : decode cX8_subtract 26 = .ok (.iaload, 1) := by decide +kernel
theorem dX8_subtract_27 : decode cX8_subtract 27 = .ok (.imul, 1) := by decide +kernel
theorem dX8_subtract_28 : decode cX8_subtract 28 = .ok (.isub, 1) := by decide +kernel
theorem dX8_subtract_29 : decode cX8_subtract 29 = .ok (.bipush 97, 2) := by decide +kernel
theorem dX8_subtract_31 : decode cX8_subtract 31 = .ok (.invokestatic 88, 3) := by decide +kernel
theorem dX8_subtract_34 : decode cX8_subtract 34 = .ok (.iastore, 1) := by decide +kernel
theorem dX8_subtract_35 : decode cX8_subtract 35 = .ok (.iinc 5 1, 3) := by decide +kernel
theorem dX8_subtract_38 : decode cX8_subtract 38 = .ok (.goto (-30), 3) := by decide +kernel
theorem dX8_subtract_41 : decode cX8_subtract 41 = .ok (.return_, 1) := by decide +kernel
theorem dX9_init_0 : decode cX9_init 0 = .ok (.aload_n 0, 1) := by decide +kernel
theorem dX9_init_1 : decode cX9_init 1 = .ok (.invokespecial 3, 3) := by decide +kernel
theorem dX9_init_4 : decode cX9_init 4 = .ok (.aload_n 0, 1) := by decide +kernel
theorem dX9_init_5 : decode cX9_init 5 = .ok (.new 9, 3) := by decide +kernel
theorem dX9_init_8 : decode cX9_init 8 = .ok (.dup, 1) := by decide +kernel
theorem dX9_init_9 : decode cX9_init 9 = .ok (.invokespecial 11, 3) := by decide +kernel
theorem dX9_init_12 : decode cX9_init 12 = .ok (.putfield 12, 3) := by decide +kernel
theorem dX9_init_15 : decode cX9_init 15 = .ok (.aload_n 0, 1) := by decide +kernel
theorem dX9_init_16 : decode cX9_init 16 = .ok (.new 18, 3) := by decide +kernel
theorem dX9_init_19 : decode cX9_init 19 = .ok (.dup, 1) := by decide +kernel
theorem dX9_init_20 : decode cX9_init 20 = .ok (.invokespecial 20, 3) := by decide +kernel
theorem dX9_init_23 : decode cX9_init 23 = .ok (.putfield 21, 3) := by decide +kernel
theorem dX9_init_26 : decode cX9_init 26 = .ok (.aload_n 0, 1) := by decide +kernel
theorem dX9_init_27 : decode cX9_init 27 = .ok (.new 25, 3) := by decide +kernel
theorem dX9_init_30 : decode cX9_init 30 = .ok (.dup, 1) := by decide +kernel
theorem dX9_init_31 : decode cX9_init 31 = .ok (.invokespecial 27, 3) := by decide +kernel
theorem dX9_init_34 : decode cX9_init 34 = .ok (.putfield 28, 3) := by decide +kernel
theorem dX9_init_37 : decode cX9_init 37 = .ok (.aload_n 0, 1) := by decide +kernel
theorem dX9_init_38 : decode cX9_init 38 = .ok (.new 32, 3) := by decide +kernel
theorem dX9_init_41 : decode cX9_init 41 = .ok (.dup, 1) := by decide +kernel
theorem dX9_init_42 : decode cX9_init 42 = .ok (.invokespecial 34, 3) := by decide +kernel
theorem dX9_init_45 : decode cX9_init 45 = .ok (.putfield 35, 3) := by decide +kernel
theorem dX9_init_48 : decode cX9_init 48 = .ok (.return_, 1) := by decide +kernel
theorem dX9_copyFrom_0 : decode cX9_copyFrom 0 = .ok (.aload_n 0, 1) := by decide +kernel
theorem dX9_copyFrom_1 : decode cX9_copyFrom 1 = .ok (.getfield 12, 3) := by decide +kernel
theorem dX9_copyFrom_4 : decode cX9_copyFrom 4 = .ok (.aload_n 1, 1) := by decide +kernel
theorem dX9_copyFrom_5 : decode cX9_copyFrom 5 = .ok (.getfield 12, 3) := by decide +kernel
theorem dX9_copyFrom_8 : decode cX9_copyFrom 8 = .ok (.invokevirtual 39, 3) := by decide +kernel
theorem dX9_copyFrom_11 : decode cX9_copyFrom 11 = .ok (.aload_n 0, 1) := by decide +kernel
theorem dX9_copyFrom_12 : decode cX9_copyFrom 12 = .ok (.getfield 21, 3) := by decide +kernel
theorem dX9_copyFrom_15 : decode cX9_copyFrom 15 = .ok (.aload_n 1, 1) := by decide +kernel
theorem dX9_copyFrom_16 : decode cX9_copyFrom 16 = .ok (.getfield 21, 3) := by decide +kernel
theorem dX9_copyFrom_19 : decode cX9_copyFrom 19 = .ok (.invokevirtual 43, 3) := by decide +kernel
theorem dX9_copyFrom_22 : decode cX9_copyFrom 22 = .ok (.aload_n 0, 1) := by decide +kernel
theorem dX9_copyFrom_23 : decode cX9_copyFrom 23 = .ok (.getfield 28, 3) := by decide +kernel
theorem dX9_copyFrom_26 : decode cX9_copyFrom 26 = .ok (.aload_n 1, 1) := by decide +kernel
theorem dX9_copyFrom_27 : decode cX9_copyFrom 27 = .ok (.getfield 28, 3) := by decide +kernel
theorem dX9_copyFrom_30 : decode cX9_copyFrom 30 = .ok (.invokevirtual 46, 3) := by decide +kernel
theorem dX9_copyFrom_33 : decode cX9_copyFrom 33 = .ok (.aload_n 0, 1) := by decide +kernel
theorem dX9_copyFrom_34 : decode cX9_copyFrom 34 = .ok (.getfield 35, 3) := by decide +kernel
theorem dX9_copyFrom_37 : decode cX9_copyFrom 37 = .ok (.aload_n 1, 1) := by decide +kernel
theorem dX9_copyFrom_38 : decode cX9_copyFrom 38 = .ok (.getfield 35, 3) := by decide +kernel
theorem dX9_copyFrom_41 : decode cX9_copyFrom 41 = .ok (.invokevirtual 49, 3) := by decide +kernel
theorem dX9_copyFrom_44 : decode cX9_copyFrom 44 = .ok (.return_, 1) := by decide +kernel
theorem dX9_detailOf_0 : decode cX9_detailOf 0 = .ok (.iload_n 1, 1) := by decide +kernel
theorem dX9_detailOf_1 : decode cX9_detailOf 1 = .ok (.tableswitch 122 1 10 #[55, 57, 122, 65, 55, 74, 82, 90, 106, 114], 55) := by decide +kernel
theorem dX9_detailOf_56 : decode cX9_detailOf 56 = .ok (.iload_n 2, 1) := by decide +kernel
theorem dX9_detailOf_57 : decode cX9_detailOf 57 = .ok (.ireturn, 1) := by decide +kernel
theorem dX9_detailOf_58 : decode cX9_detailOf 58 = .ok (.aload_n 0, 1) := by decide +kernel
theorem dX9_detailOf_59 : decode cX9_detailOf 59 = .ok (.getfield 12, 3) := by decide +kernel
theorem dX9_detailOf_62 : decode cX9_detailOf 62 = .ok (.getfield 52, 3) := by decide +kernel
theorem dX9_detailOf_65 : decode cX9_detailOf 65 = .ok (.ireturn, 1) := by decide +kernel
theorem dX9_detailOf_66 : decode cX9_detailOf 66 = .ok (.aload_n 0, 1) := by decide +kernel
theorem dX9_detailOf_67 : decode cX9_detailOf 67 = .ok (.getfield 12, 3) := by decide +kernel
theorem dX9_detailOf_70 : decode cX9_detailOf 70 = .ok (.iload_n 2, 1) := by decide +kernel
theorem dX9_detailOf_71 : decode cX9_detailOf 71 = .ok (.invokevirtual 56, 3) := by decide +kernel
theorem dX9_detailOf_74 : decode cX9_detailOf 74 = .ok (.ireturn, 1) := by decide +kernel
theorem dX9_detailOf_75 : decode cX9_detailOf 75 = .ok (.aload_n 0, 1) := by decide +kernel
theorem dX9_detailOf_76 : decode cX9_detailOf 76 = .ok (.getfield 12, 3) := by decide +kernel
theorem dX9_detailOf_79 : decode cX9_detailOf 79 = .ok (.getfield 60, 3) := by decide +kernel
theorem dX9_detailOf_82 : decode cX9_detailOf 82 = .ok (.ireturn, 1) := by decide +kernel
theorem dX9_detailOf_83 : decode cX9_detailOf 83 = .ok (.aload_n 0, 1) := by decide +kernel
theorem dX9_detailOf_84 : decode cX9_detailOf 84 = .ok (.getfield 21, 3) := by decide +kernel
theorem dX9_detailOf_87 : decode cX9_detailOf 87 = .ok (.getfield 63, 3) := by decide +kernel
theorem dX9_detailOf_90 : decode cX9_detailOf 90 = .ok (.ireturn, 1) := by decide +kernel
theorem dX9_detailOf_91 : decode cX9_detailOf 91 = .ok (.aload_n 0, 1) := by decide +kernel
theorem dX9_detailOf_92 : decode cX9_detailOf 92 = .ok (.getfield 12, 3) := by decide +kernel
theorem dX9_detailOf_95 : decode cX9_detailOf 95 = .ok (.getfield 66, 3) := by decide +kernel
theorem dX9_detailOf_98 : decode cX9_detailOf 98 = .ok (.aload_n 0, 1) := by decide +kernel
theorem dX9_detailOf_99 : decode cX9_detailOf 99 = .ok (.getfield 12, 3) := by decide +kernel
theorem dX9_detailOf_102 : decode cX9_detailOf 102 = .ok (.getfield 60, 3) := by decide +kernel
theorem dX9_detailOf_105 : decode cX9_detailOf 105 = .ok (.isub, 1) := by decide +kernel
theorem dX9_detailOf_106 : decode cX9_detailOf 106 = .ok (.ireturn, 1) := by decide +kernel
theorem dX9_detailOf_107 : decode cX9_detailOf 107 = .ok (.aload_n 0, 1) := by decide +kernel
theorem dX9_detailOf_108 : decode cX9_detailOf 108 = .ok (.getfield 28, 3) := by decide +kernel
theorem dX9_detailOf_111 : decode cX9_detailOf 111 = .ok (.getfield 69, 3) := by decide +kernel
theorem dX9_detailOf_114 : decode cX9_detailOf 114 = .ok (.ireturn, 1) := by decide +kernel
theorem dX9_detailOf_115 : decode cX9_detailOf 115 = .ok (.aload_n 0, 1) := by decide +kernel
theorem dX9_detailOf_116 : decode cX9_detailOf 116 = .ok (.getfield 21, 3) := by decide +kernel
theorem dX9_detailOf_119 : decode cX9_detailOf 119 = .ok (.getfield 72, 3) := by decide +kernel
theorem dX9_detailOf_122 : decode cX9_detailOf 122 = .ok (.ireturn, 1) := by decide +kernel
theorem dX9_detailOf_123 : decode cX9_detailOf 123 = .ok (.iconst 0, 1) := by decide +kernel
theorem dX9_detailOf_124 : decode cX9_detailOf 124 = .ok (.ireturn, 1) := by decide +kernel
theorem dX9_tryHolder_0 : decode cX9_tryHolder 0 = .ok (.aload_n 0, 1) := by decide +kernel
theorem dX9_tryHolder_1 : decode cX9_tryHolder 1 = .ok (.getfield 12, 3) := by decide +kernel
theorem dX9_tryHolder_4 : decode cX9_tryHolder 4 = .ok (.getfield 52, 3) := by decide +kernel
theorem dX9_tryHolder_7 : decode cX9_tryHolder 7 = .ok (.bipush 8, 2) := by decide +kernel
theorem dX9_tryHolder_9 : decode cX9_tryHolder 9 = .ok (.if_icmp .lt 5, 3) := by decide +kernel
theorem dX9_tryHolder_12 : decode cX9_tryHolder 12 = .ok (.iconst 1, 1) := by decide +kernel
theorem dX9_tryHolder_13 : decode cX9_tryHolder 13 = .ok (.ireturn, 1) := by decide +kernel
theorem dX9_tryHolder_14 : decode cX9_tryHolder 14 = .ok (.aload_n 0, 1) := by decide +kernel
theorem dX9_tryHolder_15 : decode cX9_tryHolder 15 = .ok (.aload_n 0, 1) := by decide +kernel
theorem dX9_tryHolder_16 : decode cX9_tryHolder 16 = .ok (.getfield 12, 3) := by decide +kernel
theorem dX9_tryHolder_19 : decode cX9_tryHolder 19 = .ok (.invokevirtual 75, 3) := by decide +kernel
theorem dX9_tryHolder_22 : decode cX9_tryHolder 22 = .ok (.putfield 79, 3) := by decide +kernel
theorem dX9_tryHolder_25 : decode cX9_tryHolder 25 = .ok (.iconst 0, 1) := by decide +kernel
theorem dX9_tryHolder_26 : decode cX9_tryHolder 26 = .ok (.ireturn, 1) := by decide +kernel
theorem dX9_trySeal_0 : decode cX9_trySeal 0 = .ok (.iload_n 1, 1) := by decide +kernel
theorem dX9_trySeal_1 : decode cX9_trySeal 1 = .ok (.invokestatic 82, 3) := by decide +kernel
theorem dX9_trySeal_4 : decode cX9_trySeal 4 = .ok (.ifCond .eq 29, 3) := by decide +kernel
theorem dX9_trySeal_7 : decode cX9_trySeal 7 = .ok (.iload_n 2, 1) := by decide +kernel
theorem dX9_trySeal_8 : decode cX9_trySeal 8 = .ok (.invokestatic 82, 3) := by decide +kernel
theorem dX9_trySeal_11 : decode cX9_trySeal 11 = .ok (.ifCond .eq 22, 3) := by decide +kernel
theorem dX9_trySeal_14 : decode cX9_trySeal 14 = .ok (.iload_n 3, 1) := by decide +kernel
theorem dX9_trySeal_15 : decode cX9_trySeal 15 = .ok (.invokestatic 82, 3) := by decide +kernel
theorem dX9_trySeal_18 : decode cX9_trySeal 18 = .ok (.ifCond .eq 15, 3) := by decide +kernel
theorem dX9_trySeal_21 : decode cX9_trySeal 21 = .ok (.iload 4, 2) := by decide +kernel
theorem dX9_trySeal_23 : decode cX9_trySeal 23 = .ok (.iconst 1, 1) := by decide +kernel
theorem dX9_trySeal_24 : decode cX9_trySeal 24 = .ok (.if_icmp .lt 9, 3) := by decide +kernel
theorem dX9_trySeal_27 : decode cX9_trySeal 27 = .ok (.iload 4, 2) := by decide +kernel
theorem dX9_trySeal_29 : decode cX9_trySeal 29 = .ok (.iconst 3, 1) := by decide +kernel
theorem dX9_trySeal_30 : decode cX9_trySeal 30 = .ok (.if_icmp .le 6, 3) := by decide +kernel
theorem dX9_trySeal_33 : decode cX9_trySeal 33 = .ok (.bipush (-2), 2) := by decide +kernel
theorem dX9_trySeal_35 : decode cX9_trySeal 35 = .ok (.ireturn, 1) := by decide +kernel
theorem dX9_trySeal_36 : decode cX9_trySeal 36 = .ok (.aload_n 0, 1) := by decide +kernel
theorem dX9_trySeal_37 : decode cX9_trySeal 37 = .ok (.getfield 12, 3) := by decide +kernel
theorem dX9_trySeal_40 : decode cX9_trySeal 40 = .ok (.getfield 52, 3) := by decide +kernel
theorem dX9_trySeal_43 : decode cX9_trySeal 43 = .ok (.iload 4, 2) := by decide +kernel
theorem dX9_trySeal_45 : decode cX9_trySeal 45 = .ok (.if_icmp .ge 5, 3) := by decide +kernel
theorem dX9_trySeal_48 : decode cX9_trySeal 48 = .ok (.iconst 2, 1) := by decide +kernel
theorem dX9_trySeal_49 : decode cX9_trySeal 49 = .ok (.ireturn, 1) := by decide +kernel
theorem dX9_trySeal_50 : decode cX9_trySeal 50 = .ok (.aload_n 0, 1) := by decide +kernel
theorem dX9_trySeal_51 : decode cX9_trySeal 51 = .ok (.getfield 12, 3) := by decide +kernel
theorem dX9_trySeal_54 : decode cX9_trySeal 54 = .ok (.iload_n 1, 1) := by decide +kernel
theorem dX9_trySeal_55 : decode cX9_trySeal 55 = .ok (.iload_n 2, 1) := by decide +kernel
theorem dX9_trySeal_56 : decode cX9_trySeal 56 = .ok (.iload_n 3, 1) := by decide +kernel
theorem dX9_trySeal_57 : decode cX9_trySeal 57 = .ok (.iload 4, 2) := by decide +kernel
theorem dX9_trySeal_59 : decode cX9_trySeal 59 = .ok (.invokevirtual 86, 3) := by decide +kernel
theorem dX9_trySeal_62 : decode cX9_trySeal 62 = .ok (.aload_n 0, 1) := by decide +kernel
theorem dX9_trySeal_63 : decode cX9_trySeal 63 = .ok (.getfield 21, 3) := by decide +kernel
theorem dX9_trySeal_66 : decode cX9_trySeal 66 = .ok (.invokevirtual 90, 3) := by decide +kernel
theorem dX9_trySeal_69 : decode cX9_trySeal 69 = .ok (.aload_n 0, 1) := by decide +kernel
theorem dX9_trySeal_70 : decode cX9_trySeal 70 = .ok (.aload_n 0, 1) := by decide +kernel
theorem dX9_trySeal_71 : decode cX9_trySeal 71 = .ok (.getfield 12, 3) := by decide +kernel
theorem dX9_trySeal_74 : decode cX9_trySeal 74 = .ok (.getfield 52, 3) := by decide +kernel
theorem dX9_trySeal_77 : decode cX9_trySeal 77 = .ok (.putfield 79, 3) := by decide +kernel
theorem dX9_trySeal_80 : decode cX9_trySeal 80 = .ok (.iconst 0, 1) := by decide +kernel
theorem dX9_trySeal_81 : decode cX9_trySeal 81 = .ok (.ireturn, 1) := by decide +kernel
theorem dX9_tryShare_0 : decode cX9_tryShare 0 = .ok (.aload_n 0, 1) := by decide +kernel
theorem dX9_tryShare_1 : decode cX9_tryShare 1 = .ok (.getfield 12, 3) := by decide +kernel
theorem dX9_tryShare_4 : decode cX9_tryShare 4 = .ok (.iload_n 1, 1) := by decide +kernel
theorem dX9_tryShare_5 : decode cX9_tryShare 5 = .ok (.invokevirtual 93, 3) := by decide +kernel
theorem dX9_tryShare_8 : decode cX9_tryShare 8 = .ok (.ifCond .ne 5, 3) := by decide +kernel
theorem dX9_tryShare_11 : decode cX9_tryShare 11 = .ok (.iconst (-1), 1) := by decide +kernel
theorem dX9_tryShare_12 : decode cX9_tryShare 12 = .ok (.ireturn, 1) := by decide +kernel
theorem dX9_tryShare_13 : decode cX9_tryShare 13 = .ok (.iload_n 2, 1) := by decide +kernel
theorem dX9_tryShare_14 : decode cX9_tryShare 14 = .ok (.invokestatic 82, 3) := by decide +kernel
theorem dX9_tryShare_17 : decode cX9_tryShare 17 = .ok (.ifCond .ne 6, 3) := by decide +kernel
theorem dX9_tryShare_20 : decode cX9_tryShare 20 = .ok (.bipush (-2), 2) := by decide +kernel
theorem dX9_tryShare_22 : decode cX9_tryShare 22 = .ok (.ireturn, 1) := by decide +kernel
theorem dX9_tryShare_23 : decode cX9_tryShare 23 = .ok (.aload_n 0, 1) := by decide +kernel
theorem dX9_tryShare_24 : decode cX9_tryShare 24 = .ok (.getfield 12, 3) := by decide +kernel
theorem dX9_tryShare_27 : decode cX9_tryShare 27 = .ok (.getfield 96, 3) := by decide +kernel
theorem dX9_tryShare_30 : decode cX9_tryShare 30 = .ok (.ifCond .ne 5, 3) := by decide +kernel
theorem dX9_tryShare_33 : decode cX9_tryShare 33 = .ok (.iconst 3, 1) := by decide +kernel
theorem dX9_tryShare_34 : decode cX9_tryShare 34 = .ok (.ireturn, 1) := by decide +kernel
theorem dX9_tryShare_35 : decode cX9_tryShare 35 = .ok (.aload_n 0, 1) := by decide +kernel
theorem dX9_tryShare_36 : decode cX9_tryShare 36 = .ok (.aload_n 0, 1) := by decide +kernel
theorem dX9_tryShare_37 : decode cX9_tryShare 37 = .ok (.getfield 12, 3) := by decide +kernel
theorem dX9_tryShare_40 : decode cX9_tryShare 40 = .ok (.getfield 100, 3) := by decide +kernel
theorem dX9_tryShare_43 : decode cX9_tryShare 43 = .ok (.iload_n 1, 1) := by decide +kernel
theorem dX9_tryShare_44 : decode cX9_tryShare 44 = .ok (.iaload, 1) := by decide +kernel
theorem dX9_tryShare_45 : decode cX9_tryShare 45 = .ok (.putfield 79, 3) := by decide +kernel
theorem dX9_tryShare_48 : decode cX9_tryShare 48 = .ok (.aload_n 0, 1) := by decide +kernel
theorem dX9_tryShare_49 : decode cX9_tryShare 49 = .ok (.getfield 12, 3) := by decide +kernel
theorem dX9_tryShare_52 : decode cX9_tryShare 52 = .ok (.getfield 100, 3) := by decide +kernel
theorem dX9_tryShare_55 : decode cX9_tryShare 55 = .ok (.iload_n 1, 1) := by decide +kernel
theorem dX9_tryShare_56 : decode cX9_tryShare 56 = .ok (.iload_n 2, 1) := by decide +kernel
theorem dX9_tryShare_57 : decode cX9_tryShare 57 = .ok (.iastore, 1) := by decide +kernel
theorem dX9_tryShare_58 : decode cX9_tryShare 58 = .ok (.iconst 0, 1) := by decide +kernel
theorem dX9_tryShare_59 : decode cX9_tryShare 59 = .ok (.ireturn, 1) := by decide +kernel
theorem dX9_tryPresent_0 : decode cX9_tryPresent 0 = .ok (.aload_n 0, 1) := by decide +kernel
theorem dX9_tryPresent_1 : decode cX9_tryPresent 1 = .ok (.getfield 12, 3) := by decide +kernel
theorem dX9_tryPresent_4 : decode cX9_tryPresent 4 = .ok (.iload_n 1, 1) := by decide +kernel
theorem dX9_tryPresent_5 : decode cX9_tryPresent 5 = .ok (.invokevirtual 93, 3) := by decide +kernel
theorem dX9_tryPresent_8 : decode cX9_tryPresent 8 = .ok (.ifCond .ne 5, 3) := by decide +kernel
theorem dX9_tryPresent_11 : decode cX9_tryPresent 11 = .ok (.iconst (-1), 1) := by decide +kernel
theorem dX9_tryPresent_12 : decode cX9_tryPresent 12 = .ok (.ireturn, 1) := by decide +kernel
theorem dX9_tryPresent_13 : decode cX9_tryPresent 13 = .ok (.aload_n 0, 1) := by decide +kernel
theorem dX9_tryPresent_14 : decode cX9_tryPresent 14 = .ok (.getfield 12, 3) := by decide +kernel
theorem dX9_tryPresent_17 : decode cX9_tryPresent 17 = .ok (.getfield 96, 3) := by decide +kernel
theorem dX9_tryPresent_20 : decode cX9_tryPresent 20 = .ok (.ifCond .ne 5, 3) := by decide +kernel
theorem dX9_tryPresent_23 : decode cX9_tryPresent 23 = .ok (.iconst 3, 1) := by decide +kernel
theorem dX9_tryPresent_24 : decode cX9_tryPresent 24 = .ok (.ireturn, 1) := by decide +kernel
theorem dX9_tryPresent_25 : decode cX9_tryPresent 25 = .ok (.aload_n 0, 1) := by decide +kernel
theorem dX9_tryPresent_26 : decode cX9_tryPresent 26 = .ok (.getfield 12, 3) := by decide +kernel
theorem dX9_tryPresent_29 : decode cX9_tryPresent 29 = .ok (.iload_n 1, 1) := by decide +kernel
theorem dX9_tryPresent_30 : decode cX9_tryPresent 30 = .ok (.invokevirtual 56, 3) := by decide +kernel
theorem dX9_tryPresent_33 : decode cX9_tryPresent 33 = .ok (.iconst (-1), 1) := by decide +kernel
theorem dX9_tryPresent_34 : decode cX9_tryPresent 34 = .ok (.if_icmp .eq 5, 3) := by decide +kernel
theorem dX9_tryPresent_37 : decode cX9_tryPresent 37 = .ok (.iconst 4, 1) := by decide +kernel
theorem dX9_tryPresent_38 : decode cX9_tryPresent 38 = .ok (.ireturn, 1) := by decide +kernel
theorem dX9_tryPresent_39 : decode cX9_tryPresent 39 = .ok (.aload_n 0, 1) := by decide +kernel
theorem dX9_tryPresent_40 : decode cX9_tryPresent 40 = .ok (.aload_n 0, 1) := by decide +kernel
theorem dX9_tryPresent_41 : decode cX9_tryPresent 41 = .ok (.getfield 12, 3) := by decide +kernel
theorem dX9_tryPresent_44 : decode cX9_tryPresent 44 = .ok (.iload_n 1, 1) := by decide +kernel
theorem dX9_tryPresent_45 : decode cX9_tryPresent 45 = .ok (.invokevirtual 104, 3) := by decide +kernel
theorem dX9_tryPresent_48 : decode cX9_tryPresent 48 = .ok (.putfield 79, 3) := by decide +kernel
theorem dX9_tryPresent_51 : decode cX9_tryPresent 51 = .ok (.iconst 0, 1) := by decide +kernel
theorem dX9_tryPresent_52 : decode cX9_tryPresent 52 = .ok (.ireturn, 1) := by decide +kernel
theorem dX9_tryTakeBack_0 : decode cX9_tryTakeBack 0 = .ok (.aload_n 0, 1) := by decide +kernel
theorem dX9_tryTakeBack_1 : decode cX9_tryTakeBack 1 = .ok (.getfield 12, 3) := by decide +kernel
theorem dX9_tryTakeBack_4 : decode cX9_tryTakeBack 4 = .ok (.iload_n 1, 1) := by decide +kernel
theorem dX9_tryTakeBack_5 : decode cX9_tryTakeBack 5 = .ok (.invokevirtual 93, 3) := by decide +kernel
theorem dX9_tryTakeBack_8 : decode cX9_tryTakeBack 8 = .ok (.ifCond .ne 5, 3) := by decide +kernel
theorem dX9_tryTakeBack_11 : decode cX9_tryTakeBack 11 = .ok (.iconst (-1), 1) := by decide +kernel
theorem dX9_tryTakeBack_12 : decode cX9_tryTakeBack 12 = .ok (.ireturn, 1) := by decide +kernel
theorem dX9_tryTakeBack_13 : decode cX9_tryTakeBack 13 = .ok (.aload_n 0, 1) := by decide +kernel
theorem dX9_tryTakeBack_14 : decode cX9_tryTakeBack 14 = .ok (.getfield 12, 3) := by decide +kernel
theorem dX9_tryTakeBack_17 : decode cX9_tryTakeBack 17 = .ok (.getfield 96, 3) := by decide +kernel
theorem dX9_tryTakeBack_20 : decode cX9_tryTakeBack 20 = .ok (.ifCond .ne 5, 3) := by decide +kernel
theorem dX9_tryTakeBack_23 : decode cX9_tryTakeBack 23 = .ok (.iconst 3, 1) := by decide +kernel
theorem dX9_tryTakeBack_24 : decode cX9_tryTakeBack 24 = .ok (.ireturn, 1) := by decide +kernel
theorem dX9_tryTakeBack_25 : decode cX9_tryTakeBack 25 = .ok (.aload_n 0, 1) := by decide +kernel
theorem dX9_tryTakeBack_26 : decode cX9_tryTakeBack 26 = .ok (.getfield 12, 3) := by decide +kernel
theorem dX9_tryTakeBack_29 : decode cX9_tryTakeBack 29 = .ok (.iload_n 1, 1) := by decide +kernel
theorem dX9_tryTakeBack_30 : decode cX9_tryTakeBack 30 = .ok (.invokevirtual 56, 3) := by decide +kernel
theorem dX9_tryTakeBack_33 : decode cX9_tryTakeBack 33 = .ok (.istore_n 2, 1) := by decide +kernel
theorem dX9_tryTakeBack_34 : decode cX9_tryTakeBack 34 = .ok (.iload_n 2, 1) := by decide +kernel
theorem dX9_tryTakeBack_35 : decode cX9_tryTakeBack 35 = .ok (.iconst (-1), 1) := by decide +kernel
theorem dX9_tryTakeBack_36 : decode cX9_tryTakeBack 36 = .ok (.if_icmp .ne 5, 3) := by decide +kernel
theorem dX9_tryTakeBack_39 : decode cX9_tryTakeBack 39 = .ok (.iconst 5, 1) := by decide +kernel
theorem dX9_tryTakeBack_40 : decode cX9_tryTakeBack 40 = .ok (.ireturn, 1) := by decide +kernel
theorem dX9_tryTakeBack_41 : decode cX9_tryTakeBack 41 = .ok (.aload_n 0, 1) := by decide +kernel
theorem dX9_tryTakeBack_42 : decode cX9_tryTakeBack 42 = .ok (.aload_n 0, 1) := by decide +kernel
theorem dX9_tryTakeBack_43 : decode cX9_tryTakeBack 43 = .ok (.getfield 12, 3) := by decide +kernel
theorem dX9_tryTakeBack_46 : decode cX9_tryTakeBack 46 = .ok (.iload_n 2, 1) := by decide +kernel
theorem dX9_tryTakeBack_47 : decode cX9_tryTakeBack 47 = .ok (.invokevirtual 107, 3) := by decide +kernel
theorem dX9_tryTakeBack_50 : decode cX9_tryTakeBack 50 = .ok (.putfield 79, 3) := by decide +kernel
theorem dX9_tryTakeBack_53 : decode cX9_tryTakeBack 53 = .ok (.iconst 0, 1) := by decide +kernel
theorem dX9_tryTakeBack_54 : decode cX9_tryTakeBack 54 = .ok (.ireturn, 1) := by decide +kernel
theorem dX9_tryOpen_0 : decode cX9_tryOpen 0 = .ok (.aload_n 0, 1) := by decide +kernel
theorem dX9_tryOpen_1 : decode cX9_tryOpen 1 = .ok (.invokevirtual 110, 3) := by decide +kernel
theorem dX9_tryOpen_4 : decode cX9_tryOpen 4 = .ok (.istore_n 1, 1) := by decide +kernel
theorem dX9_tryOpen_5 : decode cX9_tryOpen 5 = .ok (.iload_n 1, 1) := by decide +kernel
theorem dX9_tryOpen_6 : decode cX9_tryOpen 6 = .ok (.ifCond .eq 5, 3) := by decide +kernel
theorem dX9_tryOpen_9 : decode cX9_tryOpen 9 = .ok (.iload_n 1, 1) := by decide +kernel
theorem dX9_tryOpen_10 : decode cX9_tryOpen 10 = .ok (.ireturn, 1) := by decide +kernel
theorem dX9_tryOpen_11 : decode cX9_tryOpen 11 = .ok (.aload_n 0, 1) := by decide +kernel
theorem dX9_tryOpen_12 : decode cX9_tryOpen 12 = .ok (.getfield 12, 3) := by decide +kernel
theorem dX9_tryOpen_15 : decode cX9_tryOpen 15 = .ok (.invokevirtual 113, 3) := by decide +kernel
theorem dX9_tryOpen_18 : decode cX9_tryOpen 18 = .ok (.istore_n 2, 1) := by decide +kernel
theorem dX9_tryOpen_19 : decode cX9_tryOpen 19 = .ok (.iload_n 2, 1) := by decide +kernel
theorem dX9_tryOpen_20 : decode cX9_tryOpen 20 = .ok (.ifCond .eq 13, 3) := by decide +kernel
theorem dX9_tryOpen_23 : decode cX9_tryOpen 23 = .ok (.aload_n 0, 1) := by decide +kernel
theorem dX9_tryOpen_24 : decode cX9_tryOpen 24 = .ok (.getfield 21, 3) := by decide +kernel
theorem dX9_tryOpen_27 : decode cX9_tryOpen 27 = .ok (.invokevirtual 117, 3) := by decide +kernel
theorem dX9_tryOpen_30 : decode cX9_tryOpen 30 = .ok (.goto 10, 3) := by decide +kernel
theorem dX9_tryOpen_33 : decode cX9_tryOpen 33 = .ok (.aload_n 0, 1) := by decide +kernel
theorem dX9_tryOpen_34 : decode cX9_tryOpen 34 = .ok (.getfield 21, 3) := by decide +kernel
theorem dX9_tryOpen_37 : decode cX9_tryOpen 37 = .ok (.invokevirtual 120, 3) := by decide +kernel
theorem dX9_tryOpen_40 : decode cX9_tryOpen 40 = .ok (.aload_n 0, 1) := by decide +kernel
theorem dX9_tryOpen_41 : decode cX9_tryOpen 41 = .ok (.getfield 35, 3) := by decide +kernel
theorem dX9_tryOpen_44 : decode cX9_tryOpen 44 = .ok (.aload_n 0, 1) := by decide +kernel
theorem dX9_tryOpen_45 : decode cX9_tryOpen 45 = .ok (.getfield 28, 3) := by decide +kernel
theorem dX9_tryOpen_48 : decode cX9_tryOpen 48 = .ok (.getfield 123, 3) := by decide +kernel
theorem dX9_tryOpen_51 : decode cX9_tryOpen 51 = .ok (.iload_n 2, 1) := by decide +kernel
theorem dX9_tryOpen_52 : decode cX9_tryOpen 52 = .ok (.ifCond .eq 8, 3) := by decide +kernel
theorem dX9_tryOpen_55 : decode cX9_tryOpen 55 = .ok (.bipush 111, 2) := by decide +kernel
theorem dX9_tryOpen_57 : decode cX9_tryOpen 57 = .ok (.goto 5, 3) := by decide +kernel
theorem dX9_tryOpen_60 : decode cX9_tryOpen 60 = .ok (.bipush 102, 2) := by decide +kernel
theorem dX9_tryOpen_62 : decode cX9_tryOpen 62 = .ok (.aload_n 0, 1) := by decide +kernel
theorem dX9_tryOpen_63 : decode cX9_tryOpen 63 = .ok (.getfield 12, 3) := by decide +kernel
theorem dX9_tryOpen_66 : decode cX9_tryOpen 66 = .ok (.getfield 60, 3) := by decide +kernel
theorem dX9_tryOpen_69 : decode cX9_tryOpen 69 = .ok (.invokevirtual 126, 3) := by decide +kernel
theorem dX9_tryOpen_72 : decode cX9_tryOpen 72 = .ok (.aload_n 0, 1) := by decide +kernel
theorem dX9_tryOpen_73 : decode cX9_tryOpen 73 = .ok (.iload_n 2, 1) := by decide +kernel
theorem dX9_tryOpen_74 : decode cX9_tryOpen 74 = .ok (.ifCond .eq 7, 3) := by decide +kernel
theorem dX9_tryOpen_77 : decode cX9_tryOpen 77 = .ok (.iconst 1, 1) := by decide +kernel
theorem dX9_tryOpen_78 : decode cX9_tryOpen 78 = .ok (.goto 4, 3) := by decide +kernel
theorem dX9_tryOpen_81 : decode cX9_tryOpen 81 = .ok (.iconst 0, 1) := by decide +kernel
theorem dX9_tryOpen_82 : decode cX9_tryOpen 82 = .ok (.putfield 79, 3) := by decide +kernel
theorem dX9_tryOpen_85 : decode cX9_tryOpen 85 = .ok (.iconst 0, 1) := by decide +kernel
theorem dX9_tryOpen_86 : decode cX9_tryOpen 86 = .ok (.ireturn, 1) := by decide +kernel
theorem dX9_verdictOnAttempt_0 : decode cX9_verdictOnAttempt 0 = .ok (.aload_n 0, 1) := by decide +kernel
theorem dX9_verdictOnAttempt_1 : decode cX9_verdictOnAttempt 1 = .ok (.getfield 12, 3) := by decide +kernel
theorem dX9_verdictOnAttempt_4 : decode cX9_verdictOnAttempt 4 = .ok (.getfield 96, 3) := by decide +kernel
theorem dX9_verdictOnAttempt_7 : decode cX9_verdictOnAttempt 7 = .ok (.ifCond .ne 5, 3) := by decide +kernel
theorem dX9_verdictOnAttempt_10 : decode cX9_verdictOnAttempt 10 = .ok (.iconst 3, 1) := by decide +kernel
theorem dX9_verdictOnAttempt_11 : decode cX9_verdictOnAttempt 11 = .ok (.ireturn, 1) := by decide +kernel
theorem dX9_verdictOnAttempt_12 : decode cX9_verdictOnAttempt 12 = .ok (.aload_n 0, 1) := by decide +kernel
theorem dX9_verdictOnAttempt_13 : decode cX9_verdictOnAttempt 13 = .ok (.getfield 21, 3) := by decide +kernel
theorem dX9_verdictOnAttempt_16 : decode cX9_verdictOnAttempt 16 = .ok (.getfield 130, 3) := by decide +kernel
theorem dX9_verdictOnAttempt_19 : decode cX9_verdictOnAttempt 19 = .ok (.ifCond .eq 6, 3) := by decide +kernel
theorem dX9_verdictOnAttempt_22 : decode cX9_verdictOnAttempt 22 = .ok (.bipush 6, 2) := by decide +kernel
theorem dX9_verdictOnAttempt_24 : decode cX9_verdictOnAttempt 24 = .ok (.ireturn, 1) := by decide +kernel
theorem dX9_verdictOnAttempt_25 : decode cX9_verdictOnAttempt 25 = .ok (.aload_n 0, 1) := by decide +kernel
theorem dX9_verdictOnAttempt_26 : decode cX9_verdictOnAttempt 26 = .ok (.getfield 21, 3) := by decide +kernel
theorem dX9_verdictOnAttempt_29 : decode cX9_verdictOnAttempt 29 = .ok (.getfield 63, 3) := by decide +kernel
theorem dX9_verdictOnAttempt_32 : decode cX9_verdictOnAttempt 32 = .ok (.ifCond .le 6, 3) := by decide +kernel
theorem dX9_verdictOnAttempt_35 : decode cX9_verdictOnAttempt 35 = .ok (.bipush 7, 2) := by decide +kernel
theorem dX9_verdictOnAttempt_37 : decode cX9_verdictOnAttempt 37 = .ok (.ireturn, 1) := by decide +kernel
theorem dX9_verdictOnAttempt_38 : decode cX9_verdictOnAttempt 38 = .ok (.aload_n 0, 1) := by decide +kernel
theorem dX9_verdictOnAttempt_39 : decode cX9_verdictOnAttempt 39 = .ok (.getfield 12, 3) := by decide +kernel
theorem dX9_verdictOnAttempt_42 : decode cX9_verdictOnAttempt 42 = .ok (.invokevirtual 133, 3) := by decide +kernel
theorem dX9_verdictOnAttempt_45 : decode cX9_verdictOnAttempt 45 = .ok (.ifCond .ne 6, 3) := by decide +kernel
theorem dX9_verdictOnAttempt_48 : decode cX9_verdictOnAttempt 48 = .ok (.bipush 8, 2) := by decide +kernel
theorem dX9_verdictOnAttempt_50 : decode cX9_verdictOnAttempt 50 = .ok (.ireturn, 1) := by decide +kernel
theorem dX9_verdictOnAttempt_51 : decode cX9_verdictOnAttempt 51 = .ok (.aload_n 0, 1) := by decide +kernel
theorem dX9_verdictOnAttempt_52 : decode cX9_verdictOnAttempt 52 = .ok (.getfield 28, 3) := by decide +kernel
theorem dX9_verdictOnAttempt_55 : decode cX9_verdictOnAttempt 55 = .ok (.iconst 0, 1) := by decide +kernel
theorem dX9_verdictOnAttempt_56 : decode cX9_verdictOnAttempt 56 = .ok (.invokevirtual 136, 3) := by decide +kernel
theorem dX9_verdictOnAttempt_59 : decode cX9_verdictOnAttempt 59 = .ok (.ifCond .eq 7, 3) := by decide +kernel
theorem dX9_verdictOnAttempt_62 : decode cX9_verdictOnAttempt 62 = .ok (.iconst 0, 1) := by decide +kernel
theorem dX9_verdictOnAttempt_63 : decode cX9_verdictOnAttempt 63 = .ok (.goto 5, 3) := by decide +kernel
theorem dX9_verdictOnAttempt_66 : decode cX9_verdictOnAttempt 66 = .ok (.bipush 9, 2) := by decide +kernel
theorem dX9_verdictOnAttempt_68 : decode cX9_verdictOnAttempt 68 = .ok (.ireturn, 1) := by decide +kernel
theorem dX9_tryClose_0 : decode cX9_tryClose 0 = .ok (.aload_n 0, 1) := by decide +kernel
theorem dX9_tryClose_1 : decode cX9_tryClose 1 = .ok (.getfield 12, 3) := by decide +kernel
theorem dX9_tryClose_4 : decode cX9_tryClose 4 = .ok (.getfield 96, 3) := by decide +kernel
theorem dX9_tryClose_7 : decode cX9_tryClose 7 = .ok (.ifCond .ne 5, 3) := by decide +kernel
theorem dX9_tryClose_10 : decode cX9_tryClose 10 = .ok (.iconst 3, 1) := by decide +kernel
theorem dX9_tryClose_11 : decode cX9_tryClose 11 = .ok (.ireturn, 1) := by decide +kernel
theorem dX9_tryClose_12 : decode cX9_tryClose 12 = .ok (.aload_n 0, 1) := by decide +kernel
theorem dX9_tryClose_13 : decode cX9_tryClose 13 = .ok (.getfield 21, 3) := by decide +kernel
theorem dX9_tryClose_16 : decode cX9_tryClose 16 = .ok (.getfield 130, 3) := by decide +kernel
theorem dX9_tryClose_19 : decode cX9_tryClose 19 = .ok (.ifCond .ne 6, 3) := by decide +kernel
theorem dX9_tryClose_22 : decode cX9_tryClose 22 = .ok (.bipush 10, 2) := by decide +kernel
theorem dX9_tryClose_24 : decode cX9_tryClose 24 = .ok (.ireturn, 1) := by decide +kernel
theorem dX9_tryClose_25 : decode cX9_tryClose 25 = .ok (.aload_n 0, 1) := by decide +kernel
theorem dX9_tryClose_26 : decode cX9_tryClose 26 = .ok (.aload_n 0, 1) := by decide +kernel
theorem dX9_tryClose_27 : decode cX9_tryClose 27 = .ok (.getfield 12, 3) := by decide +kernel
theorem dX9_tryClose_30 : decode cX9_tryClose 30 = .ok (.getfield 60, 3) := by decide +kernel
theorem dX9_tryClose_33 : decode cX9_tryClose 33 = .ok (.putfield 79, 3) := by decide +kernel
theorem dX9_tryClose_36 : decode cX9_tryClose 36 = .ok (.aload_n 0, 1) := by decide +kernel
theorem dX9_tryClose_37 : decode cX9_tryClose 37 = .ok (.getfield 12, 3) := by decide +kernel
theorem dX9_tryClose_40 : decode cX9_tryClose 40 = .ok (.iconst 0, 1) := by decide +kernel
theorem dX9_tryClose_41 : decode cX9_tryClose 41 = .ok (.putfield 60, 3) := by decide +kernel
theorem dX9_tryClose_44 : decode cX9_tryClose 44 = .ok (.aload_n 0, 1) := by decide +kernel
theorem dX9_tryClose_45 : decode cX9_tryClose 45 = .ok (.getfield 21, 3) := by decide +kernel
theorem dX9_tryClose_48 : decode cX9_tryClose 48 = .ok (.iconst 0, 1) := by decide +kernel
theorem dX9_tryClose_49 : decode cX9_tryClose 49 = .ok (.putfield 130, 3) := by decide +kernel
theorem dX9_tryClose_52 : decode cX9_tryClose 52 = .ok (.aload_n 0, 1) := by decide +kernel
theorem dX9_tryClose_53 : decode cX9_tryClose 53 = .ok (.getfield 35, 3) := by decide +kernel
theorem dX9_tryClose_56 : decode cX9_tryClose 56 = .ok (.aload_n 0, 1) := by decide +kernel
theorem dX9_tryClose_57 : decode cX9_tryClose 57 = .ok (.getfield 28, 3) := by decide +kernel
theorem dX9_tryClose_60 : decode cX9_tryClose 60 = .ok (.getfield 123, 3) := by decide +kernel
theorem dX9_tryClose_63 : decode cX9_tryClose 63 = .ok (.bipush 99, 2) := by decide +kernel
theorem dX9_tryClose_65 : decode cX9_tryClose 65 = .ok (.iconst 0, 1) := by decide +kernel
theorem dX9_tryClose_66 : decode cX9_tryClose 66 = .ok (.invokevirtual 126, 3) := by decide +kernel
theorem dX9_tryClose_69 : decode cX9_tryClose 69 = .ok (.iconst 0, 1) := by decide +kernel
theorem dX9_tryClose_70 : decode cX9_tryClose 70 = .ok (.ireturn, 1) := by decide +kernel
theorem dX9_tryGuard_0 : decode cX9_tryGuard 0 = .ok (.iload_n 1, 1) := by decide +kernel
theorem dX9_tryGuard_1 : decode cX9_tryGuard 1 = .ok (.invokestatic 139, 3) := by decide +kernel
theorem dX9_tryGuard_4 : decode cX9_tryGuard 4 = .ok (.ifCond .eq 13, 3) := by decide +kernel
theorem dX9_tryGuard_7 : decode cX9_tryGuard 7 = .ok (.iload_n 3, 1) := by decide +kernel
theorem dX9_tryGuard_8 : decode cX9_tryGuard 8 = .ok (.iconst 1, 1) := by decide +kernel
theorem dX9_tryGuard_9 : decode cX9_tryGuard 9 = .ok (.if_icmp .lt 8, 3) := by decide +kernel
theorem dX9_tryGuard_12 : decode cX9_tryGuard 12 = .ok (.iload_n 3, 1) := by decide +kernel
theorem dX9_tryGuard_13 : decode cX9_tryGuard 13 = .ok (.iconst 4, 1) := by decide +kernel
theorem dX9_tryGuard_14 : decode cX9_tryGuard 14 = .ok (.if_icmp .le 6, 3) := by decide +kernel
theorem dX9_tryGuard_17 : decode cX9_tryGuard 17 = .ok (.bipush (-2), 2) := by decide +kernel
theorem dX9_tryGuard_19 : decode cX9_tryGuard 19 = .ok (.ireturn, 1) := by decide +kernel
theorem dX9_tryGuard_20 : decode cX9_tryGuard 20 = .ok (.aload_n 0, 1) := by decide +kernel
theorem dX9_tryGuard_21 : decode cX9_tryGuard 21 = .ok (.getfield 28, 3) := by decide +kernel
theorem dX9_tryGuard_24 : decode cX9_tryGuard 24 = .ok (.getfield 69, 3) := by decide +kernel
theorem dX9_tryGuard_27 : decode cX9_tryGuard 27 = .ok (.iconst 3, 1) := by decide +kernel
theorem dX9_tryGuard_28 : decode cX9_tryGuard 28 = .ok (.if_icmp .lt 5, 3) := by decide +kernel
theorem dX9_tryGuard_31 : decode cX9_tryGuard 31 = .ok (.iconst 1, 1) := by decide +kernel
theorem dX9_tryGuard_32 : decode cX9_tryGuard 32 = .ok (.ireturn, 1) := by decide +kernel
theorem dX9_tryGuard_33 : decode cX9_tryGuard 33 = .ok (.aload_n 0, 1) := by decide +kernel
theorem dX9_tryGuard_34 : decode cX9_tryGuard 34 = .ok (.aload_n 0, 1) := by decide +kernel
theorem dX9_tryGuard_35 : decode cX9_tryGuard 35 = .ok (.getfield 28, 3) := by decide +kernel
theorem dX9_tryGuard_38 : decode cX9_tryGuard 38 = .ok (.iload_n 1, 1) := by decide +kernel
theorem dX9_tryGuard_39 : decode cX9_tryGuard 39 = .ok (.iload_n 2, 1) := by decide +kernel
theorem dX9_tryGuard_40 : decode cX9_tryGuard 40 = .ok (.iload_n 3, 1) := by decide +kernel
theorem dX9_tryGuard_41 : decode cX9_tryGuard 41 = .ok (.invokevirtual 142, 3) := by decide +kernel
theorem dX9_tryGuard_44 : decode cX9_tryGuard 44 = .ok (.putfield 79, 3) := by decide +kernel
theorem dX9_tryGuard_47 : decode cX9_tryGuard 47 = .ok (.iconst 0, 1) := by decide +kernel
theorem dX9_tryGuard_48 : decode cX9_tryGuard 48 = .ok (.ireturn, 1) := by decide +kernel
theorem dX9_tryTurn_0 : decode cX9_tryTurn 0 = .ok (.aload_n 0, 1) := by decide +kernel
theorem dX9_tryTurn_1 : decode cX9_tryTurn 1 = .ok (.getfield 28, 3) := by decide +kernel
theorem dX9_tryTurn_4 : decode cX9_tryTurn 4 = .ok (.iload_n 1, 1) := by decide +kernel
theorem dX9_tryTurn_5 : decode cX9_tryTurn 5 = .ok (.invokevirtual 146, 3) := by decide +kernel
theorem dX9_tryTurn_8 : decode cX9_tryTurn 8 = .ok (.ifCond .ne 5, 3) := by decide +kernel
theorem dX9_tryTurn_11 : decode cX9_tryTurn 11 = .ok (.iconst (-1), 1) := by decide +kernel
theorem dX9_tryTurn_12 : decode cX9_tryTurn 12 = .ok (.ireturn, 1) := by decide +kernel
theorem dX9_tryTurn_13 : decode cX9_tryTurn 13 = .ok (.aload_n 0, 1) := by decide +kernel
theorem dX9_tryTurn_14 : decode cX9_tryTurn 14 = .ok (.getfield 28, 3) := by decide +kernel
theorem dX9_tryTurn_17 : decode cX9_tryTurn 17 = .ok (.getfield 149, 3) := by decide +kernel
theorem dX9_tryTurn_20 : decode cX9_tryTurn 20 = .ok (.iload_n 1, 1) := by decide +kernel
theorem dX9_tryTurn_21 : decode cX9_tryTurn 21 = .ok (.aload_n 0, 1) := by decide +kernel
theorem dX9_tryTurn_22 : decode cX9_tryTurn 22 = .ok (.getfield 28, 3) := by decide +kernel
theorem dX9_tryTurn_25 : decode cX9_tryTurn 25 = .ok (.getfield 149, 3) := by decide +kernel
theorem dX9_tryTurn_28 : decode cX9_tryTurn 28 = .ok (.iload_n 1, 1) := by decide +kernel
theorem dX9_tryTurn_29 : decode cX9_tryTurn 29 = .ok (.baload, 1) := by decide +kernel
theorem dX9_tryTurn_30 : decode cX9_tryTurn 30 = .ok (.ifCond .ne 7, 3) := by decide +kernel
theorem dX9_tryTurn_33 : decode cX9_tryTurn 33 = .ok (.iconst 1, 1) := by decide +kernel
theorem dX9_tryTurn_34 : decode cX9_tryTurn 34 = .ok (.goto 4, 3) := by decide +kernel
theorem dX9_tryTurn_37 : decode cX9_tryTurn 37 = .ok (.iconst 0, 1) := by decide +kernel
theorem dX9_tryTurn_38 : decode cX9_tryTurn 38 = .ok (.bastore, 1) := by decide +kernel
theorem dX9_tryTurn_39 : decode cX9_tryTurn 39 = .ok (.aload_n 0, 1) := by decide +kernel
theorem dX9_tryTurn_40 : decode cX9_tryTurn 40 = .ok (.aload_n 0, 1) := by decide +kernel
theorem dX9_tryTurn_41 : decode cX9_tryTurn 41 = .ok (.getfield 28, 3) := by decide +kernel
theorem dX9_tryTurn_44 : decode cX9_tryTurn 44 = .ok (.getfield 149, 3) := by decide +kernel
theorem dX9_tryTurn_47 : decode cX9_tryTurn 47 = .ok (.iload_n 1, 1) := by decide +kernel
theorem dX9_tryTurn_48 : decode cX9_tryTurn 48 = .ok (.baload, 1) := by decide +kernel
theorem dX9_tryTurn_49 : decode cX9_tryTurn 49 = .ok (.ifCond .eq 7, 3) := by decide +kernel
theorem dX9_tryTurn_52 : decode cX9_tryTurn 52 = .ok (.iconst 1, 1) := by decide +kernel
theorem dX9_tryTurn_53 : decode cX9_tryTurn 53 = .ok (.goto 4, 3) := by decide +kernel
theorem dX9_tryTurn_56 : decode cX9_tryTurn 56 = .ok (.iconst 0, 1) := by decide +kernel
theorem dX9_tryTurn_57 : decode cX9_tryTurn 57 = .ok (.putfield 79, 3) := by decide +kernel
theorem dX9_tryTurn_60 : decode cX9_tryTurn 60 = .ok (.iconst 0, 1) := by decide +kernel
theorem dX9_tryTurn_61 : decode cX9_tryTurn 61 = .ok (.ireturn, 1) := by decide +kernel
theorem dX9_tryHum_0 : decode cX9_tryHum 0 = .ok (.iload_n 1, 1) := by decide +kernel
theorem dX9_tryHum_1 : decode cX9_tryHum 1 = .ok (.invokestatic 139, 3) := by decide +kernel
theorem dX9_tryHum_4 : decode cX9_tryHum 4 = .ok (.ifCond .eq 14, 3) := by decide +kernel
theorem dX9_tryHum_7 : decode cX9_tryHum 7 = .ok (.iload_n 2, 1) := by decide +kernel
theorem dX9_tryHum_8 : decode cX9_tryHum 8 = .ok (.iconst 1, 1) := by decide +kernel
theorem dX9_tryHum_9 : decode cX9_tryHum 9 = .ok (.if_icmp .lt 9, 3) := by decide +kernel
theorem dX9_tryHum_12 : decode cX9_tryHum 12 = .ok (.iload_n 2, 1) := by decide +kernel
theorem dX9_tryHum_13 : decode cX9_tryHum 13 = .ok (.bipush 9, 2) := by decide +kernel
theorem dX9_tryHum_15 : decode cX9_tryHum 15 = .ok (.if_icmp .le 6, 3) := by decide +kernel
theorem dX9_tryHum_18 : decode cX9_tryHum 18 = .ok (.bipush (-2), 2) := by decide +kernel
theorem dX9_tryHum_20 : decode cX9_tryHum 20 = .ok (.ireturn, 1) := by decide +kernel
theorem dX9_tryHum_21 : decode cX9_tryHum 21 = .ok (.aload_n 0, 1) := by decide +kernel
theorem dX9_tryHum_22 : decode cX9_tryHum 22 = .ok (.getfield 28, 3) := by decide +kernel
theorem dX9_tryHum_25 : decode cX9_tryHum 25 = .ok (.getfield 153, 3) := by decide +kernel
theorem dX9_tryHum_28 : decode cX9_tryHum 28 = .ok (.iload_n 1, 1) := by decide +kernel
theorem dX9_tryHum_29 : decode cX9_tryHum 29 = .ok (.bipush 20, 2) := by decide +kernel
theorem dX9_tryHum_31 : decode cX9_tryHum 31 = .ok (.aload_n 0, 1) := by decide +kernel
theorem dX9_tryHum_32 : decode cX9_tryHum 32 = .ok (.getfield 28, 3) := by decide +kernel
theorem dX9_tryHum_35 : decode cX9_tryHum 35 = .ok (.getfield 153, 3) := by decide +kernel
theorem dX9_tryHum_38 : decode cX9_tryHum 38 = .ok (.iload_n 1, 1) := by decide +kernel
theorem dX9_tryHum_39 : decode cX9_tryHum 39 = .ok (.iaload, 1) := by decide +kernel
theorem dX9_tryHum_40 : decode cX9_tryHum 40 = .ok (.iload_n 2, 1) := by decide +kernel
theorem dX9_tryHum_41 : decode cX9_tryHum 41 = .ok (.iadd, 1) := by decide +kernel
theorem dX9_tryHum_42 : decode cX9_tryHum 42 = .ok (.invokestatic 156, 3) := by decide +kernel
theorem dX9_tryHum_45 : decode cX9_tryHum 45 = .ok (.iastore, 1) := by decide +kernel
theorem dX9_tryHum_46 : decode cX9_tryHum 46 = .ok (.aload_n 0, 1) := by decide +kernel
theorem dX9_tryHum_47 : decode cX9_tryHum 47 = .ok (.aload_n 0, 1) := by decide +kernel
theorem dX9_tryHum_48 : decode cX9_tryHum 48 = .ok (.getfield 28, 3) := by decide +kernel
theorem dX9_tryHum_51 : decode cX9_tryHum 51 = .ok (.getfield 153, 3) := by decide +kernel
theorem dX9_tryHum_54 : decode cX9_tryHum 54 = .ok (.iload_n 1, 1) := by decide +kernel
theorem dX9_tryHum_55 : decode cX9_tryHum 55 = .ok (.iaload, 1) := by decide +kernel
theorem dX9_tryHum_56 : decode cX9_tryHum 56 = .ok (.putfield 79, 3) := by decide +kernel
theorem dX9_tryHum_59 : decode cX9_tryHum 59 = .ok (.iconst 0, 1) := by decide +kernel
theorem dX9_tryHum_60 : decode cX9_tryHum 60 = .ok (.ireturn, 1) := by decide +kernel
theorem dX9_tryHours_0 : decode cX9_tryHours 0 = .ok (.iload_n 1, 1) := by decide +kernel
theorem dX9_tryHours_1 : decode cX9_tryHours 1 = .ok (.iconst 1, 1) := by decide +kernel
theorem dX9_tryHours_2 : decode cX9_tryHours 2 = .ok (.if_icmp .lt 9, 3) := by decide +kernel
theorem dX9_tryHours_5 : decode cX9_tryHours 5 = .ok (.iload_n 1, 1) := by decide +kernel
theorem dX9_tryHours_6 : decode cX9_tryHours 6 = .ok (.bipush 24, 2) := by decide +kernel
theorem dX9_tryHours_8 : decode cX9_tryHours 8 = .ok (.if_icmp .le 6, 3) := by decide +kernel
theorem dX9_tryHours_11 : decode cX9_tryHours 11 = .ok (.bipush (-2), 2) := by decide +kernel
theorem dX9_tryHours_13 : decode cX9_tryHours 13 = .ok (.ireturn, 1) := by decide +kernel
theorem dX9_tryHours_14 : decode cX9_tryHours 14 = .ok (.aload_n 0, 1) := by decide +kernel
theorem dX9_tryHours_15 : decode cX9_tryHours 15 = .ok (.getfield 28, 3) := by decide +kernel
theorem dX9_tryHours_18 : decode cX9_tryHours 18 = .ok (.getfield 162, 3) := by decide +kernel
theorem dX9_tryHours_21 : decode cX9_tryHours 21 = .ok (.istore_n 2, 1) := by decide +kernel
theorem dX9_tryHours_22 : decode cX9_tryHours 22 = .ok (.iconst 0, 1) := by decide +kernel
theorem dX9_tryHours_23 : decode cX9_tryHours 23 = .ok (.istore_n 3, 1) := by decide +kernel
theorem dX9_tryHours_24 : decode cX9_tryHours 24 = .ok (.iload_n 3, 1) := by decide +kernel
theorem dX9_tryHours_25 : decode cX9_tryHours 25 = .ok (.iload_n 1, 1) := by decide +kernel
theorem dX9_tryHours_26 : decode cX9_tryHours 26 = .ok (.if_icmp .ge 27, 3) := by decide +kernel
theorem dX9_tryHours_29 : decode cX9_tryHours 29 = .ok (.aload_n 0, 1) := by decide +kernel
theorem dX9_tryHours_30 : decode cX9_tryHours 30 = .ok (.aload_n 0, 1) := by decide +kernel
theorem dX9_tryHours_31 : decode cX9_tryHours 31 = .ok (.getfield 28, 3) := by decide +kernel
theorem dX9_tryHours_34 : decode cX9_tryHours 34 = .ok (.invokevirtual 165, 3) := by decide +kernel
theorem dX9_tryHours_37 : decode cX9_tryHours 37 = .ok (.invokevirtual 168, 3) := by decide +kernel
theorem dX9_tryHours_40 : decode cX9_tryHours 40 = .ok (.aload_n 0, 1) := by decide +kernel
theorem dX9_tryHours_41 : decode cX9_tryHours 41 = .ok (.getfield 21, 3) := by decide +kernel
theorem dX9_tryHours_44 : decode cX9_tryHours 44 = .ok (.invokevirtual 172, 3) := by decide +kernel
theorem dX9_tryHours_47 : decode cX9_tryHours 47 = .ok (.iinc 3 1, 3) := by decide +kernel
theorem dX9_tryHours_50 : decode cX9_tryHours 50 = .ok (.goto (-26), 3) := by decide +kernel
theorem dX9_tryHours_53 : decode cX9_tryHours 53 = .ok (.aload_n 0, 1) := by decide +kernel
theorem dX9_tryHours_54 : decode cX9_tryHours 54 = .ok (.aload_n 0, 1) := by decide +kernel
theorem dX9_tryHours_55 : decode cX9_tryHours 55 = .ok (.getfield 28, 3) := by decide +kernel
theorem dX9_tryHours_58 : decode cX9_tryHours 58 = .ok (.getfield 162, 3) := by decide +kernel
theorem dX9_tryHours_61 : decode cX9_tryHours 61 = .ok (.iload_n 2, 1) := by decide +kernel
theorem dX9_tryHours_62 : decode cX9_tryHours 62 = .ok (.isub, 1) := by decide +kernel
theorem dX9_tryHours_63 : decode cX9_tryHours 63 = .ok (.putfield 79, 3) := by decide +kernel
theorem dX9_tryHours_66 : decode cX9_tryHours 66 = .ok (.iconst 0, 1) := by decide +kernel
theorem dX9_tryHours_67 : decode cX9_tryHours 67 = .ok (.ireturn, 1) := by decide +kernel
theorem dX9_enterAlarms_0 : decode cX9_enterAlarms 0 = .ok (.iconst 0, 1) := by decide +kernel
theorem dX9_enterAlarms_1 : decode cX9_enterAlarms 1 = .ok (.istore_n 2, 1) := by decide +kernel
theorem dX9_enterAlarms_2 : decode cX9_enterAlarms 2 = .ok (.iload_n 2, 1) := by decide +kernel
theorem dX9_enterAlarms_3 : decode cX9_enterAlarms 3 = .ok (.bipush 8, 2) := by decide +kernel
theorem dX9_enterAlarms_5 : decode cX9_enterAlarms 5 = .ok (.if_icmp .ge 35, 3) := by decide +kernel
theorem dX9_enterAlarms_8 : decode cX9_enterAlarms 8 = .ok (.iload_n 1, 1) := by decide +kernel
theorem dX9_enterAlarms_9 : decode cX9_enterAlarms 9 = .ok (.iload_n 2, 1) := by decide +kernel
theorem dX9_enterAlarms_10 : decode cX9_enterAlarms 10 = .ok (.ishr, 1) := by decide +kernel
theorem dX9_enterAlarms_11 : decode cX9_enterAlarms 11 = .ok (.iconst 1, 1) := by decide +kernel
theorem dX9_enterAlarms_12 : decode cX9_enterAlarms 12 = .ok (.iand, 1) := by decide +kernel
theorem dX9_enterAlarms_13 : decode cX9_enterAlarms 13 = .ok (.iconst 1, 1) := by decide +kernel
theorem dX9_enterAlarms_14 : decode cX9_enterAlarms 14 = .ok (.if_icmp .ne 20, 3) := by decide +kernel
theorem dX9_enterAlarms_17 : decode cX9_enterAlarms 17 = .ok (.aload_n 0, 1) := by decide +kernel
theorem dX9_enterAlarms_18 : decode cX9_enterAlarms 18 = .ok (.getfield 35, 3) := by decide +kernel
theorem dX9_enterAlarms_21 : decode cX9_enterAlarms 21 = .ok (.aload_n 0, 1) := by decide +kernel
theorem dX9_enterAlarms_22 : decode cX9_enterAlarms 22 = .ok (.getfield 28, 3) := by decide +kernel
theorem dX9_enterAlarms_25 : decode cX9_enterAlarms 25 = .ok (.getfield 123, 3) := by decide +kernel
theorem dX9_enterAlarms_28 : decode cX9_enterAlarms 28 = .ok (.bipush 97, 2) := by decide +kernel
theorem dX9_enterAlarms_30 : decode cX9_enterAlarms 30 = .ok (.iload_n 2, 1) := by decide +kernel
theorem dX9_enterAlarms_31 : decode cX9_enterAlarms 31 = .ok (.invokevirtual 126, 3) := by decide +kernel
theorem dX9_enterAlarms_34 : decode cX9_enterAlarms 34 = .ok (.iinc 2 1, 3) := by decide +kernel
theorem dX9_enterAlarms_37 : decode cX9_enterAlarms 37 = .ok (.goto (-35), 3) := by decide +kernel
theorem dX9_enterAlarms_40 : decode cX9_enterAlarms 40 = .ok (.return_, 1) := by decide +kernel
theorem dX9_tryCommand_0 : decode cX9_tryCommand 0 = .ok (.getstatic 174, 3) := by decide +kernel
theorem dX9_tryCommand_3 : decode cX9_tryCommand 3 = .ok (.aload_n 1, 1) := by decide +kernel
theorem dX9_tryCommand_4 : decode cX9_tryCommand 4 = .ok (.invokevirtual 179, 3) := by decide +kernel
theorem dX9_tryCommand_7 : decode cX9_tryCommand 7 = .ok (.iaload, 1) := by decide +kernel
theorem dX9_tryCommand_8 : decode cX9_tryCommand 8 = .ok (.tableswitch 161 1 10 #[56, 61, 78, 89, 97, 105, 114, 119, 142, 150], 56) := by decide +kernel
theorem dX9_tryCommand_64 : decode cX9_tryCommand 64 = .ok (.aload_n 0, 1) := by decide +kernel
theorem dX9_tryCommand_65 : decode cX9_tryCommand 65 = .ok (.invokevirtual 184, 3) := by decide +kernel
theorem dX9_tryCommand_68 : decode cX9_tryCommand 68 = .ok (.ireturn, 1) := by decide +kernel
theorem dX9_tryCommand_69 : decode cX9_tryCommand 69 = .ok (.aload_n 0, 1) := by decide +kernel
theorem dX9_tryCommand_70 : decode cX9_tryCommand 70 = .ok (.aload_n 2, 1) := by decide +kernel
theorem dX9_tryCommand_71 : decode cX9_tryCommand 71 = .ok (.iconst 0, 1) := by decide +kernel
theorem dX9_tryCommand_72 : decode cX9_tryCommand 72 = .ok (.iaload, 1) := by decide +kernel
theorem dX9_tryCommand_73 : decode cX9_tryCommand 73 = .ok (.aload_n 2, 1) := by decide +kernel
theorem dX9_tryCommand_74 : decode cX9_tryCommand 74 = .ok (.iconst 1, 1) := by decide +kernel
theorem dX9_tryCommand_75 : decode cX9_tryCommand 75 = .ok (.iaload, 1) := by decide +kernel
theorem dX9_tryCommand_76 : decode cX9_tryCommand 76 = .ok (.aload_n 2, 1) := by decide +kernel
theorem dX9_tryCommand_77 : decode cX9_tryCommand 77 = .ok (.iconst 2, 1) := by decide +kernel
theorem dX9_tryCommand_78 : decode cX9_tryCommand 78 = .ok (.iaload, 1) := by decide +kernel
theorem dX9_tryCommand_79 : decode cX9_tryCommand 79 = .ok (.aload_n 2, 1) := by decide +kernel
theorem dX9_tryCommand_80 : decode cX9_tryCommand 80 = .ok (.iconst 3, 1) := by decide +kernel
theorem dX9_tryCommand_81 : decode cX9_tryCommand 81 = .ok (.iaload, 1) := by decide +kernel
theorem dX9_tryCommand_82 : decode cX9_tryCommand 82 = .ok (.invokevirtual 187, 3) := by decide +kernel
theorem dX9_tryCommand_85 : decode cX9_tryCommand 85 = .ok (.ireturn, 1) := by decide +kernel
theorem dX9_tryCommand_86 : decode cX9_tryCommand 86 = .ok (.aload_n 0, 1) := by decide +kernel
theorem dX9_tryCommand_87 : decode cX9_tryCommand 87 = .ok (.aload_n 2, 1) := by decide +kernel
theorem dX9_tryCommand_88 : decode cX9_tryCommand 88 = .ok (.iconst 0, 1) := by decide +kernel
theorem dX9_tryCommand_89 : decode cX9_tryCommand 89 = .ok (.iaload, 1) := by decide +kernel
theorem dX9_tryCommand_90 : decode cX9_tryCommand 90 = .ok (.aload_n 2, 1) := by decide +kernel
theorem dX9_tryCommand_91 : decode cX9_tryCommand 91 = .ok (.iconst 1, 1) := by decide +kernel
theorem dX9_tryCommand_92 : decode cX9_tryCommand 92 = .ok (.iaload, 1) := by decide +kernel
theorem dX9_tryCommand_93 : decode cX9_tryCommand 93 = .ok (.invokevirtual 191, 3) := by decide +kernel
theorem dX9_tryCommand_96 : decode cX9_tryCommand 96 = .ok (.ireturn, 1) := by decide +kernel
theorem dX9_tryCommand_97 : decode cX9_tryCommand 97 = .ok (.aload_n 0, 1) := by decide +kernel
theorem dX9_tryCommand_98 : decode cX9_tryCommand 98 = .ok (.aload_n 2, 1) := by decide +kernel
theorem dX9_tryCommand_99 : decode cX9_tryCommand 99 = .ok (.iconst 0, 1) := by decide +kernel
theorem dX9_tryCommand_100 : decode cX9_tryCommand 100 = .ok (.iaload, 1) := by decide +kernel
theorem dX9_tryCommand_101 : decode cX9_tryCommand 101 = .ok (.invokevirtual 194, 3) := by decide +kernel
theorem dX9_tryCommand_104 : decode cX9_tryCommand 104 = .ok (.ireturn, 1) := by decide +kernel
theorem dX9_tryCommand_105 : decode cX9_tryCommand 105 = .ok (.aload_n 0, 1) := by decide +kernel
theorem dX9_tryCommand_106 : decode cX9_tryCommand 106 = .ok (.aload_n 2, 1) := by decide +kernel
theorem dX9_tryCommand_107 : decode cX9_tryCommand 107 = .ok (.iconst 0, 1) := by decide +kernel
theorem dX9_tryCommand_108 : decode cX9_tryCommand 108 = .ok (.iaload, 1) := by decide +kernel
theorem dX9_tryCommand_109 : decode cX9_tryCommand 109 = .ok (.invokevirtual 197, 3) := by decide +kernel
theorem dX9_tryCommand_112 : decode cX9_tryCommand 112 = .ok (.ireturn, 1) := by decide +kernel
theorem dX9_tryCommand_113 : decode cX9_tryCommand 113 = .ok (.aload_n 0, 1) := by decide +kernel
theorem dX9_tryCommand_114 : decode cX9_tryCommand 114 = .ok (.aload_n 0, 1) := by decide +kernel
theorem dX9_tryCommand_115 : decode cX9_tryCommand 115 = .ok (.invokevirtual 200, 3) := by decide +kernel
theorem dX9_tryCommand_118 : decode cX9_tryCommand 118 = .ok (.invokevirtual 203, 3) := by decide +kernel
theorem dX9_tryCommand_121 : decode cX9_tryCommand 121 = .ok (.ireturn, 1) := by decide +kernel
theorem dX9_tryCommand_122 : decode cX9_tryCommand 122 = .ok (.aload_n 0, 1) := by decide +kernel
theorem dX9_tryCommand_123 : decode cX9_tryCommand 123 = .ok (.invokevirtual 206, 3) := by decide +kernel
theorem dX9_tryCommand_126 : decode cX9_tryCommand 126 = .ok (.ireturn, 1) := by decide +kernel
theorem dX9_tryCommand_127 : decode cX9_tryCommand 127 = .ok (.aload_n 0, 1) := by decide +kernel
theorem dX9_tryCommand_128 : decode cX9_tryCommand 128 = .ok (.aload_n 2, 1) := by decide +kernel
theorem dX9_tryCommand_129 : decode cX9_tryCommand 129 = .ok (.iconst 0, 1) := by decide +kernel
theorem dX9_tryCommand_130 : decode cX9_tryCommand 130 = .ok (.iaload, 1) := by decide +kernel
theorem dX9_tryCommand_131 : decode cX9_tryCommand 131 = .ok (.aload_n 2, 1) := by decide +kernel
theorem dX9_tryCommand_132 : decode cX9_tryCommand 132 = .ok (.iconst 1, 1) := by decide +kernel
theorem dX9_tryCommand_133 : decode cX9_tryCommand 133 = .ok (.iaload, 1) := by decide +kernel
theorem dX9_tryCommand_134 : decode cX9_tryCommand 134 = .ok (.iconst 1, 1) := by decide +kernel
theorem dX9_tryCommand_135 : decode cX9_tryCommand 135 = .ok (.if_icmp .ne 7, 3) := by decide +kernel
theorem dX9_tryCommand_138 : decode cX9_tryCommand 138 = .ok (.iconst 1, 1) := by decide +kernel
theorem dX9_tryCommand_139 : decode cX9_tryCommand 139 = .ok (.goto 4, 3) := by decide +kernel
theorem dX9_tryCommand_142 : decode cX9_tryCommand 142 = .ok (.iconst 0, 1) := by decide +kernel
theorem dX9_tryCommand_143 : decode cX9_tryCommand 143 = .ok (.aload_n 2, 1) := by decide +kernel
theorem dX9_tryCommand_144 : decode cX9_tryCommand 144 = .ok (.iconst 2, 1) := by decide +kernel
theorem dX9_tryCommand_145 : decode cX9_tryCommand 145 = .ok (.iaload, 1) := by decide +kernel
theorem dX9_tryCommand_146 : decode cX9_tryCommand 146 = .ok (.invokevirtual 209, 3) := by decide +kernel
theorem dX9_tryCommand_149 : decode cX9_tryCommand 149 = .ok (.ireturn, 1) := by decide +kernel
theorem dX9_tryCommand_150 : decode cX9_tryCommand 150 = .ok (.aload_n 0, 1) := by decide +kernel
theorem dX9_tryCommand_151 : decode cX9_tryCommand 151 = .ok (.aload_n 2, 1) := by decide +kernel
theorem dX9_tryCommand_152 : decode cX9_tryCommand 152 = .ok (.iconst 0, 1) := by decide +kernel
theorem dX9_tryCommand_153 : decode cX9_tryCommand 153 = .ok (.iaload, 1) := by decide +kernel
theorem dX9_tryCommand_154 : decode cX9_tryCommand 154 = .ok (.invokevirtual 212, 3) := by decide +kernel
theorem dX9_tryCommand_157 : decode cX9_tryCommand 157 = .ok (.ireturn, 1) := by decide +kernel
theorem dX9_tryCommand_158 : decode cX9_tryCommand 158 = .ok (.aload_n 0, 1) := by decide +kernel
theorem dX9_tryCommand_159 : decode cX9_tryCommand 159 = .ok (.aload_n 2, 1) := by decide +kernel
theorem dX9_tryCommand_160 : decode cX9_tryCommand 160 = .ok (.iconst 0, 1) := by decide +kernel
theorem dX9_tryCommand_161 : decode cX9_tryCommand 161 = .ok (.iaload, 1) := by decide +kernel
theorem dX9_tryCommand_162 : decode cX9_tryCommand 162 = .ok (.aload_n 2, 1) := by decide +kernel
theorem dX9_tryCommand_163 : decode cX9_tryCommand 163 = .ok (.iconst 1, 1) := by decide +kernel
theorem dX9_tryCommand_164 : decode cX9_tryCommand 164 = .ok (.iaload, 1) := by decide +kernel
theorem dX9_tryCommand_165 : decode cX9_tryCommand 165 = .ok (.invokevirtual 215, 3) := by decide +kernel
theorem dX9_tryCommand_168 : decode cX9_tryCommand 168 = .ok (.ireturn, 1) := by decide +kernel
theorem dX9_tryCommand_169 : decode cX9_tryCommand 169 = .ok (.aload_n 0, 1) := by decide +kernel
theorem dX9_tryCommand_170 : decode cX9_tryCommand 170 = .ok (.aload_n 2, 1) := by decide +kernel
theorem dX9_tryCommand_171 : decode cX9_tryCommand 171 = .ok (.iconst 0, 1) := by decide +kernel
theorem dX9_tryCommand_172 : decode cX9_tryCommand 172 = .ok (.iaload, 1) := by decide +kernel
theorem dX9_tryCommand_173 : decode cX9_tryCommand 173 = .ok (.invokevirtual 218, 3) := by decide +kernel
theorem dX9_tryCommand_176 : decode cX9_tryCommand 176 = .ok (.ireturn, 1) := by decide +kernel
theorem dX9_verdictOnOutcome_0 : decode cX9_verdictOnOutcome 0 = .ok (.iload_n 1, 1) := by decide +kernel
theorem dX9_verdictOnOutcome_1 : decode cX9_verdictOnOutcome 1 = .ok (.ifCond .ne 15, 3) := by decide +kernel
theorem dX9_verdictOnOutcome_4 : decode cX9_verdictOnOutcome 4 = .ok (.aload_n 0, 1) := by decide +kernel
theorem dX9_verdictOnOutcome_5 : decode cX9_verdictOnOutcome 5 = .ok (.getfield 79, 3) := by decide +kernel
theorem dX9_verdictOnOutcome_8 : decode cX9_verdictOnOutcome 8 = .ok (.ifCond .ne 8, 3) := by decide +kernel
theorem dX9_verdictOnOutcome_11 : decode cX9_verdictOnOutcome 11 = .ok (.bipush (-3), 2) := by decide +kernel
theorem dX9_verdictOnOutcome_13 : decode cX9_verdictOnOutcome 13 = .ok (.goto 4, 3) := by decide +kernel
theorem dX9_verdictOnOutcome_16 : decode cX9_verdictOnOutcome 16 = .ok (.iload_n 1, 1) := by decide +kernel
theorem dX9_verdictOnOutcome_17 : decode cX9_verdictOnOutcome 17 = .ok (.ireturn, 1) := by decide +kernel
theorem dX11_init_0 : decode cX11_init 0 = .ok (.aload_n 0, 1) := by decide +kernel
theorem dX11_init_1 : decode cX11_init 1 = .ok (.invokespecial 1, 3) := by decide +kernel
theorem dX11_init_4 : decode cX11_init 4 = .ok (.aload_n 0, 1) := by decide +kernel
theorem dX11_init_5 : decode cX11_init 5 = .ok (.new 7, 3) := by decide +kernel
theorem dX11_init_8 : decode cX11_init 8 = .ok (.dup, 1) := by decide +kernel
theorem dX11_init_9 : decode cX11_init 9 = .ok (.invokespecial 9, 3) := by decide +kernel
theorem dX11_init_12 : decode cX11_init 12 = .ok (.putfield 10, 3) := by decide +kernel
theorem dX11_init_15 : decode cX11_init 15 = .ok (.aload_n 0, 1) := by decide +kernel
theorem dX11_init_16 : decode cX11_init 16 = .ok (.new 16, 3) := by decide +kernel
theorem dX11_init_19 : decode cX11_init 19 = .ok (.dup, 1) := by decide +kernel
theorem dX11_init_20 : decode cX11_init 20 = .ok (.invokespecial 18, 3) := by decide +kernel
theorem dX11_init_23 : decode cX11_init 23 = .ok (.putfield 19, 3) := by decide +kernel
theorem dX11_init_26 : decode cX11_init 26 = .ok (.aload_n 0, 1) := by decide +kernel
theorem dX11_init_27 : decode cX11_init 27 = .ok (.new 7, 3) := by decide +kernel
theorem dX11_init_30 : decode cX11_init 30 = .ok (.dup, 1) := by decide +kernel
theorem dX11_init_31 : decode cX11_init 31 = .ok (.invokespecial 9, 3) := by decide +kernel
theorem dX11_init_34 : decode cX11_init 34 = .ok (.putfield 23, 3) := by decide +kernel
theorem dX11_init_37 : decode cX11_init 37 = .ok (.aload_n 0, 1) := by decide +kernel
theorem dX11_init_38 : decode cX11_init 38 = .ok (.new 26, 3) := by decide +kernel
theorem dX11_init_41 : decode cX11_init 41 = .ok (.dup, 1) := by decide +kernel
theorem dX11_init_42 : decode cX11_init 42 = .ok (.invokespecial 28, 3) := by decide +kernel
theorem dX11_init_45 : decode cX11_init 45 = .ok (.putfield 29, 3) := by decide +kernel
theorem dX11_init_48 : decode cX11_init 48 = .ok (.aload_n 0, 1) := by decide +kernel
theorem dX11_init_49 : decode cX11_init 49 = .ok (.new 33, 3) := by decide +kernel
theorem dX11_init_52 : decode cX11_init 52 = .ok (.dup, 1) := by decide +kernel
theorem dX11_init_53 : decode cX11_init 53 = .ok (.invokespecial 35, 3) := by decide +kernel
theorem dX11_init_56 : decode cX11_init 56 = .ok (.putfield 36, 3) := by decide +kernel
theorem dX11_init_59 : decode cX11_init 59 = .ok (.aload_n 0, 1) := by decide +kernel
theorem dX11_init_60 : decode cX11_init 60 = .ok (.new 40, 3) := by decide +kernel
theorem dX11_init_63 : decode cX11_init 63 = .ok (.dup, 1) := by decide +kernel
theorem dX11_init_64 : decode cX11_init 64 = .ok (.invokespecial 42, 3) := by decide +kernel
theorem dX11_init_67 : decode cX11_init 67 = .ok (.putfield 43, 3) := by decide +kernel
theorem dX11_init_70 : decode cX11_init 70 = .ok (.aload_n 0, 1) := by decide +kernel
theorem dX11_init_71 : decode cX11_init 71 = .ok (.new 47, 3) := by decide +kernel
theorem dX11_init_74 : decode cX11_init 74 = .ok (.dup, 1) := by decide +kernel
theorem dX11_init_75 : decode cX11_init 75 = .ok (.invokespecial 49, 3) := by decide +kernel
theorem dX11_init_78 : decode cX11_init 78 = .ok (.putfield 50, 3) := by decide +kernel
theorem dX11_init_81 : decode cX11_init 81 = .ok (.aload_n 0, 1) := by decide +kernel
theorem dX11_init_82 : decode cX11_init 82 = .ok (.iconst (-1), 1) := by decide +kernel
theorem dX11_init_83 : decode cX11_init 83 = .ok (.putfield 54, 3) := by decide +kernel
theorem dX11_init_86 : decode cX11_init 86 = .ok (.aload_n 0, 1) := by decide +kernel
theorem dX11_init_87 : decode cX11_init 87 = .ok (.iconst (-1), 1) := by decide +kernel
theorem dX11_init_88 : decode cX11_init 88 = .ok (.putfield 58, 3) := by decide +kernel
theorem dX11_init_91 : decode cX11_init 91 = .ok (.aload_n 0, 1) := by decide +kernel
theorem dX11_init_92 : decode cX11_init 92 = .ok (.iconst (-1), 1) := by decide +kernel
theorem dX11_init_93 : decode cX11_init 93 = .ok (.putfield 61, 3) := by decide +kernel
theorem dX11_init_96 : decode cX11_init 96 = .ok (.return_, 1) := by decide +kernel
theorem dX11_addHolder_0 : decode cX11_addHolder 0 = .ok (.aload_n 0, 1) := by decide +kernel
theorem dX11_addHolder_1 : decode cX11_addHolder 1 = .ok (.getfield 19, 3) := by decide +kernel
theorem dX11_addHolder_4 : decode cX11_addHolder 4 = .ok (.aload_n 0, 1) := by decide +kernel
theorem dX11_addHolder_5 : decode cX11_addHolder 5 = .ok (.getfield 10, 3) := by decide +kernel
theorem dX11_addHolder_8 : decode cX11_addHolder 8 = .ok (.invokevirtual 64, 3) := by decide +kernel
theorem dX11_addHolder_11 : decode cX11_addHolder 11 = .ok (.aload_n 0, 1) := by decide +kernel
theorem dX11_addHolder_12 : decode cX11_addHolder 12 = .ok (.aload_n 0, 1) := by decide +kernel
theorem dX11_addHolder_13 : decode cX11_addHolder 13 = .ok (.getfield 10, 3) := by decide +kernel
theorem dX11_addHolder_16 : decode cX11_addHolder 16 = .ok (.invokevirtual 68, 3) := by decide +kernel
theorem dX11_addHolder_19 : decode cX11_addHolder 19 = .ok (.bipush 8, 2) := by decide +kernel
theorem dX11_addHolder_21 : decode cX11_addHolder 21 = .ok (.invokevirtual 72, 3) := by decide +kernel
theorem dX11_addHolder_24 : decode cX11_addHolder 24 = .ok (.ireturn, 1) := by decide +kernel
theorem dX11_seal_0 : decode cX11_seal 0 = .ok (.aload_n 0, 1) := by decide +kernel
theorem dX11_seal_1 : decode cX11_seal 1 = .ok (.getfield 19, 3) := by decide +kernel
theorem dX11_seal_4 : decode cX11_seal 4 = .ok (.aload_n 0, 1) := by decide +kernel
theorem dX11_seal_5 : decode cX11_seal 5 = .ok (.getfield 10, 3) := by decide +kernel
theorem dX11_seal_8 : decode cX11_seal 8 = .ok (.invokevirtual 64, 3) := by decide +kernel
theorem dX11_seal_11 : decode cX11_seal 11 = .ok (.aload_n 0, 1) := by decide +kernel
theorem dX11_seal_12 : decode cX11_seal 12 = .ok (.aload_n 0, 1) := by decide +kernel
theorem dX11_seal_13 : decode cX11_seal 13 = .ok (.getfield 10, 3) := by decide +kernel
theorem dX11_seal_16 : decode cX11_seal 16 = .ok (.iload_n 1, 1) := by decide +kernel
theorem dX11_seal_17 : decode cX11_seal 17 = .ok (.iload_n 2, 1) := by decide +kernel
theorem dX11_seal_18 : decode cX11_seal 18 = .ok (.iload_n 3, 1) := by decide +kernel
theorem dX11_seal_19 : decode cX11_seal 19 = .ok (.iload 4, 2) := by decide +kernel
theorem dX11_seal_21 : decode cX11_seal 21 = .ok (.invokevirtual 76, 3) := by decide +kernel
theorem dX11_seal_24 : decode cX11_seal 24 = .ok (.iconst 0, 1) := by decide +kernel
theorem dX11_seal_25 : decode cX11_seal 25 = .ok (.invokevirtual 72, 3) := by decide +kernel
theorem dX11_seal_28 : decode cX11_seal 28 = .ok (.ireturn, 1) := by decide +kernel
theorem dX11_setShare_0 : decode cX11_setShare 0 = .ok (.aload_n 0, 1) := by decide +kernel
theorem dX11_setShare_1 : decode cX11_setShare 1 = .ok (.getfield 19, 3) := by decide +kernel
theorem dX11_setShare_4 : decode cX11_setShare 4 = .ok (.aload_n 0, 1) := by decide +kernel
theorem dX11_setShare_5 : decode cX11_setShare 5 = .ok (.getfield 10, 3) := by decide +kernel
theorem dX11_setShare_8 : decode cX11_setShare 8 = .ok (.invokevirtual 64, 3) := by decide +kernel
theorem dX11_setShare_11 : decode cX11_setShare 11 = .ok (.aload_n 0, 1) := by decide +kernel
theorem dX11_setShare_12 : decode cX11_setShare 12 = .ok (.aload_n 0, 1) := by decide +kernel
theorem dX11_setShare_13 : decode cX11_setShare 13 = .ok (.getfield 10, 3) := by decide +kernel
theorem dX11_setShare_16 : decode cX11_setShare 16 = .ok (.iload_n 1, 1) := by decide +kernel
theorem dX11_setShare_17 : decode cX11_setShare 17 = .ok (.iload_n 2, 1) := by decide +kernel
theorem dX11_setShare_18 : decode cX11_setShare 18 = .ok (.invokevirtual 80, 3) := by decide +kernel
theorem dX11_setShare_21 : decode cX11_setShare 21 = .ok (.iload_n 1, 1) := by decide +kernel
theorem dX11_setShare_22 : decode cX11_setShare 22 = .ok (.invokevirtual 72, 3) := by decide +kernel
theorem dX11_setShare_25 : decode cX11_setShare 25 = .ok (.ireturn, 1) := by decide +kernel
theorem dX11_present_0 : decode cX11_present 0 = .ok (.aload_n 0, 1) := by decide +kernel
theorem dX11_present_1 : decode cX11_present 1 = .ok (.getfield 19, 3) := by decide +kernel
theorem dX11_present_4 : decode cX11_present 4 = .ok (.aload_n 0, 1) := by decide +kernel
theorem dX11_present_5 : decode cX11_present 5 = .ok (.getfield 10, 3) := by decide +kernel
theorem dX11_present_8 : decode cX11_present 8 = .ok (.invokevirtual 64, 3) := by decide +kernel
theorem dX11_present_11 : decode cX11_present 11 = .ok (.aload_n 0, 1) := by decide +kernel
theorem dX11_present_12 : decode cX11_present 12 = .ok (.aload_n 0, 1) := by decide +kernel
theorem dX11_present_13 : decode cX11_present 13 = .ok (.getfield 10, 3) := by decide +kernel
theorem dX11_present_16 : decode cX11_present 16 = .ok (.iload_n 1, 1) := by decide +kernel
theorem dX11_present_17 : decode cX11_present 17 = .ok (.invokevirtual 83, 3) := by decide +kernel
theorem dX11_present_20 : decode cX11_present 20 = .ok (.iload_n 1, 1) := by decide +kernel
theorem dX11_present_21 : decode cX11_present 21 = .ok (.invokevirtual 72, 3) := by decide +kernel
theorem dX11_present_24 : decode cX11_present 24 = .ok (.ireturn, 1) := by decide +kernel
theorem dX11_takeBack_0 : decode cX11_takeBack 0 = .ok (.aload_n 0, 1) := by decide +kernel
theorem dX11_takeBack_1 : decode cX11_takeBack 1 = .ok (.getfield 19, 3) := by decide +kernel
theorem dX11_takeBack_4 : decode cX11_takeBack 4 = .ok (.aload_n 0, 1) := by decide +kernel
theorem dX11_takeBack_5 : decode cX11_takeBack 5 = .ok (.getfield 10, 3) := by decide +kernel
theorem dX11_takeBack_8 : decode cX11_takeBack 8 = .ok (.invokevirtual 64, 3) := by decide +kernel
theorem dX11_takeBack_11 : decode cX11_takeBack 11 = .ok (.aload_n 0, 1) := by decide +kernel
theorem dX11_takeBack_12 : decode cX11_takeBack 12 = .ok (.aload_n 0, 1) := by decide +kernel
theorem dX11_takeBack_13 : decode cX11_takeBack 13 = .ok (.getfield 10, 3) := by decide +kernel
theorem dX11_takeBack_16 : decode cX11_takeBack 16 = .ok (.iload_n 1, 1) := by decide +kernel
theorem dX11_takeBack_17 : decode cX11_takeBack 17 = .ok (.invokevirtual 87, 3) := by decide +kernel
theorem dX11_takeBack_20 : decode cX11_takeBack 20 = .ok (.iload_n 1, 1) := by decide +kernel
theorem dX11_takeBack_21 : decode cX11_takeBack 21 = .ok (.invokevirtual 72, 3) := by decide +kernel
theorem dX11_takeBack_24 : decode cX11_takeBack 24 = .ok (.ireturn, 1) := by decide +kernel
theorem dX11_openVault_0 : decode cX11_openVault 0 = .ok (.aload_n 0, 1) := by decide +kernel
theorem dX11_openVault_1 : decode cX11_openVault 1 = .ok (.getfield 19, 3) := by decide +kernel
theorem dX11_openVault_4 : decode cX11_openVault 4 = .ok (.aload_n 0, 1) := by decide +kernel
theorem dX11_openVault_5 : decode cX11_openVault 5 = .ok (.getfield 10, 3) := by decide +kernel
theorem dX11_openVault_8 : decode cX11_openVault 8 = .ok (.invokevirtual 64, 3) := by decide +kernel
theorem dX11_openVault_11 : decode cX11_openVault 11 = .ok (.aload_n 0, 1) := by decide +kernel
theorem dX11_openVault_12 : decode cX11_openVault 12 = .ok (.aload_n 0, 1) := by decide +kernel
theorem dX11_openVault_13 : decode cX11_openVault 13 = .ok (.getfield 10, 3) := by decide +kernel
theorem dX11_openVault_16 : decode cX11_openVault 16 = .ok (.invokevirtual 90, 3) := by decide +kernel
theorem dX11_openVault_19 : decode cX11_openVault 19 = .ok (.iconst 0, 1) := by decide +kernel
theorem dX11_openVault_20 : decode cX11_openVault 20 = .ok (.invokevirtual 72, 3) := by decide +kernel
theorem dX11_openVault_23 : decode cX11_openVault 23 = .ok (.iconst 1, 1) := by decide +kernel
theorem dX11_openVault_24 : decode cX11_openVault 24 = .ok (.if_icmp .ne 7, 3) := by decide +kernel
theorem dX11_openVault_27 : decode cX11_openVault 27 = .ok (.iconst 1, 1) := by decide +kernel
theorem dX11_openVault_28 : decode cX11_openVault 28 = .ok (.goto 4, 3) := by decide +kernel
theorem dX11_openVault_31 : decode cX11_openVault 31 = .ok (.iconst 0, 1) := by decide +kernel
theorem dX11_openVault_32 : decode cX11_openVault 32 = .ok (.ireturn, 1) := by decide +kernel
theorem dX11_closeVault_0 : decode cX11_closeVault 0 = .ok (.aload_n 0, 1) := by decide +kernel
theorem dX11_closeVault_1 : decode cX11_closeVault 1 = .ok (.getfield 19, 3) := by decide +kernel
theorem dX11_closeVault_4 : decode cX11_closeVault 4 = .ok (.aload_n 0, 1) := by decide +kernel
theorem dX11_closeVault_5 : decode cX11_closeVault 5 = .ok (.getfield 10, 3) := by decide +kernel
theorem dX11_closeVault_8 : decode cX11_closeVault 8 = .ok (.invokevirtual 64, 3) := by decide +kernel
theorem dX11_closeVault_11 : decode cX11_closeVault 11 = .ok (.aload_n 0, 1) := by decide +kernel
theorem dX11_closeVault_12 : decode cX11_closeVault 12 = .ok (.aload_n 0, 1) := by decide +kernel
theorem dX11_closeVault_13 : decode cX11_closeVault 13 = .ok (.getfield 10, 3) := by decide +kernel
theorem dX11_closeVault_16 : decode cX11_closeVault 16 = .ok (.invokevirtual 93, 3) := by decide +kernel
theorem dX11_closeVault_19 : decode cX11_closeVault 19 = .ok (.iconst 0, 1) := by decide +kernel
theorem dX11_closeVault_20 : decode cX11_closeVault 20 = .ok (.invokevirtual 72, 3) := by decide +kernel
theorem dX11_closeVault_23 : decode cX11_closeVault 23 = .ok (.ireturn, 1) := by decide +kernel
theorem dX11_addGuard_0 : decode cX11_addGuard 0 = .ok (.aload_n 0, 1) := by decide +kernel
theorem dX11_addGuard_1 : decode cX11_addGuard 1 = .ok (.getfield 19, 3) := by decide +kernel
theorem dX11_addGuard_4 : decode cX11_addGuard 4 = .ok (.aload_n 0, 1) := by decide +kernel
theorem dX11_addGuard_5 : decode cX11_addGuard 5 = .ok (.getfield 10, 3) := by decide +kernel
theorem dX11_addGuard_8 : decode cX11_addGuard 8 = .ok (.invokevirtual 64, 3) := by decide +kernel
theorem dX11_addGuard_11 : decode cX11_addGuard 11 = .ok (.aload_n 0, 1) := by decide +kernel
theorem dX11_addGuard_12 : decode cX11_addGuard 12 = .ok (.aload_n 0, 1) := by decide +kernel
theorem dX11_addGuard_13 : decode cX11_addGuard 13 = .ok (.getfield 10, 3) := by decide +kernel
theorem dX11_addGuard_16 : decode cX11_addGuard 16 = .ok (.iload_n 1, 1) := by decide +kernel
theorem dX11_addGuard_17 : decode cX11_addGuard 17 = .ok (.iload_n 2, 1) := by decide +kernel
theorem dX11_addGuard_18 : decode cX11_addGuard 18 = .ok (.iload_n 3, 1) := by decide +kernel
theorem dX11_addGuard_19 : decode cX11_addGuard 19 = .ok (.invokevirtual 96, 3) := by decide +kernel
theorem dX11_addGuard_22 : decode cX11_addGuard 22 = .ok (.iconst 3, 1) := by decide +kernel
theorem dX11_addGuard_23 : decode cX11_addGuard 23 = .ok (.invokevirtual 72, 3) := by decide +kernel
theorem dX11_addGuard_26 : decode cX11_addGuard 26 = .ok (.ireturn, 1) := by decide +kernel
theorem dX11_turnGuard_0 : decode cX11_turnGuard 0 = .ok (.aload_n 0, 1) := by decide +kernel
theorem dX11_turnGuard_1 : decode cX11_turnGuard 1 = .ok (.getfield 19, 3) := by decide +kernel
theorem dX11_turnGuard_4 : decode cX11_turnGuard 4 = .ok (.aload_n 0, 1) := by decide +kernel
theorem dX11_turnGuard_5 : decode cX11_turnGuard 5 = .ok (.getfield 10, 3) := by decide +kernel
theorem dX11_turnGuard_8 : decode cX11_turnGuard 8 = .ok (.invokevirtual 64, 3) := by decide +kernel
theorem dX11_turnGuard_11 : decode cX11_turnGuard 11 = .ok (.aload_n 0, 1) := by decide +kernel
theorem dX11_turnGuard_12 : decode cX11_turnGuard 12 = .ok (.aload_n 0, 1) := by decide +kernel
theorem dX11_turnGuard_13 : decode cX11_turnGuard 13 = .ok (.getfield 10, 3) := by decide +kernel
theorem dX11_turnGuard_16 : decode cX11_turnGuard 16 = .ok (.iload_n 1, 1) := by decide +kernel
theorem dX11_turnGuard_17 : decode cX11_turnGuard 17 = .ok (.invokevirtual 100, 3) := by decide +kernel
theorem dX11_turnGuard_20 : decode cX11_turnGuard 20 = .ok (.iconst 0, 1) := by decide +kernel
theorem dX11_turnGuard_21 : decode cX11_turnGuard 21 = .ok (.invokevirtual 72, 3) := by decide +kernel
theorem dX11_turnGuard_24 : decode cX11_turnGuard 24 = .ok (.iconst 1, 1) := by decide +kernel
theorem dX11_turnGuard_25 : decode cX11_turnGuard 25 = .ok (.if_icmp .ne 7, 3) := by decide +kernel
theorem dX11_turnGuard_28 : decode cX11_turnGuard 28 = .ok (.iconst 1, 1) := by decide +kernel
theorem dX11_turnGuard_29 : decode cX11_turnGuard 29 = .ok (.goto 4, 3) := by decide +kernel
theorem dX11_turnGuard_32 : decode cX11_turnGuard 32 = .ok (.iconst 0, 1) := by decide +kernel
theorem dX11_turnGuard_33 : decode cX11_turnGuard 33 = .ok (.ireturn, 1) := by decide +kernel
theorem dX11_hum_0 : decode cX11_hum 0 = .ok (.aload_n 0, 1) := by decide +kernel
theorem dX11_hum_1 : decode cX11_hum 1 = .ok (.getfield 19, 3) := by decide +kernel
theorem dX11_hum_4 : decode cX11_hum 4 = .ok (.aload_n 0, 1) := by decide +kernel
theorem dX11_hum_5 : decode cX11_hum 5 = .ok (.getfield 10, 3) := by decide +kernel
theorem dX11_hum_8 : decode cX11_hum 8 = .ok (.invokevirtual 64, 3) := by decide +kernel
theorem dX11_hum_11 : decode cX11_hum 11 = .ok (.aload_n 0, 1) := by decide +kernel
theorem dX11_hum_12 : decode cX11_hum 12 = .ok (.aload_n 0, 1) := by decide +kernel
theorem dX11_hum_13 : decode cX11_hum 13 = .ok (.getfield 10, 3) := by decide +kernel
theorem dX11_hum_16 : decode cX11_hum 16 = .ok (.iload_n 1, 1) := by decide +kernel
theorem dX11_hum_17 : decode cX11_hum 17 = .ok (.iload_n 2, 1) := by decide +kernel
theorem dX11_hum_18 : decode cX11_hum 18 = .ok (.invokevirtual 103, 3) := by decide +kernel
theorem dX11_hum_21 : decode cX11_hum 21 = .ok (.iconst 0, 1) := by decide +kernel
theorem dX11_hum_22 : decode cX11_hum 22 = .ok (.invokevirtual 72, 3) := by decide +kernel
theorem dX11_hum_25 : decode cX11_hum 25 = .ok (.ireturn, 1) := by decide +kernel
theorem dX11_passHours_0 : decode cX11_passHours 0 = .ok (.aload_n 0, 1) := by decide +kernel
theorem dX11_passHours_1 : decode cX11_passHours 1 = .ok (.getfield 19, 3) := by decide +kernel
theorem dX11_passHours_4 : decode cX11_passHours 4 = .ok (.aload_n 0, 1) := by decide +kernel
theorem dX11_passHours_5 : decode cX11_passHours 5 = .ok (.getfield 10, 3) := by decide +kernel
theorem dX11_passHours_8 : decode cX11_passHours 8 = .ok (.invokevirtual 64, 3) := by decide +kernel
theorem dX11_passHours_11 : decode cX11_passHours 11 = .ok (.aload_n 0, 1) := by decide +kernel
theorem dX11_passHours_12 : decode cX11_passHours 12 = .ok (.aload_n 0, 1) := by decide +kernel
theorem dX11_passHours_13 : decode cX11_passHours 13 = .ok (.getfield 10, 3) := by decide +kernel
theorem dX11_passHours_16 : decode cX11_passHours 16 = .ok (.iload_n 1, 1) := by decide +kernel
theorem dX11_passHours_17 : decode cX11_passHours 17 = .ok (.invokevirtual 106, 3) := by decide +kernel
theorem dX11_passHours_20 : decode cX11_passHours 20 = .ok (.iconst 0, 1) := by decide +kernel
theorem dX11_passHours_21 : decode cX11_passHours 21 = .ok (.invokevirtual 72, 3) := by decide +kernel
theorem dX11_passHours_24 : decode cX11_passHours 24 = .ok (.ireturn, 1) := by decide +kernel
theorem dX11_hour_0 : decode cX11_hour 0 = .ok (.aload_n 0, 1) := by decide +kernel
theorem dX11_hour_1 : decode cX11_hour 1 = .ok (.getfield 10, 3) := by decide +kernel
theorem dX11_hour_4 : decode cX11_hour 4 = .ok (.getfield 109, 3) := by decide +kernel
theorem dX11_hour_7 : decode cX11_hour 7 = .ok (.getfield 112, 3) := by decide +kernel
theorem dX11_hour_10 : decode cX11_hour 10 = .ok (.ireturn, 1) := by decide +kernel
theorem dX11_holderCount_0 : decode cX11_holderCount 0 = .ok (.aload_n 0, 1) := by decide +kernel
theorem dX11_holderCount_1 : decode cX11_holderCount 1 = .ok (.getfield 10, 3) := by decide +kernel
theorem dX11_holderCount_4 : decode cX11_holderCount 4 = .ok (.getfield 115, 3) := by decide +kernel
theorem dX11_holderCount_7 : decode cX11_holderCount 7 = .ok (.getfield 119, 3) := by decide +kernel
theorem dX11_holderCount_10 : decode cX11_holderCount 10 = .ok (.ireturn, 1) := by decide +kernel
theorem dX11_isSealed_0 : decode cX11_isSealed 0 = .ok (.aload_n 0, 1) := by decide +kernel
theorem dX11_isSealed_1 : decode cX11_isSealed 1 = .ok (.getfield 10, 3) := by decide +kernel
theorem dX11_isSealed_4 : decode cX11_isSealed 4 = .ok (.getfield 115, 3) := by decide +kernel
theorem dX11_isSealed_7 : decode cX11_isSealed 7 = .ok (.getfield 124, 3) := by decide +kernel
theorem dX11_isSealed_10 : decode cX11_isSealed 10 = .ok (.ireturn, 1) := by decide +kernel
theorem dX11_threshold_0 : decode cX11_threshold 0 = .ok (.aload_n 0, 1) := by decide +kernel
theorem dX11_threshold_1 : decode cX11_threshold 1 = .ok (.invokevirtual 128, 3) := by decide +kernel
theorem dX11_threshold_4 : decode cX11_threshold 4 = .ok (.aload_n 0, 1) := by decide +kernel
theorem dX11_threshold_5 : decode cX11_threshold 5 = .ok (.getfield 10, 3) := by decide +kernel
theorem dX11_threshold_8 : decode cX11_threshold 8 = .ok (.getfield 115, 3) := by decide +kernel
theorem dX11_threshold_11 : decode cX11_threshold 11 = .ok (.getfield 131, 3) := by decide +kernel
theorem dX11_threshold_14 : decode cX11_threshold 14 = .ok (.ireturn, 1) := by decide +kernel
theorem dX11_share_0 : decode cX11_share 0 = .ok (.aload_n 0, 1) := by decide +kernel
theorem dX11_share_1 : decode cX11_share 1 = .ok (.iload_n 1, 1) := by decide +kernel
theorem dX11_share_2 : decode cX11_share 2 = .ok (.invokevirtual 134, 3) := by decide +kernel
theorem dX11_share_5 : decode cX11_share 5 = .ok (.aload_n 0, 1) := by decide +kernel
theorem dX11_share_6 : decode cX11_share 6 = .ok (.invokevirtual 128, 3) := by decide +kernel
theorem dX11_share_9 : decode cX11_share 9 = .ok (.aload_n 0, 1) := by decide +kernel
theorem dX11_share_10 : decode cX11_share 10 = .ok (.getfield 10, 3) := by decide +kernel
theorem dX11_share_13 : decode cX11_share 13 = .ok (.getfield 115, 3) := by decide +kernel
theorem dX11_share_16 : decode cX11_share 16 = .ok (.getfield 138, 3) := by decide +kernel
theorem dX11_share_19 : decode cX11_share 19 = .ok (.iload_n 1, 1) := by decide +kernel
theorem dX11_share_20 : decode cX11_share 20 = .ok (.iaload, 1) := by decide +kernel
theorem dX11_share_21 : decode cX11_share 21 = .ok (.ireturn, 1) := by decide +kernel
theorem dX11_isCorrect_0 : decode cX11_isCorrect 0 = .ok (.aload_n 0, 1) := by decide +kernel
theorem dX11_isCorrect_1 : decode cX11_isCorrect 1 = .ok (.iload_n 1, 1) := by decide +kernel
theorem dX11_isCorrect_2 : decode cX11_isCorrect 2 = .ok (.invokevirtual 134, 3) := by decide +kernel
theorem dX11_isCorrect_5 : decode cX11_isCorrect 5 = .ok (.aload_n 0, 1) := by decide +kernel
theorem dX11_isCorrect_6 : decode cX11_isCorrect 6 = .ok (.invokevirtual 128, 3) := by decide +kernel
theorem dX11_isCorrect_9 : decode cX11_isCorrect 9 = .ok (.aload_n 0, 1) := by decide +kernel
theorem dX11_isCorrect_10 : decode cX11_isCorrect 10 = .ok (.getfield 10, 3) := by decide +kernel
theorem dX11_isCorrect_13 : decode cX11_isCorrect 13 = .ok (.getfield 115, 3) := by decide +kernel
theorem dX11_isCorrect_16 : decode cX11_isCorrect 16 = .ok (.getfield 138, 3) := by decide +kernel
theorem dX11_isCorrect_19 : decode cX11_isCorrect 19 = .ok (.iload_n 1, 1) := by decide +kernel
theorem dX11_isCorrect_20 : decode cX11_isCorrect 20 = .ok (.iaload, 1) := by decide +kernel
theorem dX11_isCorrect_21 : decode cX11_isCorrect 21 = .ok (.aload_n 0, 1) := by decide +kernel
theorem dX11_isCorrect_22 : decode cX11_isCorrect 22 = .ok (.getfield 10, 3) := by decide +kernel
theorem dX11_isCorrect_25 : decode cX11_isCorrect 25 = .ok (.getfield 115, 3) := by decide +kernel
theorem dX11_isCorrect_28 : decode cX11_isCorrect 28 = .ok (.iload_n 1, 1) := by decide +kernel
theorem dX11_isCorrect_29 : decode cX11_isCorrect 29 = .ok (.invokevirtual 142, 3) := by decide +kernel
theorem dX11_isCorrect_32 : decode cX11_isCorrect 32 = .ok (.if_icmp .ne 7, 3) := by decide +kernel
theorem dX11_isCorrect_35 : decode cX11_isCorrect 35 = .ok (.iconst 1, 1) := by decide +kernel
theorem dX11_isCorrect_36 : decode cX11_isCorrect 36 = .ok (.goto 4, 3) := by decide +kernel
theorem dX11_isCorrect_39 : decode cX11_isCorrect 39 = .ok (.iconst 0, 1) := by decide +kernel
theorem dX11_isCorrect_40 : decode cX11_isCorrect 40 = .ok (.ireturn, 1) := by decide +kernel
theorem dX11_isPresented_0 : decode cX11_isPresented 0 = .ok (.aload_n 0, 1) := by decide +kernel
theorem dX11_isPresented_1 : decode cX11_isPresented 1 = .ok (.iload_n 1, 1) := by decide +kernel
theorem dX11_isPresented_2 : decode cX11_isPresented 2 = .ok (.invokevirtual 134, 3) := by decide +kernel
theorem dX11_isPresented_5 : decode cX11_isPresented 5 = .ok (.aload_n 0, 1) := by decide +kernel
theorem dX11_isPresented_6 : decode cX11_isPresented 6 = .ok (.getfield 10, 3) := by decide +kernel
theorem dX11_isPresented_9 : decode cX11_isPresented 9 = .ok (.getfield 115, 3) := by decide +kernel
theorem dX11_isPresented_12 : decode cX11_isPresented 12 = .ok (.iload_n 1, 1) := by decide +kernel
theorem dX11_isPresented_13 : decode cX11_isPresented 13 = .ok (.invokevirtual 145, 3) := by decide +kernel
theorem dX11_isPresented_16 : decode cX11_isPresented 16 = .ok (.iconst (-1), 1) := by decide +kernel
theorem dX11_isPresented_17 : decode cX11_isPresented 17 = .ok (.if_icmp .eq 7, 3) := by decide +kernel
theorem dX11_isPresented_20 : decode cX11_isPresented 20 = .ok (.iconst 1, 1) := by decide +kernel
theorem dX11_isPresented_21 : decode cX11_isPresented 21 = .ok (.goto 4, 3) := by decide +kernel
theorem dX11_isPresented_24 : decode cX11_isPresented 24 = .ok (.iconst 0, 1) := by decide +kernel
theorem dX11_isPresented_25 : decode cX11_isPresented 25 = .ok (.ireturn, 1) := by decide +kernel
theorem dX11_presentedCount_0 : decode cX11_presentedCount 0 = .ok (.aload_n 0, 1) := by decide +kernel
theorem dX11_presentedCount_1 : decode cX11_presentedCount 1 = .ok (.getfield 10, 3) := by decide +kernel
theorem dX11_presentedCount_4 : decode cX11_presentedCount 4 = .ok (.getfield 115, 3) := by decide +kernel
theorem dX11_presentedCount_7 : decode cX11_presentedCount 7 = .ok (.getfield 148, 3) := by decide +kernel
theorem dX11_presentedCount_10 : decode cX11_presentedCount 10 = .ok (.ireturn, 1) := by decide +kernel
theorem dX11_presentedAt_0 : decode cX11_presentedAt 0 = .ok (.iload_n 1, 1) := by decide +kernel
theorem dX11_presentedAt_1 : decode cX11_presentedAt 1 = .ok (.ifCond .lt 17, 3) := by decide +kernel
theorem dX11_presentedAt_4 : decode cX11_presentedAt 4 = .ok (.iload_n 1, 1) := by decide +kernel
theorem dX11_presentedAt_5 : decode cX11_presentedAt 5 = .ok (.aload_n 0, 1) := by decide +kernel
theorem dX11_presentedAt_6 : decode cX11_presentedAt 6 = .ok (.getfield 10, 3) := by decide +kernel
theorem dX11_presentedAt_9 : decode cX11_presentedAt 9 = .ok (.getfield 115, 3) := by decide +kernel
theorem dX11_presentedAt_12 : decode cX11_presentedAt 12 = .ok (.getfield 148, 3) := by decide +kernel
theorem dX11_presentedAt_15 : decode cX11_presentedAt 15 = .ok (.if_icmp .lt 13, 3) := by decide +kernel
theorem dX11_presentedAt_18 : decode cX11_presentedAt 18 = .ok (.new 151, 3) := by decide +kernel
theorem dX11_presentedAt_21 : decode cX11_presentedAt 21 = .ok (.dup, 1) := by decide +kernel
theorem dX11_presentedAt_22 : decode cX11_presentedAt 22 = .ok (.ldc 153, 2) := by decide +kernel
theorem dX11_presentedAt_24 : decode cX11_presentedAt 24 = .ok (.invokespecial 155, 3) := by decide +kernel
theorem dX11_presentedAt_27 : decode cX11_presentedAt 27 = .ok (.athrow, 1) := by decide +kernel
theorem dX11_presentedAt_28 : decode cX11_presentedAt 28 = .ok (.aload_n 0, 1) := by decide +kernel
theorem dX11_presentedAt_29 : decode cX11_presentedAt 29 = .ok (.getfield 10, 3) := by decide +kernel
theorem dX11_presentedAt_32 : decode cX11_presentedAt 32 = .ok (.getfield 115, 3) := by decide +kernel
theorem dX11_presentedAt_35 : decode cX11_presentedAt 35 = .ok (.getfield 158, 3) := by decide +kernel
theorem dX11_presentedAt_38 : decode cX11_presentedAt 38 = .ok (.iload_n 1, 1) := by decide +kernel
theorem dX11_presentedAt_39 : decode cX11_presentedAt 39 = .ok (.iaload, 1) := by decide +kernel
theorem dX11_presentedAt_40 : decode cX11_presentedAt 40 = .ok (.ireturn, 1) := by decide +kernel
theorem dX11_toldSecret_0 : decode cX11_toldSecret 0 = .ok (.aload_n 0, 1) := by decide +kernel
theorem dX11_toldSecret_1 : decode cX11_toldSecret 1 = .ok (.invokevirtual 161, 3) := by decide +kernel
theorem dX11_toldSecret_4 : decode cX11_toldSecret 4 = .ok (.aload_n 0, 1) := by decide +kernel
theorem dX11_toldSecret_5 : decode cX11_toldSecret 5 = .ok (.getfield 10, 3) := by decide +kernel
theorem dX11_toldSecret_8 : decode cX11_toldSecret 8 = .ok (.getfield 115, 3) := by decide +kernel
theorem dX11_toldSecret_11 : decode cX11_toldSecret 11 = .ok (.iconst 0, 1) := by decide +kernel
theorem dX11_toldSecret_12 : decode cX11_toldSecret 12 = .ok (.invokevirtual 164, 3) := by decide +kernel
theorem dX11_toldSecret_15 : decode cX11_toldSecret 15 = .ok (.ireturn, 1) := by decide +kernel
theorem dX11_toldSecretByElimination_0 : decode cX11_toldSecretByElimination 0 = .ok (.aload_n 0, 1) := by decide +kernel
theorem dX11_toldSecretByElimination_1 : decode cX11_toldSecretByElimination 1 = .ok (.invokevirtual 161, 3) := by decide +kernel
theorem dX11_toldSecretByElimination_4 : decode cX11_toldSecretByElimination 4 = .ok (.aload_n 0, 1) := by decide +kernel
theorem dX11_toldSecretByElimination_5 : decode cX11_toldSecretByElimination 5 = .ok (.getfield 36, 3) := by decide +kernel
theorem dX11_toldSecretByElimination_8 : decode cX11_toldSecretByElimination 8 = .ok (.aload_n 0, 1) := by decide +kernel
theorem dX11_toldSecretByElimination_9 : decode cX11_toldSecretByElimination 9 = .ok (.getfield 10, 3) := by decide +kernel
theorem dX11_toldSecretByElimination_12 : decode cX11_toldSecretByElimination 12 = .ok (.getfield 115, 3) := by decide +kernel
theorem dX11_toldSecretByElimination_15 : decode cX11_toldSecretByElimination 15 = .ok (.invokevirtual 167, 3) := by decide +kernel
theorem dX11_toldSecretByElimination_18 : decode cX11_toldSecretByElimination 18 = .ok (.ireturn, 1) := by decide +kernel
theorem dX11_toldValue_0 : decode cX11_toldValue 0 = .ok (.iload_n 1, 1) := by decide +kernel
theorem dX11_toldValue_1 : decode cX11_toldValue 1 = .ok (.ifCond .lt 9, 3) := by decide +kernel
theorem dX11_toldValue_4 : decode cX11_toldValue 4 = .ok (.iload_n 1, 1) := by decide +kernel
theorem dX11_toldValue_5 : decode cX11_toldValue 5 = .ok (.bipush 97, 2) := by decide +kernel
theorem dX11_toldValue_7 : decode cX11_toldValue 7 = .ok (.if_icmp .lt 13, 3) := by decide +kernel
theorem dX11_toldValue_10 : decode cX11_toldValue 10 = .ok (.new 171, 3) := by decide +kernel
theorem dX11_toldValue_13 : decode cX11_toldValue 13 = .ok (.dup, 1) := by decide +kernel
theorem dX11_toldValue_14 : decode cX11_toldValue 14 = .ok (.ldc 173, 2) := by decide +kernel
theorem dX11_toldValue_16 : decode cX11_toldValue 16 = .ok (.invokespecial 175, 3) := by decide +kernel
theorem dX11_toldValue_19 : decode cX11_toldValue 19 = .ok (.athrow, 1) := by decide +kernel
theorem dX11_toldValue_20 : decode cX11_toldValue 20 = .ok (.aload_n 0, 1) := by decide +kernel
theorem dX11_toldValue_21 : decode cX11_toldValue 21 = .ok (.invokevirtual 161, 3) := by decide +kernel
theorem dX11_toldValue_24 : decode cX11_toldValue 24 = .ok (.aload_n 0, 1) := by decide +kernel
theorem dX11_toldValue_25 : decode cX11_toldValue 25 = .ok (.getfield 10, 3) := by decide +kernel
theorem dX11_toldValue_28 : decode cX11_toldValue 28 = .ok (.getfield 115, 3) := by decide +kernel
theorem dX11_toldValue_31 : decode cX11_toldValue 31 = .ok (.iload_n 1, 1) := by decide +kernel
theorem dX11_toldValue_32 : decode cX11_toldValue 32 = .ok (.invokevirtual 164, 3) := by decide +kernel
theorem dX11_toldValue_35 : decode cX11_toldValue 35 = .ok (.ireturn, 1) := by decide +kernel
theorem dX11_doAgree_0 : decode cX11_doAgree 0 = .ok (.aload_n 0, 1) := by decide +kernel
theorem dX11_doAgree_1 : decode cX11_doAgree 1 = .ok (.invokevirtual 161, 3) := by decide +kernel
theorem dX11_doAgree_4 : decode cX11_doAgree 4 = .ok (.aload_n 0, 1) := by decide +kernel
theorem dX11_doAgree_5 : decode cX11_doAgree 5 = .ok (.getfield 10, 3) := by decide +kernel
theorem dX11_doAgree_8 : decode cX11_doAgree 8 = .ok (.getfield 115, 3) := by decide +kernel
theorem dX11_doAgree_11 : decode cX11_doAgree 11 = .ok (.invokevirtual 176, 3) := by decide +kernel
theorem dX11_doAgree_14 : decode cX11_doAgree 14 = .ok (.ireturn, 1) := by decide +kernel
theorem dX11_mostAgreeing_0 : decode cX11_mostAgreeing 0 = .ok (.aload_n 0, 1) := by decide +kernel
theorem dX11_mostAgreeing_1 : decode cX11_mostAgreeing 1 = .ok (.invokevirtual 161, 3) := by decide +kernel
theorem dX11_mostAgreeing_4 : decode cX11_mostAgreeing 4 = .ok (.aload_n 0, 1) := by decide +kernel
theorem dX11_mostAgreeing_5 : decode cX11_mostAgreeing 5 = .ok (.getfield 36, 3) := by decide +kernel
theorem dX11_mostAgreeing_8 : decode cX11_mostAgreeing 8 = .ok (.aload_n 0, 1) := by decide +kernel
theorem dX11_mostAgreeing_9 : decode cX11_mostAgreeing 9 = .ok (.getfield 10, 3) := by decide +kernel
theorem dX11_mostAgreeing_12 : decode cX11_mostAgreeing 12 = .ok (.getfield 115, 3) := by decide +kernel
theorem dX11_mostAgreeing_15 : decode cX11_mostAgreeing 15 = .ok (.invokevirtual 180, 3) := by decide +kernel
theorem dX11_mostAgreeing_18 : decode cX11_mostAgreeing 18 = .ok (.ireturn, 1) := by decide +kernel
theorem dX11_mostAgreeingBySets_0 : decode cX11_mostAgreeingBySets 0 = .ok (.aload_n 0, 1) := by decide +kernel
theorem dX11_mostAgreeingBySets_1 : decode cX11_mostAgreeingBySets 1 = .ok (.invokevirtual 161, 3) := by decide +kernel
theorem dX11_mostAgreeingBySets_4 : decode cX11_mostAgreeingBySets 4 = .ok (.aload_n 0, 1) := by decide +kernel
theorem dX11_mostAgreeingBySets_5 : decode cX11_mostAgreeingBySets 5 = .ok (.getfield 36, 3) := by decide +kernel
theorem dX11_mostAgreeingBySets_8 : decode cX11_mostAgreeingBySets 8 = .ok (.aload_n 0, 1) := by decide +kernel
theorem dX11_mostAgreeingBySets_9 : decode cX11_mostAgreeingBySets 9 = .ok (.getfield 10, 3) := by decide +kernel
theorem dX11_mostAgreeingBySets_12 : decode cX11_mostAgreeingBySets 12 = .ok (.getfield 115, 3) := by decide +kernel
theorem dX11_mostAgreeingBySets_15 : decode cX11_mostAgreeingBySets 15 = .ok (.invokevirtual 183, 3) := by decide +kernel
theorem dX11_mostAgreeingBySets_18 : decode cX11_mostAgreeingBySets 18 = .ok (.ireturn, 1) := by decide +kernel
theorem dX11_isOpen_0 : decode cX11_isOpen 0 = .ok (.aload_n 0, 1) := by decide +kernel
theorem dX11_isOpen_1 : decode cX11_isOpen 1 = .ok (.getfield 10, 3) := by decide +kernel
theorem dX11_isOpen_4 : decode cX11_isOpen 4 = .ok (.getfield 186, 3) := by decide +kernel
theorem dX11_isOpen_7 : decode cX11_isOpen 7 = .ok (.getfield 190, 3) := by decide +kernel
theorem dX11_isOpen_10 : decode cX11_isOpen 10 = .ok (.ireturn, 1) := by decide +kernel
theorem dX11_lockedHours_0 : decode cX11_lockedHours 0 = .ok (.aload_n 0, 1) := by decide +kernel
theorem dX11_lockedHours_1 : decode cX11_lockedHours 1 = .ok (.getfield 10, 3) := by decide +kernel
theorem dX11_lockedHours_4 : decode cX11_lockedHours 4 = .ok (.getfield 186, 3) := by decide +kernel
theorem dX11_lockedHours_7 : decode cX11_lockedHours 7 = .ok (.getfield 195, 3) := by decide +kernel
theorem dX11_lockedHours_10 : decode cX11_lockedHours 10 = .ok (.ireturn, 1) := by decide +kernel
theorem dX11_failedAttempts_0 : decode cX11_failedAttempts 0 = .ok (.aload_n 0, 1) := by decide +kernel
theorem dX11_failedAttempts_1 : decode cX11_failedAttempts 1 = .ok (.getfield 10, 3) := by decide +kernel
theorem dX11_failedAttempts_4 : decode cX11_failedAttempts 4 = .ok (.getfield 186, 3) := by decide +kernel
theorem dX11_failedAttempts_7 : decode cX11_failedAttempts 7 = .ok (.getfield 198, 3) := by decide +kernel
theorem dX11_failedAttempts_10 : decode cX11_failedAttempts 10 = .ok (.ireturn, 1) := by decide +kernel
theorem dX11_guardCount_0 : decode cX11_guardCount 0 = .ok (.aload_n 0, 1) := by decide +kernel
theorem dX11_guardCount_1 : decode cX11_guardCount 1 = .ok (.getfield 10, 3) := by decide +kernel
theorem dX11_guardCount_4 : decode cX11_guardCount 4 = .ok (.getfield 109, 3) := by decide +kernel
theorem dX11_guardCount_7 : decode cX11_guardCount 7 = .ok (.getfield 201, 3) := by decide +kernel
theorem dX11_guardCount_10 : decode cX11_guardCount 10 = .ok (.ireturn, 1) := by decide +kernel
theorem dX11_zoneOf_0 : decode cX11_zoneOf 0 = .ok (.aload_n 0, 1) := by decide +kernel
theorem dX11_zoneOf_1 : decode cX11_zoneOf 1 = .ok (.iload_n 1, 1) := by decide +kernel
theorem dX11_zoneOf_2 : decode cX11_zoneOf 2 = .ok (.invokevirtual 204, 3) := by decide +kernel
theorem dX11_zoneOf_5 : decode cX11_zoneOf 5 = .ok (.aload_n 0, 1) := by decide +kernel
theorem dX11_zoneOf_6 : decode cX11_zoneOf 6 = .ok (.getfield 10, 3) := by decide +kernel
theorem dX11_zoneOf_9 : decode cX11_zoneOf 9 = .ok (.getfield 109, 3) := by decide +kernel
theorem dX11_zoneOf_12 : decode cX11_zoneOf 12 = .ok (.getfield 207, 3) := by decide +kernel
theorem dX11_zoneOf_15 : decode cX11_zoneOf 15 = .ok (.iload_n 1, 1) := by decide +kernel
theorem dX11_zoneOf_16 : decode cX11_zoneOf 16 = .ok (.iaload, 1) := by decide +kernel
theorem dX11_zoneOf_17 : decode cX11_zoneOf 17 = .ok (.ireturn, 1) := by decide +kernel
theorem dX11_isForwards_0 : decode cX11_isForwards 0 = .ok (.aload_n 0, 1) := by decide +kernel
theorem dX11_isForwards_1 : decode cX11_isForwards 1 = .ok (.iload_n 1, 1) := by decide +kernel
theorem dX11_isForwards_2 : decode cX11_isForwards 2 = .ok (.invokevirtual 204, 3) := by decide +kernel
theorem dX11_isForwards_5 : decode cX11_isForwards 5 = .ok (.aload_n 0, 1) := by decide +kernel
theorem dX11_isForwards_6 : decode cX11_isForwards 6 = .ok (.getfield 10, 3) := by decide +kernel
theorem dX11_isForwards_9 : decode cX11_isForwards 9 = .ok (.getfield 109, 3) := by decide +kernel
theorem dX11_isForwards_12 : decode cX11_isForwards 12 = .ok (.getfield 210, 3) := by decide +kernel
theorem dX11_isForwards_15 : decode cX11_isForwards 15 = .ok (.iload_n 1, 1) := by decide +kernel
theorem dX11_isForwards_16 : decode cX11_isForwards 16 = .ok (.baload, 1) := by decide +kernel
theorem dX11_isForwards_17 : decode cX11_isForwards 17 = .ok (.ireturn, 1) := by decide +kernel
theorem dX11_noise_0 : decode cX11_noise 0 = .ok (.aload_n 0, 1) := by decide +kernel
theorem dX11_noise_1 : decode cX11_noise 1 = .ok (.iload_n 1, 1) := by decide +kernel
theorem dX11_noise_2 : decode cX11_noise 2 = .ok (.invokevirtual 214, 3) := by decide +kernel
theorem dX11_noise_5 : decode cX11_noise 5 = .ok (.aload_n 0, 1) := by decide +kernel
theorem dX11_noise_6 : decode cX11_noise 6 = .ok (.getfield 10, 3) := by decide +kernel
theorem dX11_noise_9 : decode cX11_noise 9 = .ok (.getfield 109, 3) := by decide +kernel
theorem dX11_noise_12 : decode cX11_noise 12 = .ok (.getfield 217, 3) := by decide +kernel
theorem dX11_noise_15 : decode cX11_noise 15 = .ok (.iload_n 1, 1) := by decide +kernel
theorem dX11_noise_16 : decode cX11_noise 16 = .ok (.iaload, 1) := by decide +kernel
theorem dX11_noise_17 : decode cX11_noise 17 = .ok (.ireturn, 1) := by decide +kernel
theorem dX11_isGuarded_0 : decode cX11_isGuarded 0 = .ok (.aload_n 0, 1) := by decide +kernel
theorem dX11_isGuarded_1 : decode cX11_isGuarded 1 = .ok (.iload_n 1, 1) := by decide +kernel
theorem dX11_isGuarded_2 : decode cX11_isGuarded 2 = .ok (.invokevirtual 214, 3) := by decide +kernel
theorem dX11_isGuarded_5 : decode cX11_isGuarded 5 = .ok (.aload_n 0, 1) := by decide +kernel
theorem dX11_isGuarded_6 : decode cX11_isGuarded 6 = .ok (.getfield 10, 3) := by decide +kernel
theorem dX11_isGuarded_9 : decode cX11_isGuarded 9 = .ok (.getfield 109, 3) := by decide +kernel
theorem dX11_isGuarded_12 : decode cX11_isGuarded 12 = .ok (.iload_n 1, 1) := by decide +kernel
theorem dX11_isGuarded_13 : decode cX11_isGuarded 13 = .ok (.invokevirtual 220, 3) := by decide +kernel
theorem dX11_isGuarded_16 : decode cX11_isGuarded 16 = .ok (.ifCond .ne 17, 3) := by decide +kernel
theorem dX11_isGuarded_19 : decode cX11_isGuarded 19 = .ok (.aload_n 0, 1) := by decide +kernel
theorem dX11_isGuarded_20 : decode cX11_isGuarded 20 = .ok (.getfield 10, 3) := by decide +kernel
theorem dX11_isGuarded_23 : decode cX11_isGuarded 23 = .ok (.getfield 109, 3) := by decide +kernel
theorem dX11_isGuarded_26 : decode cX11_isGuarded 26 = .ok (.iload_n 1, 1) := by decide +kernel
theorem dX11_isGuarded_27 : decode cX11_isGuarded 27 = .ok (.invokevirtual 224, 3) := by decide +kernel
theorem dX11_isGuarded_30 : decode cX11_isGuarded 30 = .ok (.ifCond .eq 7, 3) := by decide +kernel
theorem dX11_isGuarded_33 : decode cX11_isGuarded 33 = .ok (.iconst 1, 1) := by decide +kernel
theorem dX11_isGuarded_34 : decode cX11_isGuarded 34 = .ok (.goto 4, 3) := by decide +kernel
theorem dX11_isGuarded_37 : decode cX11_isGuarded 37 = .ok (.iconst 0, 1) := by decide +kernel
theorem dX11_isGuarded_38 : decode cX11_isGuarded 38 = .ok (.ireturn, 1) := by decide +kernel
theorem dX11_hoursUntilVisit_0 : decode cX11_hoursUntilVisit 0 = .ok (.aload_n 0, 1) := by decide +kernel
theorem dX11_hoursUntilVisit_1 : decode cX11_hoursUntilVisit 1 = .ok (.iload_n 1, 1) := by decide +kernel
theorem dX11_hoursUntilVisit_2 : decode cX11_hoursUntilVisit 2 = .ok (.invokevirtual 214, 3) := by decide +kernel
theorem dX11_hoursUntilVisit_5 : decode cX11_hoursUntilVisit 5 = .ok (.aload_n 0, 1) := by decide +kernel
theorem dX11_hoursUntilVisit_6 : decode cX11_hoursUntilVisit 6 = .ok (.invokevirtual 227, 3) := by decide +kernel
theorem dX11_hoursUntilVisit_9 : decode cX11_hoursUntilVisit 9 = .ok (.aload_n 0, 1) := by decide +kernel
theorem dX11_hoursUntilVisit_10 : decode cX11_hoursUntilVisit 10 = .ok (.iload_n 1, 1) := by decide +kernel
theorem dX11_hoursUntilVisit_11 : decode cX11_hoursUntilVisit 11 = .ok (.invokevirtual 230, 3) := by decide +kernel
theorem dX11_hoursUntilVisit_14 : decode cX11_hoursUntilVisit 14 = .ok (.ireturn, 1) := by decide +kernel
theorem dX11_hoursUntilVisitByRemainders_0 : decode cX11_hoursUntilVisitByRemainders 0 = .ok (.aload_n 0, 1) := by decide +kernel
theorem dX11_hoursUntilVisitByRemainders_1 : decode cX11_hoursUntilVisitByRemainders 1 = .ok (.iload_n 1, 1) := by decide +kernel
theorem dX11_hoursUntilVisitByRemainders_2 : decode cX11_hoursUntilVisitByRemainders 2 = .ok (.invokevirtual 214, 3) := by decide +kernel
theorem dX11_hoursUntilVisitByRemainders_5 : decode cX11_hoursUntilVisitByRemainders 5 = .ok (.aload_n 0, 1) := by decide +kernel
theorem dX11_hoursUntilVisitByRemainders_6 : decode cX11_hoursUntilVisitByRemainders 6 = .ok (.invokevirtual 227, 3) := by decide +kernel
theorem dX11_hoursUntilVisitByRemainders_9 : decode cX11_hoursUntilVisitByRemainders 9 = .ok (.aload_n 0, 1) := by decide +kernel
theorem dX11_hoursUntilVisitByRemainders_10 : decode cX11_hoursUntilVisitByRemainders 10 = .ok (.getfield 10, 3) := by decide +kernel
theorem dX11_hoursUntilVisitByRemainders_13 : decode cX11_hoursUntilVisitByRemainders 13 = .ok (.getfield 109, 3) := by decide +kernel
theorem dX11_hoursUntilVisitByRemainders_16 : decode cX11_hoursUntilVisitByRemainders 16 = .ok (.iload_n 1, 1) := by decide +kernel
theorem dX11_hoursUntilVisitByRemainders_17 : decode cX11_hoursUntilVisitByRemainders 17 = .ok (.invokevirtual 233, 3) := by decide +kernel
theorem dX11_hoursUntilVisitByRemainders_20 : decode cX11_hoursUntilVisitByRemainders 20 = .ok (.ireturn, 1) := by decide +kernel
theorem dX11_alarmsIn_0 : decode cX11_alarmsIn 0 = .ok (.iload_n 1, 1) := by decide +kernel
theorem dX11_alarmsIn_1 : decode cX11_alarmsIn 1 = .ok (.ifCond .lt 9, 3) := by decide +kernel
theorem dX11_alarmsIn_4 : decode cX11_alarmsIn 4 = .ok (.iload_n 1, 1) := by decide +kernel
theorem dX11_alarmsIn_5 : decode cX11_alarmsIn 5 = .ok (.bipush 24, 2) := by decide +kernel
theorem dX11_alarmsIn_7 : decode cX11_alarmsIn 7 = .ok (.if_icmp .le 13, 3) := by decide +kernel
theorem dX11_alarmsIn_10 : decode cX11_alarmsIn 10 = .ok (.new 171, 3) := by decide +kernel
theorem dX11_alarmsIn_13 : decode cX11_alarmsIn 13 = .ok (.dup, 1) := by decide +kernel
theorem dX11_alarmsIn_14 : decode cX11_alarmsIn 14 = .ok (.ldc 236, 2) := by decide +kernel
theorem dX11_alarmsIn_16 : decode cX11_alarmsIn 16 = .ok (.invokespecial 175, 3) := by decide +kernel
theorem dX11_alarmsIn_19 : decode cX11_alarmsIn 19 = .ok (.athrow, 1) := by decide +kernel
theorem dX11_alarmsIn_20 : decode cX11_alarmsIn 20 = .ok (.aload_n 0, 1) := by decide +kernel
theorem dX11_alarmsIn_21 : decode cX11_alarmsIn 21 = .ok (.getfield 29, 3) := by decide +kernel
theorem dX11_alarmsIn_24 : decode cX11_alarmsIn 24 = .ok (.aload_n 0, 1) := by decide +kernel
theorem dX11_alarmsIn_25 : decode cX11_alarmsIn 25 = .ok (.getfield 10, 3) := by decide +kernel
theorem dX11_alarmsIn_28 : decode cX11_alarmsIn 28 = .ok (.getfield 109, 3) := by decide +kernel
theorem dX11_alarmsIn_31 : decode cX11_alarmsIn 31 = .ok (.invokevirtual 238, 3) := by decide +kernel
theorem dX11_alarmsIn_34 : decode cX11_alarmsIn 34 = .ok (.iconst 0, 1) := by decide +kernel
theorem dX11_alarmsIn_35 : decode cX11_alarmsIn 35 = .ok (.istore_n 2, 1) := by decide +kernel
theorem dX11_alarmsIn_36 : decode cX11_alarmsIn 36 = .ok (.iload_n 2, 1) := by decide +kernel
theorem dX11_alarmsIn_37 : decode cX11_alarmsIn 37 = .ok (.iload_n 1, 1) := by decide +kernel
theorem dX11_alarmsIn_38 : decode cX11_alarmsIn 38 = .ok (.if_icmp .ge 17, 3) := by decide +kernel
theorem dX11_alarmsIn_41 : decode cX11_alarmsIn 41 = .ok (.aload_n 0, 1) := by decide +kernel
theorem dX11_alarmsIn_42 : decode cX11_alarmsIn 42 = .ok (.getfield 29, 3) := by decide +kernel
theorem dX11_alarmsIn_45 : decode cX11_alarmsIn 45 = .ok (.invokevirtual 242, 3) := by decide +kernel
theorem dX11_alarmsIn_48 : decode cX11_alarmsIn 48 = .ok (.pop, 1) := by decide +kernel
theorem dX11_alarmsIn_49 : decode cX11_alarmsIn 49 = .ok (.iinc 2 1, 3) := by decide +kernel
theorem dX11_alarmsIn_52 : decode cX11_alarmsIn 52 = .ok (.goto (-16), 3) := by decide +kernel
theorem dX11_alarmsIn_55 : decode cX11_alarmsIn 55 = .ok (.aload_n 0, 1) := by decide +kernel
theorem dX11_alarmsIn_56 : decode cX11_alarmsIn 56 = .ok (.getfield 29, 3) := by decide +kernel
theorem dX11_alarmsIn_59 : decode cX11_alarmsIn 59 = .ok (.getfield 245, 3) := by decide +kernel
theorem dX11_alarmsIn_62 : decode cX11_alarmsIn 62 = .ok (.aload_n 0, 1) := by decide +kernel
theorem dX11_alarmsIn_63 : decode cX11_alarmsIn 63 = .ok (.getfield 10, 3) := by decide +kernel
theorem dX11_alarmsIn_66 : decode cX11_alarmsIn 66 = .ok (.getfield 109, 3) := by decide +kernel
theorem dX11_alarmsIn_69 : decode cX11_alarmsIn 69 = .ok (.getfield 245, 3) := by decide +kernel
theorem dX11_alarmsIn_72 : decode cX11_alarmsIn 72 = .ok (.isub, 1) := by decide +kernel
theorem dX11_alarmsIn_73 : decode cX11_alarmsIn 73 = .ok (.ireturn, 1) := by decide +kernel
theorem dX11_zoneByNoise_0 : decode cX11_zoneByNoise 0 = .ok (.iload_n 1, 1) := by decide +kernel
theorem dX11_zoneByNoise_1 : decode cX11_zoneByNoise 1 = .ok (.ifCond .lt 9, 3) := by decide +kernel
theorem dX11_zoneByNoise_4 : decode cX11_zoneByNoise 4 = .ok (.iload_n 1, 1) := by decide +kernel
theorem dX11_zoneByNoise_5 : decode cX11_zoneByNoise 5 = .ok (.bipush 8, 2) := by decide +kernel
theorem dX11_zoneByNoise_7 : decode cX11_zoneByNoise 7 = .ok (.if_icmp .lt 13, 3) := by decide +kernel
theorem dX11_zoneByNoise_10 : decode cX11_zoneByNoise 10 = .ok (.new 151, 3) := by decide +kernel
theorem dX11_zoneByNoise_13 : decode cX11_zoneByNoise 13 = .ok (.dup, 1) := by decide +kernel
theorem dX11_zoneByNoise_14 : decode cX11_zoneByNoise 14 = .ok (.ldc 248, 2) := by decide +kernel
theorem dX11_zoneByNoise_16 : decode cX11_zoneByNoise 16 = .ok (.invokespecial 155, 3) := by decide +kernel
theorem dX11_zoneByNoise_19 : decode cX11_zoneByNoise 19 = .ok (.athrow, 1) := by decide +kernel
theorem dX11_zoneByNoise_20 : decode cX11_zoneByNoise 20 = .ok (.aload_n 0, 1) := by decide +kernel
theorem dX11_zoneByNoise_21 : decode cX11_zoneByNoise 21 = .ok (.getfield 10, 3) := by decide +kernel
theorem dX11_zoneByNoise_24 : decode cX11_zoneByNoise 24 = .ok (.getfield 109, 3) := by decide +kernel
theorem dX11_zoneByNoise_27 : decode cX11_zoneByNoise 27 = .ok (.iload_n 1, 1) := by decide +kernel
theorem dX11_zoneByNoise_28 : decode cX11_zoneByNoise 28 = .ok (.invokevirtual 250, 3) := by decide +kernel
theorem dX11_zoneByNoise_31 : decode cX11_zoneByNoise 31 = .ok (.ireturn, 1) := by decide +kernel
theorem dX11_alarmsOf_0 : decode cX11_alarmsOf 0 = .ok (.aload_n 0, 1) := by decide +kernel
theorem dX11_alarmsOf_1 : decode cX11_alarmsOf 1 = .ok (.iload_n 1, 1) := by decide +kernel
theorem dX11_alarmsOf_2 : decode cX11_alarmsOf 2 = .ok (.invokevirtual 214, 3) := by decide +kernel
theorem dX11_alarmsOf_5 : decode cX11_alarmsOf 5 = .ok (.aload_n 0, 1) := by decide +kernel
theorem dX11_alarmsOf_6 : decode cX11_alarmsOf 6 = .ok (.getfield 10, 3) := by decide +kernel
theorem dX11_alarmsOf_9 : decode cX11_alarmsOf 9 = .ok (.getfield 109, 3) := by decide +kernel
theorem dX11_alarmsOf_12 : decode cX11_alarmsOf 12 = .ok (.getfield 253, 3) := by decide +kernel
theorem dX11_alarmsOf_15 : decode cX11_alarmsOf 15 = .ok (.iload_n 1, 1) := by decide +kernel
theorem dX11_alarmsOf_16 : decode cX11_alarmsOf 16 = .ok (.iaload, 1) := by decide +kernel
theorem dX11_alarmsOf_17 : decode cX11_alarmsOf 17 = .ok (.ireturn, 1) := by decide +kernel
theorem dX11_alarmCount_0 : decode cX11_alarmCount 0 = .ok (.aload_n 0, 1) := by decide +kernel
theorem dX11_alarmCount_1 : decode cX11_alarmCount 1 = .ok (.getfield 10, 3) := by decide +kernel
theorem dX11_alarmCount_4 : decode cX11_alarmCount 4 = .ok (.getfield 109, 3) := by decide +kernel
theorem dX11_alarmCount_7 : decode cX11_alarmCount 7 = .ok (.getfield 245, 3) := by decide +kernel
theorem dX11_alarmCount_10 : decode cX11_alarmCount 10 = .ok (.ireturn, 1) := by decide +kernel
theorem dX11_openingCount_0 : decode cX11_openingCount 0 = .ok (.aload_n 0, 1) := by decide +kernel
theorem dX11_openingCount_1 : decode cX11_openingCount 1 = .ok (.getfield 10, 3) := by decide +kernel
theorem dX11_openingCount_4 : decode cX11_openingCount 4 = .ok (.getfield 186, 3) := by decide +kernel
theorem dX11_openingCount_7 : decode cX11_openingCount 7 = .ok (.getfield 256, 3) := by decide +kernel
theorem dX11_openingCount_10 : decode cX11_openingCount 10 = .ok (.ireturn, 1) := by decide +kernel
theorem dX11_logCount_0 : decode cX11_logCount 0 = .ok (.aload_n 0, 1) := by decide +kernel
theorem dX11_logCount_1 : decode cX11_logCount 1 = .ok (.getfield 10, 3) := by decide +kernel
theorem dX11_logCount_4 : decode cX11_logCount 4 = .ok (.getfield 259, 3) := by decide +kernel
theorem dX11_logCount_7 : decode cX11_logCount 7 = .ok (.getfield 263, 3) := by decide +kernel
theorem dX11_logCount_10 : decode cX11_logCount 10 = .ok (.ireturn, 1) := by decide +kernel
theorem dX11_logHour_0 : decode cX11_logHour 0 = .ok (.aload_n 0, 1) := by decide +kernel
theorem dX11_logHour_1 : decode cX11_logHour 1 = .ok (.iload_n 1, 1) := by decide +kernel
theorem dX11_logHour_2 : decode cX11_logHour 2 = .ok (.invokevirtual 268, 3) := by decide +kernel
theorem dX11_logHour_5 : decode cX11_logHour 5 = .ok (.aload_n 0, 1) := by decide +kernel
theorem dX11_logHour_6 : decode cX11_logHour 6 = .ok (.getfield 10, 3) := by decide +kernel
theorem dX11_logHour_9 : decode cX11_logHour 9 = .ok (.getfield 259, 3) := by decide +kernel
theorem dX11_logHour_12 : decode cX11_logHour 12 = .ok (.getfield 271, 3) := by decide +kernel
theorem dX11_logHour_15 : decode cX11_logHour 15 = .ok (.iload_n 1, 1) := by decide +kernel
theorem dX11_logHour_16 : decode cX11_logHour 16 = .ok (.iaload, 1) := by decide +kernel
theorem dX11_logHour_17 : decode cX11_logHour 17 = .ok (.ireturn, 1) := by decide +kernel
theorem dX11_logKind_0 : decode cX11_logKind 0 = .ok (.aload_n 0, 1) := by decide +kernel
theorem dX11_logKind_1 : decode cX11_logKind 1 = .ok (.iload_n 1, 1) := by decide +kernel
theorem dX11_logKind_2 : decode cX11_logKind 2 = .ok (.invokevirtual 268, 3) := by decide +kernel
theorem dX11_logKind_5 : decode cX11_logKind 5 = .ok (.aload_n 0, 1) := by decide +kernel
theorem dX11_logKind_6 : decode cX11_logKind 6 = .ok (.getfield 10, 3) := by decide +kernel
theorem dX11_logKind_9 : decode cX11_logKind 9 = .ok (.getfield 259, 3) := by decide +kernel
theorem dX11_logKind_12 : decode cX11_logKind 12 = .ok (.getfield 274, 3) := by decide +kernel
theorem dX11_logKind_15 : decode cX11_logKind 15 = .ok (.iload_n 1, 1) := by decide +kernel
theorem dX11_logKind_16 : decode cX11_logKind 16 = .ok (.caload, 1) := by decide +kernel
theorem dX11_logKind_17 : decode cX11_logKind 17 = .ok (.ireturn, 1) := by decide +kernel
theorem dX11_logDetail_0 : decode cX11_logDetail 0 = .ok (.aload_n 0, 1) := by decide +kernel
theorem dX11_logDetail_1 : decode cX11_logDetail 1 = .ok (.iload_n 1, 1) := by decide +kernel
theorem dX11_logDetail_2 : decode cX11_logDetail 2 = .ok (.invokevirtual 268, 3) := by decide +kernel
theorem dX11_logDetail_5 : decode cX11_logDetail 5 = .ok (.aload_n 0, 1) := by decide +kernel
theorem dX11_logDetail_6 : decode cX11_logDetail 6 = .ok (.getfield 10, 3) := by decide +kernel
theorem dX11_logDetail_9 : decode cX11_logDetail 9 = .ok (.getfield 259, 3) := by decide +kernel
theorem dX11_logDetail_12 : decode cX11_logDetail 12 = .ok (.getfield 278, 3) := by decide +kernel
theorem dX11_logDetail_15 : decode cX11_logDetail 15 = .ok (.iload_n 1, 1) := by decide +kernel
theorem dX11_logDetail_16 : decode cX11_logDetail 16 = .ok (.iaload, 1) := by decide +kernel
theorem dX11_logDetail_17 : decode cX11_logDetail 17 = .ok (.ireturn, 1) := by decide +kernel
theorem dX11_meanNoise_0 : decode cX11_meanNoise 0 = .ok (.aload_n 0, 1) := by decide +kernel
theorem dX11_meanNoise_1 : decode cX11_meanNoise 1 = .ok (.getfield 10, 3) := by decide +kernel
theorem dX11_meanNoise_4 : decode cX11_meanNoise 4 = .ok (.getfield 109, 3) := by decide +kernel
theorem dX11_meanNoise_7 : decode cX11_meanNoise 7 = .ok (.getfield 217, 3) := by decide +kernel
theorem dX11_meanNoise_10 : decode cX11_meanNoise 10 = .ok (.invokestatic 281, 3) := by decide +kernel
theorem dX11_meanNoise_13 : decode cX11_meanNoise 13 = .ok (.i2d, 1) := by decide +kernel
theorem dX11_meanNoise_14 : decode cX11_meanNoise 14 = .ok (.ldc2_w 285, 3) := by decide +kernel
theorem dX11_meanNoise_17 : decode cX11_meanNoise 17 = .ok (.ddiv, 1) := by decide +kernel
theorem dX11_meanNoise_18 : decode cX11_meanNoise 18 = .ok (.dreturn, 1) := by decide +kernel
theorem dX11_alarmShare_0 : decode cX11_alarmShare 0 = .ok (.aload_n 0, 1) := by decide +kernel
theorem dX11_alarmShare_1 : decode cX11_alarmShare 1 = .ok (.iload_n 1, 1) := by decide +kernel
theorem dX11_alarmShare_2 : decode cX11_alarmShare 2 = .ok (.invokevirtual 214, 3) := by decide +kernel
theorem dX11_alarmShare_5 : decode cX11_alarmShare 5 = .ok (.aload_n 0, 1) := by decide +kernel
theorem dX11_alarmShare_6 : decode cX11_alarmShare 6 = .ok (.getfield 10, 3) := by decide +kernel
theorem dX11_alarmShare_9 : decode cX11_alarmShare 9 = .ok (.getfield 109, 3) := by decide +kernel
theorem dX11_alarmShare_12 : decode cX11_alarmShare 12 = .ok (.getfield 245, 3) := by decide +kernel
theorem dX11_alarmShare_15 : decode cX11_alarmShare 15 = .ok (.ifCond .ne 14, 3) := by decide +kernel
theorem dX11_alarmShare_18 : decode cX11_alarmShare 18 = .ok (.new 287, 3) := by decide +kernel
theorem dX11_alarmShare_21 : decode cX11_alarmShare 21 = .ok (.dup, 1) := by decide +kernel
theorem dX11_alarmShare_22 : decode cX11_alarmShare 22 = .ok (.ldc_w 289, 3) := by decide +kernel
theorem dX11_alarmShare_25 : decode cX11_alarmShare 25 = .ok (.invokespecial 291, 3) := by decide +kernel
theorem dX11_alarmShare_28 : decode cX11_alarmShare 28 = .ok (.athrow, 1) := by decide +kernel
theorem dX11_alarmShare_29 : decode cX11_alarmShare 29 = .ok (.aload_n 0, 1) := by decide +kernel
theorem dX11_alarmShare_30 : decode cX11_alarmShare 30 = .ok (.getfield 10, 3) := by decide +kernel
theorem dX11_alarmShare_33 : decode cX11_alarmShare 33 = .ok (.getfield 109, 3) := by decide +kernel
theorem dX11_alarmShare_36 : decode cX11_alarmShare 36 = .ok (.getfield 253, 3) := by decide +kernel
theorem dX11_alarmShare_39 : decode cX11_alarmShare 39 = .ok (.iload_n 1, 1) := by decide +kernel
theorem dX11_alarmShare_40 : decode cX11_alarmShare 40 = .ok (.iaload, 1) := by decide +kernel
theorem dX11_alarmShare_41 : decode cX11_alarmShare 41 = .ok (.i2f, 1) := by decide +kernel
theorem dX11_alarmShare_42 : decode cX11_alarmShare 42 = .ok (.aload_n 0, 1) := by decide +kernel
theorem dX11_alarmShare_43 : decode cX11_alarmShare 43 = .ok (.getfield 10, 3) := by decide +kernel
theorem dX11_alarmShare_46 : decode cX11_alarmShare 46 = .ok (.getfield 109, 3) := by decide +kernel
theorem dX11_alarmShare_49 : decode cX11_alarmShare 49 = .ok (.getfield 245, 3) := by decide +kernel
theorem dX11_alarmShare_52 : decode cX11_alarmShare 52 = .ok (.i2f, 1) := by decide +kernel
theorem dX11_alarmShare_53 : decode cX11_alarmShare 53 = .ok (.fdiv, 1) := by decide +kernel
theorem dX11_alarmShare_54 : decode cX11_alarmShare 54 = .ok (.freturn, 1) := by decide +kernel
theorem dX11_isConsistent_0 : decode cX11_isConsistent 0 = .ok (.aload_n 0, 1) := by decide +kernel
theorem dX11_isConsistent_1 : decode cX11_isConsistent 1 = .ok (.getfield 10, 3) := by decide +kernel
theorem dX11_isConsistent_4 : decode cX11_isConsistent 4 = .ok (.getfield 109, 3) := by decide +kernel
theorem dX11_isConsistent_7 : decode cX11_isConsistent 7 = .ok (.getfield 253, 3) := by decide +kernel
theorem dX11_isConsistent_10 : decode cX11_isConsistent 10 = .ok (.invokestatic 281, 3) := by decide +kernel
theorem dX11_isConsistent_13 : decode cX11_isConsistent 13 = .ok (.aload_n 0, 1) := by decide +kernel
theorem dX11_isConsistent_14 : decode cX11_isConsistent 14 = .ok (.getfield 10, 3) := by decide +kernel
theorem dX11_isConsistent_17 : decode cX11_isConsistent 17 = .ok (.getfield 109, 3) := by decide +kernel
theorem dX11_isConsistent_20 : decode cX11_isConsistent 20 = .ok (.getfield 245, 3) := by decide +kernel
theorem dX11_isConsistent_23 : decode cX11_isConsistent 23 = .ok (.if_icmp .ne 21, 3) := by decide +kernel
theorem dX11_isConsistent_26 : decode cX11_isConsistent 26 = .ok (.aload_n 0, 1) := by decide +kernel
theorem dX11_isConsistent_27 : decode cX11_isConsistent 27 = .ok (.invokevirtual 292, 3) := by decide +kernel
theorem dX11_isConsistent_30 : decode cX11_isConsistent 30 = .ok (.ifCond .eq 14, 3) := by decide +kernel
theorem dX11_isConsistent_33 : decode cX11_isConsistent 33 = .ok (.aload_n 0, 1) := by decide +kernel
theorem dX11_isConsistent_34 : decode cX11_isConsistent 34 = .ok (.invokevirtual 295, 3) := by decide +kernel
theorem dX11_isConsistent_37 : decode cX11_isConsistent 37 = .ok (.ifCond .eq 7, 3) := by decide +kernel
theorem dX11_isConsistent_40 : decode cX11_isConsistent 40 = .ok (.iconst 1, 1) := by decide +kernel
theorem dX11_isConsistent_41 : decode cX11_isConsistent 41 = .ok (.goto 4, 3) := by decide +kernel
theorem dX11_isConsistent_44 : decode cX11_isConsistent 44 = .ok (.iconst 0, 1) := by decide +kernel
theorem dX11_isConsistent_45 : decode cX11_isConsistent 45 = .ok (.ireturn, 1) := by decide +kernel
theorem dX11_refusalReason_0 : decode cX11_refusalReason 0 = .ok (.aload_n 0, 1) := by decide +kernel
theorem dX11_refusalReason_1 : decode cX11_refusalReason 1 = .ok (.invokevirtual 298, 3) := by decide +kernel
theorem dX11_refusalReason_4 : decode cX11_refusalReason 4 = .ok (.aload_n 0, 1) := by decide +kernel
theorem dX11_refusalReason_5 : decode cX11_refusalReason 5 = .ok (.getfield 54, 3) := by decide +kernel
theorem dX11_refusalReason_8 : decode cX11_refusalReason 8 = .ok (.ireturn, 1) := by decide +kernel
theorem dX11_refusalDetail_0 : decode cX11_refusalDetail 0 = .ok (.aload_n 0, 1) := by decide +kernel
theorem dX11_refusalDetail_1 : decode cX11_refusalDetail 1 = .ok (.invokevirtual 298, 3) := by decide +kernel
theorem dX11_refusalDetail_4 : decode cX11_refusalDetail 4 = .ok (.aload_n 0, 1) := by decide +kernel
theorem dX11_refusalDetail_5 : decode cX11_refusalDetail 5 = .ok (.getfield 301, 3) := by decide +kernel
theorem dX11_refusalDetail_8 : decode cX11_refusalDetail 8 = .ok (.ireturn, 1) := by decide +kernel
theorem dX11_refusalCause_0 : decode cX11_refusalCause 0 = .ok (.aload_n 0, 1) := by decide +kernel
theorem dX11_refusalCause_1 : decode cX11_refusalCause 1 = .ok (.getfield 58, 3) := by decide +kernel
theorem dX11_refusalCause_4 : decode cX11_refusalCause 4 = .ok (.iconst (-1), 1) := by decide +kernel
theorem dX11_refusalCause_5 : decode cX11_refusalCause 5 = .ok (.if_icmp .ne 14, 3) := by decide +kernel
theorem dX11_refusalCause_8 : decode cX11_refusalCause 8 = .ok (.new 151, 3) := by decide +kernel
theorem dX11_refusalCause_11 : decode cX11_refusalCause 11 = .ok (.dup, 1) := by decide +kernel
theorem dX11_refusalCause_12 : decode cX11_refusalCause 12 = .ok (.ldc_w 304, 3) := by decide +kernel
theorem dX11_refusalCause_15 : decode cX11_refusalCause 15 = .ok (.invokespecial 155, 3) := by decide +kernel
theorem dX11_refusalCause_18 : decode cX11_refusalCause 18 = .ok (.athrow, 1) := by decide +kernel
theorem dX11_refusalCause_19 : decode cX11_refusalCause 19 = .ok (.aload_n 0, 1) := by decide +kernel
theorem dX11_refusalCause_20 : decode cX11_refusalCause 20 = .ok (.getfield 58, 3) := by decide +kernel
theorem dX11_refusalCause_23 : decode cX11_refusalCause 23 = .ok (.ireturn, 1) := by decide +kernel
theorem dX11_feed_0 : decode cX11_feed 0 = .ok (.aload_n 0, 1) := by decide +kernel
theorem dX11_feed_1 : decode cX11_feed 1 = .ok (.getfield 43, 3) := by decide +kernel
theorem dX11_feed_4 : decode cX11_feed 4 = .ok (.getfield 306, 3) := by decide +kernel
theorem dX11_feed_7 : decode cX11_feed 7 = .ok (.bipush 60, 2) := by decide +kernel
theorem dX11_feed_9 : decode cX11_feed 9 = .ok (.if_icmp .lt 14, 3) := by decide +kernel
theorem dX11_feed_12 : decode cX11_feed 12 = .ok (.new 309, 3) := by decide +kernel
theorem dX11_feed_15 : decode cX11_feed 15 = .ok (.dup, 1) := by decide +kernel
theorem dX11_feed_16 : decode cX11_feed 16 = .ok (.ldc_w 311, 3) := by decide +kernel
theorem dX11_feed_19 : decode cX11_feed 19 = .ok (.invokespecial 313, 3) := by decide +kernel
theorem dX11_feed_22 : decode cX11_feed 22 = .ok (.athrow, 1) := by decide +kernel
theorem dX11_feed_23 : decode cX11_feed 23 = .ok (.aload_n 0, 1) := by decide +kernel
theorem dX11_feed_24 : decode cX11_feed 24 = .ok (.getfield 43, 3) := by decide +kernel
theorem dX11_feed_27 : decode cX11_feed 27 = .ok (.iload_n 1, 1) := by decide +kernel
theorem dX11_feed_28 : decode cX11_feed 28 = .ok (.invokevirtual 314, 3) := by decide +kernel
theorem dX11_feed_31 : decode cX11_feed 31 = .ok (.ireturn, 1) := by decide +kernel
theorem dX11_runCommands_0 : decode cX11_runCommands 0 = .ok (.aload_n 0, 1) := by decide +kernel
theorem dX11_runCommands_1 : decode cX11_runCommands 1 = .ok (.getfield 43, 3) := by decide +kernel
theorem dX11_runCommands_4 : decode cX11_runCommands 4 = .ok (.invokevirtual 318, 3) := by decide +kernel
theorem dX11_runCommands_7 : decode cX11_runCommands 7 = .ok (.istore_n 1, 1) := by decide +kernel
theorem dX11_runCommands_8 : decode cX11_runCommands 8 = .ok (.aload_n 0, 1) := by decide +kernel
theorem dX11_runCommands_9 : decode cX11_runCommands 9 = .ok (.getfield 43, 3) := by decide +kernel
theorem dX11_runCommands_12 : decode cX11_runCommands 12 = .ok (.invokevirtual 321, 3) := by decide +kernel
theorem dX11_runCommands_15 : decode cX11_runCommands 15 = .ok (.iload_n 1, 1) := by decide +kernel
theorem dX11_runCommands_16 : decode cX11_runCommands 16 = .ok (.iconst (-1), 1) := by decide +kernel
theorem dX11_runCommands_17 : decode cX11_runCommands 17 = .ok (.if_icmp .eq 19, 3) := by decide +kernel
theorem dX11_runCommands_20 : decode cX11_runCommands 20 = .ok (.aload_n 0, 1) := by decide +kernel
theorem dX11_runCommands_21 : decode cX11_runCommands 21 = .ok (.iload_n 1, 1) := by decide +kernel
theorem dX11_runCommands_22 : decode cX11_runCommands 22 = .ok (.putfield 61, 3) := by decide +kernel
theorem dX11_runCommands_25 : decode cX11_runCommands 25 = .ok (.new 171, 3) := by decide +kernel
theorem dX11_runCommands_28 : decode cX11_runCommands 28 = .ok (.dup, 1) := by decide +kernel
theorem dX11_runCommands_29 : decode cX11_runCommands 29 = .ok (.ldc_w 324, 3) := by decide +kernel
theorem dX11_runCommands_32 : decode cX11_runCommands 32 = .ok (.invokespecial 175, 3) := by decide +kernel
theorem dX11_runCommands_35 : decode cX11_runCommands 35 = .ok (.athrow, 1) := by decide +kernel
theorem dX11_runCommands_36 : decode cX11_runCommands 36 = .ok (.aload_n 0, 1) := by decide +kernel
theorem dX11_runCommands_37 : decode cX11_runCommands 37 = .ok (.getfield 19, 3) := by decide +kernel
theorem dX11_runCommands_40 : decode cX11_runCommands 40 = .ok (.aload_n 0, 1) := by decide +kernel
theorem dX11_runCommands_41 : decode cX11_runCommands 41 = .ok (.getfield 10, 3) := by decide +kernel
theorem dX11_runCommands_44 : decode cX11_runCommands 44 = .ok (.invokevirtual 64, 3) := by decide +kernel
theorem dX11_runCommands_47 : decode cX11_runCommands 47 = .ok (.iconst 0, 1) := by decide +kernel
theorem dX11_runCommands_48 : decode cX11_runCommands 48 = .ok (.istore_n 2, 1) := by decide +kernel
theorem dX11_runCommands_49 : decode cX11_runCommands 49 = .ok (.iload_n 2, 1) := by decide +kernel
theorem dX11_runCommands_50 : decode cX11_runCommands 50 = .ok (.aload_n 0, 1) := by decide +kernel
theorem dX11_runCommands_51 : decode cX11_runCommands 51 = .ok (.getfield 43, 3) := by decide +kernel
theorem dX11_runCommands_54 : decode cX11_runCommands 54 = .ok (.getfield 326, 3) := by decide +kernel
theorem dX11_runCommands_57 : decode cX11_runCommands 57 = .ok (.if_icmp .ge 81, 3) := by decide +kernel
theorem dX11_runCommands_60 : decode cX11_runCommands 60 = .ok (.aload_n 0, 1) := by decide +kernel
theorem dX11_runCommands_61 : decode cX11_runCommands 61 = .ok (.getfield 10, 3) := by decide +kernel
theorem dX11_runCommands_64 : decode cX11_runCommands 64 = .ok (.aload_n 0, 1) := by decide +kernel
theorem dX11_runCommands_65 : decode cX11_runCommands 65 = .ok (.getfield 43, 3) := by decide +kernel
theorem dX11_runCommands_68 : decode cX11_runCommands 68 = .ok (.getfield 327, 3) := by decide +kernel
theorem dX11_runCommands_71 : decode cX11_runCommands 71 = .ok (.iload_n 2, 1) := by decide +kernel
theorem dX11_runCommands_72 : decode cX11_runCommands 72 = .ok (.aaload, 1) := by decide +kernel
theorem dX11_runCommands_73 : decode cX11_runCommands 73 = .ok (.aload_n 0, 1) := by decide +kernel
theorem dX11_runCommands_74 : decode cX11_runCommands 74 = .ok (.getfield 43, 3) := by decide +kernel
theorem dX11_runCommands_77 : decode cX11_runCommands 77 = .ok (.getfield 331, 3) := by decide +kernel
theorem dX11_runCommands_80 : decode cX11_runCommands 80 = .ok (.iload_n 2, 1) := by decide +kernel
theorem dX11_runCommands_81 : decode cX11_runCommands 81 = .ok (.aaload, 1) := by decide +kernel
theorem dX11_runCommands_82 : decode cX11_runCommands 82 = .ok (.invokevirtual 335, 3) := by decide +kernel
theorem dX11_runCommands_85 : decode cX11_runCommands 85 = .ok (.istore_n 3, 1) := by decide +kernel
theorem dX11_runCommands_86 : decode cX11_runCommands 86 = .ok (.iload_n 3, 1) := by decide +kernel
theorem dX11_runCommands_87 : decode cX11_runCommands 87 = .ok (.ifCond .eq 45, 3) := by decide +kernel
theorem dX11_runCommands_90 : decode cX11_runCommands 90 = .ok (.aload_n 0, 1) := by decide +kernel
theorem dX11_runCommands_91 : decode cX11_runCommands 91 = .ok (.getfield 10, 3) := by decide +kernel
theorem dX11_runCommands_94 : decode cX11_runCommands 94 = .ok (.aload_n 0, 1) := by decide +kernel
theorem dX11_runCommands_95 : decode cX11_runCommands 95 = .ok (.getfield 19, 3) := by decide +kernel
theorem dX11_runCommands_98 : decode cX11_runCommands 98 = .ok (.invokevirtual 339, 3) := by decide +kernel
theorem dX11_runCommands_101 : decode cX11_runCommands 101 = .ok (.invokevirtual 343, 3) := by decide +kernel
theorem dX11_runCommands_104 : decode cX11_runCommands 104 = .ok (.aload_n 0, 1) := by decide +kernel
theorem dX11_runCommands_105 : decode cX11_runCommands 105 = .ok (.bipush 11, 2) := by decide +kernel
theorem dX11_runCommands_107 : decode cX11_runCommands 107 = .ok (.iload_n 2, 1) := by decide +kernel
theorem dX11_runCommands_108 : decode cX11_runCommands 108 = .ok (.iload_n 3, 1) := by decide +kernel
theorem dX11_runCommands_109 : decode cX11_runCommands 109 = .ok (.ifCond .le 7, 3) := by decide +kernel
theorem dX11_runCommands_112 : decode cX11_runCommands 112 = .ok (.iload_n 3, 1) := by decide +kernel
theorem dX11_runCommands_113 : decode cX11_runCommands 113 = .ok (.goto 5, 3) := by decide +kernel
theorem dX11_runCommands_116 : decode cX11_runCommands 116 = .ok (.bipush 12, 2) := by decide +kernel
theorem dX11_runCommands_118 : decode cX11_runCommands 118 = .ok (.invokevirtual 345, 3) := by decide +kernel
theorem dX11_runCommands_121 : decode cX11_runCommands 121 = .ok (.new 349, 3) := by decide +kernel
theorem dX11_runCommands_124 : decode cX11_runCommands 124 = .ok (.dup, 1) := by decide +kernel
theorem dX11_runCommands_125 : decode cX11_runCommands 125 = .ok (.ldc_w 351, 3) := by decide +kernel
theorem dX11_runCommands_128 : decode cX11_runCommands 128 = .ok (.invokespecial 353, 3) := by decide +kernel
theorem dX11_runCommands_131 : decode cX11_runCommands 131 = .ok (.athrow, 1) := by decide +kernel
theorem dX11_runCommands_132 : decode cX11_runCommands 132 = .ok (.iinc 2 1, 3) := by decide +kernel
theorem dX11_runCommands_135 : decode cX11_runCommands 135 = .ok (.goto (-86), 3) := by decide +kernel
theorem dX11_runCommands_138 : decode cX11_runCommands 138 = .ok (.aload_n 0, 1) := by decide +kernel
theorem dX11_runCommands_139 : decode cX11_runCommands 139 = .ok (.getfield 19, 3) := by decide +kernel
theorem dX11_runCommands_142 : decode cX11_runCommands 142 = .ok (.invokevirtual 354, 3) := by decide +kernel
theorem dX11_runCommands_145 : decode cX11_runCommands 145 = .ok (.aload_n 0, 1) := by decide +kernel
theorem dX11_runCommands_146 : decode cX11_runCommands 146 = .ok (.getfield 43, 3) := by decide +kernel
theorem dX11_runCommands_149 : decode cX11_runCommands 149 = .ok (.getfield 326, 3) := by decide +kernel
theorem dX11_runCommands_152 : decode cX11_runCommands 152 = .ok (.ireturn, 1) := by decide +kernel
theorem dX11_errorPosition_0 : decode cX11_errorPosition 0 = .ok (.aload_n 0, 1) := by decide +kernel
theorem dX11_errorPosition_1 : decode cX11_errorPosition 1 = .ok (.getfield 61, 3) := by decide +kernel
theorem dX11_errorPosition_4 : decode cX11_errorPosition 4 = .ok (.iconst (-1), 1) := by decide +kernel
theorem dX11_errorPosition_5 : decode cX11_errorPosition 5 = .ok (.if_icmp .ne 14, 3) := by decide +kernel
theorem dX11_errorPosition_8 : decode cX11_errorPosition 8 = .ok (.new 151, 3) := by decide +kernel
theorem dX11_errorPosition_11 : decode cX11_errorPosition 11 = .ok (.dup, 1) := by decide +kernel
theorem dX11_errorPosition_12 : decode cX11_errorPosition 12 = .ok (.ldc_w 357, 3) := by decide +kernel
theorem dX11_errorPosition_15 : decode cX11_errorPosition 15 = .ok (.invokespecial 155, 3) := by decide +kernel
theorem dX11_errorPosition_18 : decode cX11_errorPosition 18 = .ok (.athrow, 1) := by decide +kernel
theorem dX11_errorPosition_19 : decode cX11_errorPosition 19 = .ok (.aload_n 0, 1) := by decide +kernel
theorem dX11_errorPosition_20 : decode cX11_errorPosition 20 = .ok (.getfield 61, 3) := by decide +kernel
theorem dX11_errorPosition_23 : decode cX11_errorPosition 23 = .ok (.ireturn, 1) := by decide +kernel
theorem dX11_writeZones_0 : decode cX11_writeZones 0 = .ok (.aload_n 0, 1) := by decide +kernel
theorem dX11_writeZones_1 : decode cX11_writeZones 1 = .ok (.getfield 50, 3) := by decide +kernel
theorem dX11_writeZones_4 : decode cX11_writeZones 4 = .ok (.invokevirtual 359, 3) := by decide +kernel
theorem dX11_writeZones_7 : decode cX11_writeZones 7 = .ok (.iconst 0, 1) := by decide +kernel
theorem dX11_writeZones_8 : decode cX11_writeZones 8 = .ok (.istore_n 1, 1) := by decide +kernel
theorem dX11_writeZones_9 : decode cX11_writeZones 9 = .ok (.iload_n 1, 1) := by decide +kernel
theorem dX11_writeZones_10 : decode cX11_writeZones 10 = .ok (.bipush 8, 2) := by decide +kernel
theorem dX11_writeZones_12 : decode cX11_writeZones 12 = .ok (.if_icmp .ge 41, 3) := by decide +kernel
theorem dX11_writeZones_15 : decode cX11_writeZones 15 = .ok (.aload_n 0, 1) := by decide +kernel
theorem dX11_writeZones_16 : decode cX11_writeZones 16 = .ok (.getfield 50, 3) := by decide +kernel
theorem dX11_writeZones_19 : decode cX11_writeZones 19 = .ok (.iload_n 1, 1) := by decide +kernel
theorem dX11_writeZones_20 : decode cX11_writeZones 20 = .ok (.invokevirtual 360, 3) := by decide +kernel
theorem dX11_writeZones_23 : decode cX11_writeZones 23 = .ok (.aload_n 0, 1) := by decide +kernel
theorem dX11_writeZones_24 : decode cX11_writeZones 24 = .ok (.getfield 50, 3) := by decide +kernel
theorem dX11_writeZones_27 : decode cX11_writeZones 27 = .ok (.aload_n 0, 1) := by decide +kernel
theorem dX11_writeZones_28 : decode cX11_writeZones 28 = .ok (.getfield 10, 3) := by decide +kernel
theorem dX11_writeZones_31 : decode cX11_writeZones 31 = .ok (.getfield 109, 3) := by decide +kernel
theorem dX11_writeZones_34 : decode cX11_writeZones 34 = .ok (.getfield 217, 3) := by decide +kernel
theorem dX11_writeZones_37 : decode cX11_writeZones 37 = .ok (.iload_n 1, 1) := by decide +kernel
theorem dX11_writeZones_38 : decode cX11_writeZones 38 = .ok (.iaload, 1) := by decide +kernel
theorem dX11_writeZones_39 : decode cX11_writeZones 39 = .ok (.invokevirtual 363, 3) := by decide +kernel
theorem dX11_writeZones_42 : decode cX11_writeZones 42 = .ok (.aload_n 0, 1) := by decide +kernel
theorem dX11_writeZones_43 : decode cX11_writeZones 43 = .ok (.iload_n 1, 1) := by decide +kernel
theorem dX11_writeZones_44 : decode cX11_writeZones 44 = .ok (.invokevirtual 366, 3) := by decide +kernel
theorem dX11_writeZones_47 : decode cX11_writeZones 47 = .ok (.iinc 1 1, 3) := by decide +kernel
theorem dX11_writeZones_50 : decode cX11_writeZones 50 = .ok (.goto (-41), 3) := by decide +kernel
theorem dX11_writeZones_53 : decode cX11_writeZones 53 = .ok (.aload_n 0, 1) := by decide +kernel
theorem dX11_writeZones_54 : decode cX11_writeZones 54 = .ok (.getfield 50, 3) := by decide +kernel
theorem dX11_writeZones_57 : decode cX11_writeZones 57 = .ok (.getfield 369, 3) := by decide +kernel
theorem dX11_writeZones_60 : decode cX11_writeZones 60 = .ok (.ireturn, 1) := by decide +kernel
theorem dX11_writeLog_0 : decode cX11_writeLog 0 = .ok (.aload_n 0, 1) := by decide +kernel
theorem dX11_writeLog_1 : decode cX11_writeLog 1 = .ok (.getfield 50, 3) := by decide +kernel
theorem dX11_writeLog_4 : decode cX11_writeLog 4 = .ok (.invokevirtual 359, 3) := by decide +kernel
theorem dX11_writeLog_7 : decode cX11_writeLog 7 = .ok (.aload_n 0, 1) := by decide +kernel
theorem dX11_writeLog_8 : decode cX11_writeLog 8 = .ok (.getfield 10, 3) := by decide +kernel
theorem dX11_writeLog_11 : decode cX11_writeLog 11 = .ok (.getfield 259, 3) := by decide +kernel
theorem dX11_writeLog_14 : decode cX11_writeLog 14 = .ok (.astore_n 1, 1) := by decide +kernel
theorem dX11_writeLog_15 : decode cX11_writeLog 15 = .ok (.iconst 0, 1) := by decide +kernel
theorem dX11_writeLog_16 : decode cX11_writeLog 16 = .ok (.istore_n 2, 1) := by decide +kernel
theorem dX11_writeLog_17 : decode cX11_writeLog 17 = .ok (.iload_n 2, 1) := by decide +kernel
theorem dX11_writeLog_18 : decode cX11_writeLog 18 = .ok (.aload_n 1, 1) := by decide +kernel
theorem dX11_writeLog_19 : decode cX11_writeLog 19 = .ok (.getfield 263, 3) := by decide +kernel
theorem dX11_writeLog_22 : decode cX11_writeLog 22 = .ok (.if_icmp .ge 56, 3) := by decide +kernel
theorem dX11_writeLog_25 : decode cX11_writeLog 25 = .ok (.aload_n 0, 1) := by decide +kernel
theorem dX11_writeLog_26 : decode cX11_writeLog 26 = .ok (.getfield 50, 3) := by decide +kernel
theorem dX11_writeLog_29 : decode cX11_writeLog 29 = .ok (.iload_n 2, 1) := by decide +kernel
theorem dX11_writeLog_30 : decode cX11_writeLog 30 = .ok (.invokevirtual 360, 3) := by decide +kernel
theorem dX11_writeLog_33 : decode cX11_writeLog 33 = .ok (.aload_n 0, 1) := by decide +kernel
theorem dX11_writeLog_34 : decode cX11_writeLog 34 = .ok (.getfield 50, 3) := by decide +kernel
theorem dX11_writeLog_37 : decode cX11_writeLog 37 = .ok (.aload_n 1, 1) := by decide +kernel
theorem dX11_writeLog_38 : decode cX11_writeLog 38 = .ok (.getfield 271, 3) := by decide +kernel
theorem dX11_writeLog_41 : decode cX11_writeLog 41 = .ok (.iload_n 2, 1) := by decide +kernel
theorem dX11_writeLog_42 : decode cX11_writeLog 42 = .ok (.iaload, 1) := by decide +kernel
theorem dX11_writeLog_43 : decode cX11_writeLog 43 = .ok (.invokevirtual 363, 3) := by decide +kernel
theorem dX11_writeLog_46 : decode cX11_writeLog 46 = .ok (.aload_n 0, 1) := by decide +kernel
theorem dX11_writeLog_47 : decode cX11_writeLog 47 = .ok (.getfield 50, 3) := by decide +kernel
theorem dX11_writeLog_50 : decode cX11_writeLog 50 = .ok (.aload_n 1, 1) := by decide +kernel
theorem dX11_writeLog_51 : decode cX11_writeLog 51 = .ok (.getfield 274, 3) := by decide +kernel
theorem dX11_writeLog_54 : decode cX11_writeLog 54 = .ok (.iload_n 2, 1) := by decide +kernel
theorem dX11_writeLog_55 : decode cX11_writeLog 55 = .ok (.caload, 1) := by decide +kernel
theorem dX11_writeLog_56 : decode cX11_writeLog 56 = .ok (.invokevirtual 370, 3) := by decide +kernel
theorem dX11_writeLog_59 : decode cX11_writeLog 59 = .ok (.aload_n 0, 1) := by decide +kernel
theorem dX11_writeLog_60 : decode cX11_writeLog 60 = .ok (.getfield 50, 3) := by decide +kernel
theorem dX11_writeLog_63 : decode cX11_writeLog 63 = .ok (.aload_n 1, 1) := by decide +kernel
theorem dX11_writeLog_64 : decode cX11_writeLog 64 = .ok (.getfield 278, 3) := by decide +kernel
theorem dX11_writeLog_67 : decode cX11_writeLog 67 = .ok (.iload_n 2, 1) := by decide +kernel
theorem dX11_writeLog_68 : decode cX11_writeLog 68 = .ok (.iaload, 1) := by decide +kernel
theorem dX11_writeLog_69 : decode cX11_writeLog 69 = .ok (.invokevirtual 363, 3) := by decide +kernel
theorem dX11_writeLog_72 : decode cX11_writeLog 72 = .ok (.iinc 2 1, 3) := by decide +kernel
theorem dX11_writeLog_75 : decode cX11_writeLog 75 = .ok (.goto (-58), 3) := by decide +kernel
theorem dX11_writeLog_78 : decode cX11_writeLog 78 = .ok (.aload_n 0, 1) := by decide +kernel
theorem dX11_writeLog_79 : decode cX11_writeLog 79 = .ok (.getfield 50, 3) := by decide +kernel
theorem dX11_writeLog_82 : decode cX11_writeLog 82 = .ok (.getfield 369, 3) := by decide +kernel
theorem dX11_writeLog_85 : decode cX11_writeLog 85 = .ok (.ireturn, 1) := by decide +kernel
theorem dX11_outputChar_0 : decode cX11_outputChar 0 = .ok (.iload_n 1, 1) := by decide +kernel
theorem dX11_outputChar_1 : decode cX11_outputChar 1 = .ok (.ifCond .lt 14, 3) := by decide +kernel
theorem dX11_outputChar_4 : decode cX11_outputChar 4 = .ok (.iload_n 1, 1) := by decide +kernel
theorem dX11_outputChar_5 : decode cX11_outputChar 5 = .ok (.aload_n 0, 1) := by decide +kernel
theorem dX11_outputChar_6 : decode cX11_outputChar 6 = .ok (.getfield 50, 3) := by decide +kernel
theorem dX11_outputChar_9 : decode cX11_outputChar 9 = .ok (.getfield 369, 3) := by decide +kernel
theorem dX11_outputChar_12 : decode cX11_outputChar 12 = .ok (.if_icmp .lt 14, 3) := by decide +kernel
theorem dX11_outputChar_15 : decode cX11_outputChar 15 = .ok (.new 374, 3) := by decide +kernel
theorem dX11_outputChar_18 : decode cX11_outputChar 18 = .ok (.dup, 1) := by decide +kernel
theorem dX11_outputChar_19 : decode cX11_outputChar 19 = .ok (.ldc_w 376, 3) := by decide +kernel
theorem dX11_outputChar_22 : decode cX11_outputChar 22 = .ok (.invokespecial 378, 3) := by decide +kernel
theorem dX11_outputChar_25 : decode cX11_outputChar 25 = .ok (.athrow, 1) := by decide +kernel
theorem dX11_outputChar_26 : decode cX11_outputChar 26 = .ok (.aload_n 0, 1) := by decide +kernel
theorem dX11_outputChar_27 : decode cX11_outputChar 27 = .ok (.getfield 50, 3) := by decide +kernel
theorem dX11_outputChar_30 : decode cX11_outputChar 30 = .ok (.getfield 379, 3) := by decide +kernel
theorem dX11_outputChar_33 : decode cX11_outputChar 33 = .ok (.iload_n 1, 1) := by decide +kernel
theorem dX11_outputChar_34 : decode cX11_outputChar 34 = .ok (.caload, 1) := by decide +kernel
theorem dX11_outputChar_35 : decode cX11_outputChar 35 = .ok (.ireturn, 1) := by decide +kernel
theorem dX11_undoCount_0 : decode cX11_undoCount 0 = .ok (.aload_n 0, 1) := by decide +kernel
theorem dX11_undoCount_1 : decode cX11_undoCount 1 = .ok (.getfield 19, 3) := by decide +kernel
theorem dX11_undoCount_4 : decode cX11_undoCount 4 = .ok (.getfield 382, 3) := by decide +kernel
theorem dX11_undoCount_7 : decode cX11_undoCount 7 = .ok (.ireturn, 1) := by decide +kernel
theorem dX11_undo_0 : decode cX11_undo 0 = .ok (.aload_n 0, 1) := by decide +kernel
theorem dX11_undo_1 : decode cX11_undo 1 = .ok (.getfield 19, 3) := by decide +kernel
theorem dX11_undo_4 : decode cX11_undo 4 = .ok (.getfield 382, 3) := by decide +kernel
theorem dX11_undo_7 : decode cX11_undo 7 = .ok (.ifCond .ne 14, 3) := by decide +kernel
theorem dX11_undo_10 : decode cX11_undo 10 = .ok (.new 309, 3) := by decide +kernel
theorem dX11_undo_13 : decode cX11_undo 13 = .ok (.dup, 1) := by decide +kernel
theorem dX11_undo_14 : decode cX11_undo 14 = .ok (.ldc_w 383, 3) := by decide +kernel
theorem dX11_undo_17 : decode cX11_undo 17 = .ok (.invokespecial 313, 3) := by decide +kernel
theorem dX11_undo_20 : decode cX11_undo 20 = .ok (.athrow, 1) := by decide +kernel
theorem dX11_undo_21 : decode cX11_undo 21 = .ok (.aload_n 0, 1) := by decide +kernel
theorem dX11_undo_22 : decode cX11_undo 22 = .ok (.getfield 10, 3) := by decide +kernel
theorem dX11_undo_25 : decode cX11_undo 25 = .ok (.aload_n 0, 1) := by decide +kernel
theorem dX11_undo_26 : decode cX11_undo 26 = .ok (.getfield 19, 3) := by decide +kernel
theorem dX11_undo_29 : decode cX11_undo 29 = .ok (.invokevirtual 385, 3) := by decide +kernel
theorem dX11_undo_32 : decode cX11_undo 32 = .ok (.invokevirtual 343, 3) := by decide +kernel
theorem dX11_undo_35 : decode cX11_undo 35 = .ok (.aload_n 0, 1) := by decide +kernel
theorem dX11_undo_36 : decode cX11_undo 36 = .ok (.getfield 19, 3) := by decide +kernel
theorem dX11_undo_39 : decode cX11_undo 39 = .ok (.getfield 382, 3) := by decide +kernel
theorem dX11_undo_42 : decode cX11_undo 42 = .ok (.ireturn, 1) := by decide +kernel
theorem dX11_save_0 : decode cX11_save 0 = .ok (.aload_n 0, 1) := by decide +kernel
theorem dX11_save_1 : decode cX11_save 1 = .ok (.getfield 23, 3) := by decide +kernel
theorem dX11_save_4 : decode cX11_save 4 = .ok (.aload_n 0, 1) := by decide +kernel
theorem dX11_save_5 : decode cX11_save 5 = .ok (.getfield 10, 3) := by decide +kernel
theorem dX11_save_8 : decode cX11_save 8 = .ok (.invokevirtual 343, 3) := by decide +kernel
theorem dX11_save_11 : decode cX11_save 11 = .ok (.aload_n 0, 1) := by decide +kernel
theorem dX11_save_12 : decode cX11_save 12 = .ok (.iconst 1, 1) := by decide +kernel
theorem dX11_save_13 : decode cX11_save 13 = .ok (.putfield 388, 3) := by decide +kernel
theorem dX11_save_16 : decode cX11_save 16 = .ok (.aload_n 0, 1) := by decide +kernel
theorem dX11_save_17 : decode cX11_save 17 = .ok (.getfield 10, 3) := by decide +kernel
theorem dX11_save_20 : decode cX11_save 20 = .ok (.getfield 115, 3) := by decide +kernel
theorem dX11_save_23 : decode cX11_save 23 = .ok (.getfield 119, 3) := by decide +kernel
theorem dX11_save_26 : decode cX11_save 26 = .ok (.ireturn, 1) := by decide +kernel
theorem dX11_restore_0 : decode cX11_restore 0 = .ok (.aload_n 0, 1) := by decide +kernel
theorem dX11_restore_1 : decode cX11_restore 1 = .ok (.getfield 388, 3) := by decide +kernel
theorem dX11_restore_4 : decode cX11_restore 4 = .ok (.ifCond .ne 14, 3) := by decide +kernel
theorem dX11_restore_7 : decode cX11_restore 7 = .ok (.new 309, 3) := by decide +kernel
theorem dX11_restore_10 : decode cX11_restore 10 = .ok (.dup, 1) := by decide +kernel
theorem dX11_restore_11 : decode cX11_restore 11 = .ok (.ldc_w 391, 3) := by decide +kernel
theorem dX11_restore_14 : decode cX11_restore 14 = .ok (.invokespecial 313, 3) := by decide +kernel
theorem dX11_restore_17 : decode cX11_restore 17 = .ok (.athrow, 1) := by decide +kernel
theorem dX11_restore_18 : decode cX11_restore 18 = .ok (.aload_n 0, 1) := by decide +kernel
theorem dX11_restore_19 : decode cX11_restore 19 = .ok (.getfield 10, 3) := by decide +kernel
theorem dX11_restore_22 : decode cX11_restore 22 = .ok (.aload_n 0, 1) := by decide +kernel
theorem dX11_restore_23 : decode cX11_restore 23 = .ok (.getfield 23, 3) := by decide +kernel
theorem dX11_restore_26 : decode cX11_restore 26 = .ok (.invokevirtual 343, 3) := by decide +kernel
theorem dX11_restore_29 : decode cX11_restore 29 = .ok (.aload_n 0, 1) := by decide +kernel
theorem dX11_restore_30 : decode cX11_restore 30 = .ok (.getfield 19, 3) := by decide +kernel
theorem dX11_restore_33 : decode cX11_restore 33 = .ok (.invokevirtual 393, 3) := by decide +kernel
theorem dX11_restore_36 : decode cX11_restore 36 = .ok (.aload_n 0, 1) := by decide +kernel
theorem dX11_restore_37 : decode cX11_restore 37 = .ok (.getfield 10, 3) := by decide +kernel
theorem dX11_restore_40 : decode cX11_restore 40 = .ok (.getfield 115, 3) := by decide +kernel
theorem dX11_restore_43 : decode cX11_restore 43 = .ok (.getfield 119, 3) := by decide +kernel
theorem dX11_restore_46 : decode cX11_restore 46 = .ok (.ireturn, 1) := by decide +kernel
theorem dX11_settle_0 : decode cX11_settle 0 = .ok (.iload_n 1, 1) := by decide +kernel
theorem dX11_settle_1 : decode cX11_settle 1 = .ok (.iconst (-1), 1) := by decide +kernel
theorem dX11_settle_2 : decode cX11_settle 2 = .ok (.if_icmp .ne 14, 3) := by decide +kernel
theorem dX11_settle_5 : decode cX11_settle 5 = .ok (.new 374, 3) := by decide +kernel
theorem dX11_settle_8 : decode cX11_settle 8 = .ok (.dup, 1) := by decide +kernel
theorem dX11_settle_9 : decode cX11_settle 9 = .ok (.ldc_w 394, 3) := by decide +kernel
theorem dX11_settle_12 : decode cX11_settle 12 = .ok (.invokespecial 378, 3) := by decide +kernel
theorem dX11_settle_15 : decode cX11_settle 15 = .ok (.athrow, 1) := by decide +kernel
theorem dX11_settle_16 : decode cX11_settle 16 = .ok (.iload_n 1, 1) := by decide +kernel
theorem dX11_settle_17 : decode cX11_settle 17 = .ok (.bipush (-2), 2) := by decide +kernel
theorem dX11_settle_19 : decode cX11_settle 19 = .ok (.if_icmp .ne 14, 3) := by decide +kernel
theorem dX11_settle_22 : decode cX11_settle 22 = .ok (.new 171, 3) := by decide +kernel
theorem dX11_settle_25 : decode cX11_settle 25 = .ok (.dup, 1) := by decide +kernel
theorem dX11_settle_26 : decode cX11_settle 26 = .ok (.ldc_w 396, 3) := by decide +kernel
theorem dX11_settle_29 : decode cX11_settle 29 = .ok (.invokespecial 175, 3) := by decide +kernel
theorem dX11_settle_32 : decode cX11_settle 32 = .ok (.athrow, 1) := by decide +kernel
theorem dX11_settle_33 : decode cX11_settle 33 = .ok (.iload_n 1, 1) := by decide +kernel
theorem dX11_settle_34 : decode cX11_settle 34 = .ok (.ifCond .eq 29, 3) := by decide +kernel
theorem dX11_settle_37 : decode cX11_settle 37 = .ok (.aload_n 0, 1) := by decide +kernel
theorem dX11_settle_38 : decode cX11_settle 38 = .ok (.iload_n 1, 1) := by decide +kernel
theorem dX11_settle_39 : decode cX11_settle 39 = .ok (.aload_n 0, 1) := by decide +kernel
theorem dX11_settle_40 : decode cX11_settle 40 = .ok (.getfield 10, 3) := by decide +kernel
theorem dX11_settle_43 : decode cX11_settle 43 = .ok (.iload_n 1, 1) := by decide +kernel
theorem dX11_settle_44 : decode cX11_settle 44 = .ok (.iload_n 2, 1) := by decide +kernel
theorem dX11_settle_45 : decode cX11_settle 45 = .ok (.invokevirtual 398, 3) := by decide +kernel
theorem dX11_settle_48 : decode cX11_settle 48 = .ok (.iconst (-1), 1) := by decide +kernel
theorem dX11_settle_49 : decode cX11_settle 49 = .ok (.invokevirtual 345, 3) := by decide +kernel
theorem dX11_settle_52 : decode cX11_settle 52 = .ok (.new 349, 3) := by decide +kernel
theorem dX11_settle_55 : decode cX11_settle 55 = .ok (.dup, 1) := by decide +kernel
theorem dX11_settle_56 : decode cX11_settle 56 = .ok (.ldc_w 401, 3) := by decide +kernel
theorem dX11_settle_59 : decode cX11_settle 59 = .ok (.invokespecial 353, 3) := by decide +kernel
theorem dX11_settle_62 : decode cX11_settle 62 = .ok (.athrow, 1) := by decide +kernel
theorem dX11_settle_63 : decode cX11_settle 63 = .ok (.aload_n 0, 1) := by decide +kernel
theorem dX11_settle_64 : decode cX11_settle 64 = .ok (.getfield 19, 3) := by decide +kernel
theorem dX11_settle_67 : decode cX11_settle 67 = .ok (.invokevirtual 354, 3) := by decide +kernel
theorem dX11_settle_70 : decode cX11_settle 70 = .ok (.aload_n 0, 1) := by decide +kernel
theorem dX11_settle_71 : decode cX11_settle 71 = .ok (.getfield 10, 3) := by decide +kernel
theorem dX11_settle_74 : decode cX11_settle 74 = .ok (.getfield 403, 3) := by decide +kernel
theorem dX11_settle_77 : decode cX11_settle 77 = .ok (.ireturn, 1) := by decide +kernel
theorem dX11_keepRefusal_0 : decode cX11_keepRefusal 0 = .ok (.aload_n 0, 1) := by decide +kernel
theorem dX11_keepRefusal_1 : decode cX11_keepRefusal 1 = .ok (.iload_n 1, 1) := by decide +kernel
theorem dX11_keepRefusal_2 : decode cX11_keepRefusal 2 = .ok (.putfield 54, 3) := by decide +kernel
theorem dX11_keepRefusal_5 : decode cX11_keepRefusal 5 = .ok (.aload_n 0, 1) := by decide +kernel
theorem dX11_keepRefusal_6 : decode cX11_keepRefusal 6 = .ok (.iload_n 2, 1) := by decide +kernel
theorem dX11_keepRefusal_7 : decode cX11_keepRefusal 7 = .ok (.putfield 301, 3) := by decide +kernel
theorem dX11_keepRefusal_10 : decode cX11_keepRefusal 10 = .ok (.aload_n 0, 1) := by decide +kernel
theorem dX11_keepRefusal_11 : decode cX11_keepRefusal 11 = .ok (.iload_n 3, 1) := by decide +kernel
theorem dX11_keepRefusal_12 : decode cX11_keepRefusal 12 = .ok (.putfield 58, 3) := by decide +kernel
theorem dX11_keepRefusal_15 : decode cX11_keepRefusal 15 = .ok (.return_, 1) := by decide +kernel
theorem dX11_requireHolder_0 : decode cX11_requireHolder 0 = .ok (.aload_n 0, 1) := by decide +kernel
theorem dX11_requireHolder_1 : decode cX11_requireHolder 1 = .ok (.getfield 10, 3) := by decide +kernel
theorem dX11_requireHolder_4 : decode cX11_requireHolder 4 = .ok (.getfield 115, 3) := by decide +kernel
theorem dX11_requireHolder_7 : decode cX11_requireHolder 7 = .ok (.iload_n 1, 1) := by decide +kernel
theorem dX11_requireHolder_8 : decode cX11_requireHolder 8 = .ok (.invokevirtual 406, 3) := by decide +kernel
theorem dX11_requireHolder_11 : decode cX11_requireHolder 11 = .ok (.ifCond .ne 14, 3) := by decide +kernel
theorem dX11_requireHolder_14 : decode cX11_requireHolder 14 = .ok (.new 374, 3) := by decide +kernel
theorem dX11_requireHolder_17 : decode cX11_requireHolder 17 = .ok (.dup, 1) := by decide +kernel
theorem dX11_requireHolder_18 : decode cX11_requireHolder 18 = .ok (.ldc_w 409, 3) := by decide +kernel
theorem dX11_requireHolder_21 : decode cX11_requireHolder 21 = .ok (.invokespecial 378, 3) := by decide +kernel
theorem dX11_requireHolder_24 : decode cX11_requireHolder 24 = .ok (.athrow, 1) := by decide +kernel
theorem dX11_requireHolder_25 : decode cX11_requireHolder 25 = .ok (.return_, 1) := by decide +kernel
theorem dX11_requireGuard_0 : decode cX11_requireGuard 0 = .ok (.aload_n 0, 1) := by decide +kernel
theorem dX11_requireGuard_1 : decode cX11_requireGuard 1 = .ok (.getfield 10, 3) := by decide +kernel
theorem dX11_requireGuard_4 : decode cX11_requireGuard 4 = .ok (.getfield 109, 3) := by decide +kernel
theorem dX11_requireGuard_7 : decode cX11_requireGuard 7 = .ok (.iload_n 1, 1) := by decide +kernel
theorem dX11_requireGuard_8 : decode cX11_requireGuard 8 = .ok (.invokevirtual 411, 3) := by decide +kernel
theorem dX11_requireGuard_11 : decode cX11_requireGuard 11 = .ok (.ifCond .ne 14, 3) := by decide +kernel
theorem dX11_requireGuard_14 : decode cX11_requireGuard 14 = .ok (.new 374, 3) := by decide +kernel
theorem dX11_requireGuard_17 : decode cX11_requireGuard 17 = .ok (.dup, 1) := by decide +kernel
theorem dX11_requireGuard_18 : decode cX11_requireGuard 18 = .ok (.ldc_w 414, 3) := by decide +kernel
theorem dX11_requireGuard_21 : decode cX11_requireGuard 21 = .ok (.invokespecial 378, 3) := by decide +kernel
theorem dX11_requireGuard_24 : decode cX11_requireGuard 24 = .ok (.athrow, 1) := by decide +kernel
theorem dX11_requireGuard_25 : decode cX11_requireGuard 25 = .ok (.return_, 1) := by decide +kernel
theorem dX11_requireGuards_0 : decode cX11_requireGuards 0 = .ok (.aload_n 0, 1) := by decide +kernel
theorem dX11_requireGuards_1 : decode cX11_requireGuards 1 = .ok (.getfield 10, 3) := by decide +kernel
theorem dX11_requireGuards_4 : decode cX11_requireGuards 4 = .ok (.getfield 109, 3) := by decide +kernel
theorem dX11_requireGuards_7 : decode cX11_requireGuards 7 = .ok (.getfield 201, 3) := by decide +kernel
theorem dX11_requireGuards_10 : decode cX11_requireGuards 10 = .ok (.ifCond .ne 14, 3) := by decide +kernel
theorem dX11_requireGuards_13 : decode cX11_requireGuards 13 = .ok (.new 151, 3) := by decide +kernel
theorem dX11_requireGuards_16 : decode cX11_requireGuards 16 = .ok (.dup, 1) := by decide +kernel
theorem dX11_requireGuards_17 : decode cX11_requireGuards 17 = .ok (.ldc_w 416, 3) := by decide +kernel
theorem dX11_requireGuards_20 : decode cX11_requireGuards 20 = .ok (.invokespecial 155, 3) := by decide +kernel
theorem dX11_requireGuards_23 : decode cX11_requireGuards 23 = .ok (.athrow, 1) := by decide +kernel
theorem dX11_requireGuards_24 : decode cX11_requireGuards 24 = .ok (.return_, 1) := by decide +kernel
theorem dX11_requireZone_0 : decode cX11_requireZone 0 = .ok (.iload_n 1, 1) := by decide +kernel
theorem dX11_requireZone_1 : decode cX11_requireZone 1 = .ok (.invokestatic 418, 3) := by decide +kernel
theorem dX11_requireZone_4 : decode cX11_requireZone 4 = .ok (.ifCond .ne 14, 3) := by decide +kernel
theorem dX11_requireZone_7 : decode cX11_requireZone 7 = .ok (.new 171, 3) := by decide +kernel
theorem dX11_requireZone_10 : decode cX11_requireZone 10 = .ok (.dup, 1) := by decide +kernel
theorem dX11_requireZone_11 : decode cX11_requireZone 11 = .ok (.ldc_w 421, 3) := by decide +kernel
theorem dX11_requireZone_14 : decode cX11_requireZone 14 = .ok (.invokespecial 175, 3) := by decide +kernel
theorem dX11_requireZone_17 : decode cX11_requireZone 17 = .ok (.athrow, 1) := by decide +kernel
theorem dX11_requireZone_18 : decode cX11_requireZone 18 = .ok (.return_, 1) := by decide +kernel
theorem dX11_requireSeal_0 : decode cX11_requireSeal 0 = .ok (.aload_n 0, 1) := by decide +kernel
theorem dX11_requireSeal_1 : decode cX11_requireSeal 1 = .ok (.getfield 10, 3) := by decide +kernel
theorem dX11_requireSeal_4 : decode cX11_requireSeal 4 = .ok (.getfield 115, 3) := by decide +kernel
theorem dX11_requireSeal_7 : decode cX11_requireSeal 7 = .ok (.getfield 124, 3) := by decide +kernel
theorem dX11_requireSeal_10 : decode cX11_requireSeal 10 = .ok (.ifCond .ne 14, 3) := by decide +kernel
theorem dX11_requireSeal_13 : decode cX11_requireSeal 13 = .ok (.new 151, 3) := by decide +kernel
theorem dX11_requireSeal_16 : decode cX11_requireSeal 16 = .ok (.dup, 1) := by decide +kernel
theorem dX11_requireSeal_17 : decode cX11_requireSeal 17 = .ok (.ldc_w 423, 3) := by decide +kernel
theorem dX11_requireSeal_20 : decode cX11_requireSeal 20 = .ok (.invokespecial 155, 3) := by decide +kernel
theorem dX11_requireSeal_23 : decode cX11_requireSeal 23 = .ok (.athrow, 1) := by decide +kernel
theorem dX11_requireSeal_24 : decode cX11_requireSeal 24 = .ok (.return_, 1) := by decide +kernel
theorem dX11_requireEnoughKeys_0 : decode cX11_requireEnoughKeys 0 = .ok (.aload_n 0, 1) := by decide +kernel
theorem dX11_requireEnoughKeys_1 : decode cX11_requireEnoughKeys 1 = .ok (.getfield 10, 3) := by decide +kernel
theorem dX11_requireEnoughKeys_4 : decode cX11_requireEnoughKeys 4 = .ok (.getfield 115, 3) := by decide +kernel
theorem dX11_requireEnoughKeys_7 : decode cX11_requireEnoughKeys 7 = .ok (.invokevirtual 425, 3) := by decide +kernel
theorem dX11_requireEnoughKeys_10 : decode cX11_requireEnoughKeys 10 = .ok (.ifCond .ne 14, 3) := by decide +kernel
theorem dX11_requireEnoughKeys_13 : decode cX11_requireEnoughKeys 13 = .ok (.new 151, 3) := by decide +kernel
theorem dX11_requireEnoughKeys_16 : decode cX11_requireEnoughKeys 16 = .ok (.dup, 1) := by decide +kernel
theorem dX11_requireEnoughKeys_17 : decode cX11_requireEnoughKeys 17 = .ok (.ldc_w 428, 3) := by decide +kernel
theorem dX11_requireEnoughKeys_20 : decode cX11_requireEnoughKeys 20 = .ok (.invokespecial 155, 3) := by decide +kernel
theorem dX11_requireEnoughKeys_23 : decode cX11_requireEnoughKeys 23 = .ok (.athrow, 1) := by decide +kernel
theorem dX11_requireEnoughKeys_24 : decode cX11_requireEnoughKeys 24 = .ok (.return_, 1) := by decide +kernel
theorem dX11_requireEntry_0 : decode cX11_requireEntry 0 = .ok (.iload_n 1, 1) := by decide +kernel
theorem dX11_requireEntry_1 : decode cX11_requireEntry 1 = .ok (.ifCond .lt 17, 3) := by decide +kernel
theorem dX11_requireEntry_4 : decode cX11_requireEntry 4 = .ok (.iload_n 1, 1) := by decide +kernel
theorem dX11_requireEntry_5 : decode cX11_requireEntry 5 = .ok (.aload_n 0, 1) := by decide +kernel
theorem dX11_requireEntry_6 : decode cX11_requireEntry 6 = .ok (.getfield 10, 3) := by decide +kernel
theorem dX11_requireEntry_9 : decode cX11_requireEntry 9 = .ok (.getfield 259, 3) := by decide +kernel
theorem dX11_requireEntry_12 : decode cX11_requireEntry 12 = .ok (.getfield 263, 3) := by decide +kernel
theorem dX11_requireEntry_15 : decode cX11_requireEntry 15 = .ok (.if_icmp .lt 14, 3) := by decide +kernel
theorem dX11_requireEntry_18 : decode cX11_requireEntry 18 = .ok (.new 151, 3) := by decide +kernel
theorem dX11_requireEntry_21 : decode cX11_requireEntry 21 = .ok (.dup, 1) := by decide +kernel
theorem dX11_requireEntry_22 : decode cX11_requireEntry 22 = .ok (.ldc_w 430, 3) := by decide +kernel
theorem dX11_requireEntry_25 : decode cX11_requireEntry 25 = .ok (.invokespecial 155, 3) := by decide +kernel
theorem dX11_requireEntry_28 : decode cX11_requireEntry 28 = .ok (.athrow, 1) := by decide +kernel
theorem dX11_requireEntry_29 : decode cX11_requireEntry 29 = .ok (.return_, 1) := by decide +kernel
theorem dX11_requireRefusal_0 : decode cX11_requireRefusal 0 = .ok (.aload_n 0, 1) := by decide +kernel
theorem dX11_requireRefusal_1 : decode cX11_requireRefusal 1 = .ok (.getfield 54, 3) := by decide +kernel
theorem dX11_requireRefusal_4 : decode cX11_requireRefusal 4 = .ok (.iconst (-1), 1) := by decide +kernel
theorem dX11_requireRefusal_5 : decode cX11_requireRefusal 5 = .ok (.if_icmp .ne 14, 3) := by decide +kernel
theorem dX11_requireRefusal_8 : decode cX11_requireRefusal 8 = .ok (.new 151, 3) := by decide +kernel
theorem dX11_requireRefusal_11 : decode cX11_requireRefusal 11 = .ok (.dup, 1) := by decide +kernel
theorem dX11_requireRefusal_12 : decode cX11_requireRefusal 12 = .ok (.ldc_w 432, 3) := by decide +kernel
theorem dX11_requireRefusal_15 : decode cX11_requireRefusal 15 = .ok (.invokespecial 155, 3) := by decide +kernel
theorem dX11_requireRefusal_18 : decode cX11_requireRefusal 18 = .ok (.athrow, 1) := by decide +kernel
theorem dX11_requireRefusal_19 : decode cX11_requireRefusal 19 = .ok (.return_, 1) := by decide +kernel
theorem dX11_visitByHours_0 : decode cX11_visitByHours 0 = .ok (.aload_n 0, 1) := by decide +kernel
theorem dX11_visitByHours_1 : decode cX11_visitByHours 1 = .ok (.getfield 29, 3) := by decide +kernel
theorem dX11_visitByHours_4 : decode cX11_visitByHours 4 = .ok (.aload_n 0, 1) := by decide +kernel
theorem dX11_visitByHours_5 : decode cX11_visitByHours 5 = .ok (.getfield 10, 3) := by decide +kernel
theorem dX11_visitByHours_8 : decode cX11_visitByHours 8 = .ok (.getfield 109, 3) := by decide +kernel
theorem dX11_visitByHours_11 : decode cX11_visitByHours 11 = .ok (.invokevirtual 238, 3) := by decide +kernel
theorem dX11_visitByHours_14 : decode cX11_visitByHours 14 = .ok (.iconst 0, 1) := by decide +kernel
theorem dX11_visitByHours_15 : decode cX11_visitByHours 15 = .ok (.istore_n 2, 1) := by decide +kernel
theorem dX11_visitByHours_16 : decode cX11_visitByHours 16 = .ok (.iload_n 2, 1) := by decide +kernel
theorem dX11_visitByHours_17 : decode cX11_visitByHours 17 = .ok (.bipush 32, 2) := by decide +kernel
theorem dX11_visitByHours_19 : decode cX11_visitByHours 19 = .ok (.if_icmp .ge 27, 3) := by decide +kernel
theorem dX11_visitByHours_22 : decode cX11_visitByHours 22 = .ok (.aload_n 0, 1) := by decide +kernel
theorem dX11_visitByHours_23 : decode cX11_visitByHours 23 = .ok (.getfield 29, 3) := by decide +kernel
theorem dX11_visitByHours_26 : decode cX11_visitByHours 26 = .ok (.iload_n 1, 1) := by decide +kernel
theorem dX11_visitByHours_27 : decode cX11_visitByHours 27 = .ok (.invokevirtual 220, 3) := by decide +kernel
theorem dX11_visitByHours_30 : decode cX11_visitByHours 30 = .ok (.ifCond .ne 16, 3) := by decide +kernel
theorem dX11_visitByHours_33 : decode cX11_visitByHours 33 = .ok (.aload_n 0, 1) := by decide +kernel
theorem dX11_visitByHours_34 : decode cX11_visitByHours 34 = .ok (.getfield 29, 3) := by decide +kernel
theorem dX11_visitByHours_37 : decode cX11_visitByHours 37 = .ok (.invokevirtual 434, 3) := by decide +kernel
theorem dX11_visitByHours_40 : decode cX11_visitByHours 40 = .ok (.iinc 2 1, 3) := by decide +kernel
theorem dX11_visitByHours_43 : decode cX11_visitByHours 43 = .ok (.goto (-27), 3) := by decide +kernel
theorem dX11_visitByHours_46 : decode cX11_visitByHours 46 = .ok (.iload_n 2, 1) := by decide +kernel
theorem dX11_visitByHours_47 : decode cX11_visitByHours 47 = .ok (.ireturn, 1) := by decide +kernel
theorem dX11_doVisitsMatch_0 : decode cX11_doVisitsMatch 0 = .ok (.aload_n 0, 1) := by decide +kernel
theorem dX11_doVisitsMatch_1 : decode cX11_doVisitsMatch 1 = .ok (.getfield 10, 3) := by decide +kernel
theorem dX11_doVisitsMatch_4 : decode cX11_doVisitsMatch 4 = .ok (.getfield 109, 3) := by decide +kernel
theorem dX11_doVisitsMatch_7 : decode cX11_doVisitsMatch 7 = .ok (.getfield 201, 3) := by decide +kernel
theorem dX11_doVisitsMatch_10 : decode cX11_doVisitsMatch 10 = .ok (.ifCond .ne 5, 3) := by decide +kernel
theorem dX11_doVisitsMatch_13 : decode cX11_doVisitsMatch 13 = .ok (.iconst 1, 1) := by decide +kernel
theorem dX11_doVisitsMatch_14 : decode cX11_doVisitsMatch 14 = .ok (.ireturn, 1) := by decide +kernel
theorem dX11_doVisitsMatch_15 : decode cX11_doVisitsMatch 15 = .ok (.iconst 0, 1) := by decide +kernel
theorem dX11_doVisitsMatch_16 : decode cX11_doVisitsMatch 16 = .ok (.istore_n 1, 1) := by decide +kernel
theorem dX11_doVisitsMatch_17 : decode cX11_doVisitsMatch 17 = .ok (.iload_n 1, 1) := by decide +kernel
theorem dX11_doVisitsMatch_18 : decode cX11_doVisitsMatch 18 = .ok (.bipush 8, 2) := by decide +kernel
theorem dX11_doVisitsMatch_20 : decode cX11_doVisitsMatch 20 = .ok (.if_icmp .ge 30, 3) := by decide +kernel
theorem dX11_doVisitsMatch_23 : decode cX11_doVisitsMatch 23 = .ok (.aload_n 0, 1) := by decide +kernel
theorem dX11_doVisitsMatch_24 : decode cX11_doVisitsMatch 24 = .ok (.iload_n 1, 1) := by decide +kernel
theorem dX11_doVisitsMatch_25 : decode cX11_doVisitsMatch 25 = .ok (.invokevirtual 230, 3) := by decide +kernel
theorem dX11_doVisitsMatch_28 : decode cX11_doVisitsMatch 28 = .ok (.aload_n 0, 1) := by decide +kernel
theorem dX11_doVisitsMatch_29 : decode cX11_doVisitsMatch 29 = .ok (.getfield 10, 3) := by decide +kernel
theorem dX11_doVisitsMatch_32 : decode cX11_doVisitsMatch 32 = .ok (.getfield 109, 3) := by decide +kernel
theorem dX11_doVisitsMatch_35 : decode cX11_doVisitsMatch 35 = .ok (.iload_n 1, 1) := by decide +kernel
theorem dX11_doVisitsMatch_36 : decode cX11_doVisitsMatch 36 = .ok (.invokevirtual 233, 3) := by decide +kernel
theorem dX11_doVisitsMatch_39 : decode cX11_doVisitsMatch 39 = .ok (.if_icmp .eq 5, 3) := by decide +kernel
theorem dX11_doVisitsMatch_42 : decode cX11_doVisitsMatch 42 = .ok (.iconst 0, 1) := by decide +kernel
theorem dX11_doVisitsMatch_43 : decode cX11_doVisitsMatch 43 = .ok (.ireturn, 1) := by decide +kernel
theorem dX11_doVisitsMatch_44 : decode cX11_doVisitsMatch 44 = .ok (.iinc 1 1, 3) := by decide +kernel
theorem dX11_doVisitsMatch_47 : decode cX11_doVisitsMatch 47 = .ok (.goto (-30), 3) := by decide +kernel
theorem dX11_doVisitsMatch_50 : decode cX11_doVisitsMatch 50 = .ok (.iconst 1, 1) := by decide +kernel
theorem dX11_doVisitsMatch_51 : decode cX11_doVisitsMatch 51 = .ok (.ireturn, 1) := by decide +kernel
theorem dX11_doTellingsMatch_0 : decode cX11_doTellingsMatch 0 = .ok (.aload_n 0, 1) := by decide +kernel
theorem dX11_doTellingsMatch_1 : decode cX11_doTellingsMatch 1 = .ok (.getfield 10, 3) := by decide +kernel
theorem dX11_doTellingsMatch_4 : decode cX11_doTellingsMatch 4 = .ok (.getfield 115, 3) := by decide +kernel
theorem dX11_doTellingsMatch_7 : decode cX11_doTellingsMatch 7 = .ok (.astore_n 1, 1) := by decide +kernel
theorem dX11_doTellingsMatch_8 : decode cX11_doTellingsMatch 8 = .ok (.aload_n 1, 1) := by decide +kernel
theorem dX11_doTellingsMatch_9 : decode cX11_doTellingsMatch 9 = .ok (.invokevirtual 425, 3) := by decide +kernel
theorem dX11_doTellingsMatch_12 : decode cX11_doTellingsMatch 12 = .ok (.ifCond .ne 5, 3) := by decide +kernel
theorem dX11_doTellingsMatch_15 : decode cX11_doTellingsMatch 15 = .ok (.iconst 1, 1) := by decide +kernel
theorem dX11_doTellingsMatch_16 : decode cX11_doTellingsMatch 16 = .ok (.ireturn, 1) := by decide +kernel
theorem dX11_doTellingsMatch_17 : decode cX11_doTellingsMatch 17 = .ok (.aload_n 1, 1) := by decide +kernel
theorem dX11_doTellingsMatch_18 : decode cX11_doTellingsMatch 18 = .ok (.iconst 0, 1) := by decide +kernel
theorem dX11_doTellingsMatch_19 : decode cX11_doTellingsMatch 19 = .ok (.invokevirtual 164, 3) := by decide +kernel
theorem dX11_doTellingsMatch_22 : decode cX11_doTellingsMatch 22 = .ok (.aload_n 0, 1) := by decide +kernel
theorem dX11_doTellingsMatch_23 : decode cX11_doTellingsMatch 23 = .ok (.getfield 36, 3) := by decide +kernel
theorem dX11_doTellingsMatch_26 : decode cX11_doTellingsMatch 26 = .ok (.aload_n 1, 1) := by decide +kernel
theorem dX11_doTellingsMatch_27 : decode cX11_doTellingsMatch 27 = .ok (.invokevirtual 167, 3) := by decide +kernel
theorem dX11_doTellingsMatch_30 : decode cX11_doTellingsMatch 30 = .ok (.if_icmp .ne 26, 3) := by decide +kernel
theorem dX11_doTellingsMatch_33 : decode cX11_doTellingsMatch 33 = .ok (.aload_n 0, 1) := by decide +kernel
theorem dX11_doTellingsMatch_34 : decode cX11_doTellingsMatch 34 = .ok (.getfield 36, 3) := by decide +kernel
theorem dX11_doTellingsMatch_37 : decode cX11_doTellingsMatch 37 = .ok (.aload_n 1, 1) := by decide +kernel
theorem dX11_doTellingsMatch_38 : decode cX11_doTellingsMatch 38 = .ok (.invokevirtual 180, 3) := by decide +kernel
theorem dX11_doTellingsMatch_41 : decode cX11_doTellingsMatch 41 = .ok (.aload_n 0, 1) := by decide +kernel
theorem dX11_doTellingsMatch_42 : decode cX11_doTellingsMatch 42 = .ok (.getfield 36, 3) := by decide +kernel
theorem dX11_doTellingsMatch_45 : decode cX11_doTellingsMatch 45 = .ok (.aload_n 1, 1) := by decide +kernel
theorem dX11_doTellingsMatch_46 : decode cX11_doTellingsMatch 46 = .ok (.invokevirtual 183, 3) := by decide +kernel
theorem dX11_doTellingsMatch_49 : decode cX11_doTellingsMatch 49 = .ok (.if_icmp .ne 7, 3) := by decide +kernel
theorem dX11_doTellingsMatch_52 : decode cX11_doTellingsMatch 52 = .ok (.iconst 1, 1) := by decide +kernel
theorem dX11_doTellingsMatch_53 : decode cX11_doTellingsMatch 53 = .ok (.goto 4, 3) := by decide +kernel
theorem dX11_doTellingsMatch_56 : decode cX11_doTellingsMatch 56 = .ok (.iconst 0, 1) := by decide +kernel
theorem dX11_doTellingsMatch_57 : decode cX11_doTellingsMatch 57 = .ok (.ireturn, 1) := by decide +kernel
theorem dX11_putGuardsIn_0 : decode cX11_putGuardsIn 0 = .ok (.aload_n 0, 1) := by decide +kernel
theorem dX11_putGuardsIn_1 : decode cX11_putGuardsIn 1 = .ok (.getfield 10, 3) := by decide +kernel
theorem dX11_putGuardsIn_4 : decode cX11_putGuardsIn 4 = .ok (.getfield 109, 3) := by decide +kernel
theorem dX11_putGuardsIn_7 : decode cX11_putGuardsIn 7 = .ok (.astore_n 2, 1) := by decide +kernel
theorem dX11_putGuardsIn_8 : decode cX11_putGuardsIn 8 = .ok (.iconst 0, 1) := by decide +kernel
theorem dX11_putGuardsIn_9 : decode cX11_putGuardsIn 9 = .ok (.istore_n 3, 1) := by decide +kernel
theorem dX11_putGuardsIn_10 : decode cX11_putGuardsIn 10 = .ok (.iload_n 3, 1) := by decide +kernel
theorem dX11_putGuardsIn_11 : decode cX11_putGuardsIn 11 = .ok (.aload_n 2, 1) := by decide +kernel
theorem dX11_putGuardsIn_12 : decode cX11_putGuardsIn 12 = .ok (.getfield 201, 3) := by decide +kernel
theorem dX11_putGuardsIn_15 : decode cX11_putGuardsIn 15 = .ok (.if_icmp .ge 42, 3) := by decide +kernel
theorem dX11_putGuardsIn_18 : decode cX11_putGuardsIn 18 = .ok (.aload_n 2, 1) := by decide +kernel
theorem dX11_putGuardsIn_19 : decode cX11_putGuardsIn 19 = .ok (.getfield 207, 3) := by decide +kernel
theorem dX11_putGuardsIn_22 : decode cX11_putGuardsIn 22 = .ok (.iload_n 3, 1) := by decide +kernel
theorem dX11_putGuardsIn_23 : decode cX11_putGuardsIn 23 = .ok (.iaload, 1) := by decide +kernel
theorem dX11_putGuardsIn_24 : decode cX11_putGuardsIn 24 = .ok (.iload_n 1, 1) := by decide +kernel
theorem dX11_putGuardsIn_25 : decode cX11_putGuardsIn 25 = .ok (.if_icmp .ne 26, 3) := by decide +kernel
theorem dX11_putGuardsIn_28 : decode cX11_putGuardsIn 28 = .ok (.aload_n 0, 1) := by decide +kernel
theorem dX11_putGuardsIn_29 : decode cX11_putGuardsIn 29 = .ok (.getfield 50, 3) := by decide +kernel
theorem dX11_putGuardsIn_32 : decode cX11_putGuardsIn 32 = .ok (.aload_n 2, 1) := by decide +kernel
theorem dX11_putGuardsIn_33 : decode cX11_putGuardsIn 33 = .ok (.getfield 210, 3) := by decide +kernel
theorem dX11_putGuardsIn_36 : decode cX11_putGuardsIn 36 = .ok (.iload_n 3, 1) := by decide +kernel
theorem dX11_putGuardsIn_37 : decode cX11_putGuardsIn 37 = .ok (.baload, 1) := by decide +kernel
theorem dX11_putGuardsIn_38 : decode cX11_putGuardsIn 38 = .ok (.ifCond .eq 8, 3) := by decide +kernel
theorem dX11_putGuardsIn_41 : decode cX11_putGuardsIn 41 = .ok (.bipush 62, 2) := by decide +kernel
theorem dX11_putGuardsIn_43 : decode cX11_putGuardsIn 43 = .ok (.goto 5, 3) := by decide +kernel
theorem dX11_putGuardsIn_46 : decode cX11_putGuardsIn 46 = .ok (.bipush 60, 2) := by decide +kernel
theorem dX11_putGuardsIn_48 : decode cX11_putGuardsIn 48 = .ok (.invokevirtual 370, 3) := by decide +kernel
theorem dX11_putGuardsIn_51 : decode cX11_putGuardsIn 51 = .ok (.iinc 3 1, 3) := by decide +kernel
theorem dX11_putGuardsIn_54 : decode cX11_putGuardsIn 54 = .ok (.goto (-44), 3) := by decide +kernel
theorem dX11_putGuardsIn_57 : decode cX11_putGuardsIn 57 = .ok (.return_, 1) := by decide +kernel
theorem dX12_init_0 : decode cX12_init 0 = .ok (.aload_n 0, 1) := by decide +kernel
theorem dX12_init_1 : decode cX12_init 1 = .ok (.invokespecial 1, 3) := by decide +kernel
theorem dX12_init_4 : decode cX12_init 4 = .ok (.aload_n 0, 1) := by decide +kernel
theorem dX12_init_5 : decode cX12_init 5 = .ok (.bipush 92, 2) := by decide +kernel
theorem dX12_init_7 : decode cX12_init 7 = .ok (.newarray .int, 2) := by decide +kernel
theorem dX12_init_9 : decode cX12_init 9 = .ok (.putfield 7, 3) := by decide +kernel
theorem dX12_init_12 : decode cX12_init 12 = .ok (.aload_n 0, 1) := by decide +kernel
theorem dX12_init_13 : decode cX12_init 13 = .ok (.bipush 92, 2) := by decide +kernel
theorem dX12_init_15 : decode cX12_init 15 = .ok (.newarray .int, 2) := by decide +kernel
theorem dX12_init_17 : decode cX12_init 17 = .ok (.putfield 13, 3) := by decide +kernel
theorem dX12_init_20 : decode cX12_init 20 = .ok (.aload_n 0, 1) := by decide +kernel
theorem dX12_init_21 : decode cX12_init 21 = .ok (.bipush 92, 2) := by decide +kernel
theorem dX12_init_23 : decode cX12_init 23 = .ok (.newarray .int, 2) := by decide +kernel
theorem dX12_init_25 : decode cX12_init 25 = .ok (.putfield 16, 3) := by decide +kernel
theorem dX12_init_28 : decode cX12_init 28 = .ok (.aload_n 0, 1) := by decide +kernel
theorem dX12_init_29 : decode cX12_init 29 = .ok (.sipush 736, 3) := by decide +kernel
theorem dX12_init_32 : decode cX12_init 32 = .ok (.newarray .int, 2) := by decide +kernel
theorem dX12_init_34 : decode cX12_init 34 = .ok (.putfield 19, 3) := by decide +kernel
theorem dX12_init_37 : decode cX12_init 37 = .ok (.aload_n 0, 1) := by decide +kernel
theorem dX12_init_38 : decode cX12_init 38 = .ok (.bipush 92, 2) := by decide +kernel
theorem dX12_init_40 : decode cX12_init 40 = .ok (.newarray .int, 2) := by decide +kernel
theorem dX12_init_42 : decode cX12_init 42 = .ok (.putfield 22, 3) := by decide +kernel
theorem dX12_init_45 : decode cX12_init 45 = .ok (.aload_n 0, 1) := by decide +kernel
theorem dX12_init_46 : decode cX12_init 46 = .ok (.bipush 60, 2) := by decide +kernel
theorem dX12_init_48 : decode cX12_init 48 = .ok (.newarray .int, 2) := by decide +kernel
theorem dX12_init_50 : decode cX12_init 50 = .ok (.putfield 25, 3) := by decide +kernel
theorem dX12_init_53 : decode cX12_init 53 = .ok (.aload_n 0, 1) := by decide +kernel
theorem dX12_init_54 : decode cX12_init 54 = .ok (.sipush 360, 3) := by decide +kernel
theorem dX12_init_57 : decode cX12_init 57 = .ok (.newarray .int, 2) := by decide +kernel
theorem dX12_init_59 : decode cX12_init 59 = .ok (.putfield 28, 3) := by decide +kernel
theorem dX12_init_62 : decode cX12_init 62 = .ok (.aload_n 0, 1) := by decide +kernel
theorem dX12_init_63 : decode cX12_init 63 = .ok (.sipush 140, 3) := by decide +kernel
theorem dX12_init_66 : decode cX12_init 66 = .ok (.newarray .int, 2) := by decide +kernel
theorem dX12_init_68 : decode cX12_init 68 = .ok (.putfield 31, 3) := by decide +kernel
theorem dX12_init_71 : decode cX12_init 71 = .ok (.aload_n 0, 1) := by decide +kernel
theorem dX12_init_72 : decode cX12_init 72 = .ok (.iconst 3, 1) := by decide +kernel
theorem dX12_init_73 : decode cX12_init 73 = .ok (.newarray .int, 2) := by decide +kernel
theorem dX12_init_75 : decode cX12_init 75 = .ok (.putfield 34, 3) := by decide +kernel
theorem dX12_init_78 : decode cX12_init 78 = .ok (.aload_n 0, 1) := by decide +kernel
theorem dX12_init_79 : decode cX12_init 79 = .ok (.iconst (-1), 1) := by decide +kernel
theorem dX12_init_80 : decode cX12_init 80 = .ok (.putfield 37, 3) := by decide +kernel
theorem dX12_init_83 : decode cX12_init 83 = .ok (.return_, 1) := by decide +kernel
theorem dX12_thrown_0 : decode cX12_thrown 0 = .ok (.aload_n 0, 1) := by decide +kernel
theorem dX12_thrown_1 : decode cX12_thrown 1 = .ok (.getfield 41, 3) := by decide +kernel
theorem dX12_thrown_4 : decode cX12_thrown 4 = .ok (.ireturn, 1) := by decide +kernel
theorem dX12_fails_0 : decode cX12_fails 0 = .ok (.aload_n 0, 1) := by decide +kernel
theorem dX12_fails_1 : decode cX12_fails 1 = .ok (.iload_n 1, 1) := by decide +kernel
theorem dX12_fails_2 : decode cX12_fails 2 = .ok (.putfield 41, 3) := by decide +kernel
theorem dX12_fails_5 : decode cX12_fails 5 = .ok (.iconst 0, 1) := by decide +kernel
theorem dX12_fails_6 : decode cX12_fails 6 = .ok (.ireturn, 1) := by decide +kernel
theorem dX12_in_0 : decode cX12_in 0 = .ok (.iload_n 0, 1) := by decide +kernel
theorem dX12_in_1 : decode cX12_in 1 = .ok (.iload_n 1, 1) := by decide +kernel
theorem dX12_in_2 : decode cX12_in 2 = .ok (.if_icmp .lt 12, 3) := by decide +kernel
theorem dX12_in_5 : decode cX12_in 5 = .ok (.iload_n 0, 1) := by decide +kernel
theorem dX12_in_6 : decode cX12_in 6 = .ok (.iload_n 2, 1) := by decide +kernel
theorem dX12_in_7 : decode cX12_in 7 = .ok (.if_icmp .gt 7, 3) := by decide +kernel
theorem dX12_in_10 : decode cX12_in 10 = .ok (.iconst 1, 1) := by decide +kernel
theorem dX12_in_11 : decode cX12_in 11 = .ok (.goto 4, 3) := by decide +kernel
theorem dX12_in_14 : decode cX12_in 14 = .ok (.iconst 0, 1) := by decide +kernel
theorem dX12_in_15 : decode cX12_in 15 = .ok (.ireturn, 1) := by decide +kernel
theorem dX12_remembers_0 : decode cX12_remembers 0 = .ok (.aload_n 0, 1) := by decide +kernel
theorem dX12_remembers_1 : decode cX12_remembers 1 = .ok (.iconst 0, 1) := by decide +kernel
theorem dX12_remembers_2 : decode cX12_remembers 2 = .ok (.putfield 41, 3) := by decide +kernel
theorem dX12_remembers_5 : decode cX12_remembers 5 = .ok (.iconst 0, 1) := by decide +kernel
theorem dX12_remembers_6 : decode cX12_remembers 6 = .ok (.istore_n 1, 1) := by decide +kernel
theorem dX12_remembers_7 : decode cX12_remembers 7 = .ok (.iload_n 1, 1) := by decide +kernel
theorem dX12_remembers_8 : decode cX12_remembers 8 = .ok (.bipush 92, 2) := by decide +kernel
theorem dX12_remembers_10 : decode cX12_remembers 10 = .ok (.if_icmp .ge 21, 3) := by decide +kernel
theorem dX12_remembers_13 : decode cX12_remembers 13 = .ok (.aload_n 0, 1) := by decide +kernel
theorem dX12_remembers_14 : decode cX12_remembers 14 = .ok (.getfield 13, 3) := by decide +kernel
theorem dX12_remembers_17 : decode cX12_remembers 17 = .ok (.iload_n 1, 1) := by decide +kernel
theorem dX12_remembers_18 : decode cX12_remembers 18 = .ok (.aload_n 0, 1) := by decide +kernel
theorem dX12_remembers_19 : decode cX12_remembers 19 = .ok (.getfield 7, 3) := by decide +kernel
theorem dX12_remembers_22 : decode cX12_remembers 22 = .ok (.iload_n 1, 1) := by decide +kernel
theorem dX12_remembers_23 : decode cX12_remembers 23 = .ok (.iaload, 1) := by decide +kernel
theorem dX12_remembers_24 : decode cX12_remembers 24 = .ok (.iastore, 1) := by decide +kernel
theorem dX12_remembers_25 : decode cX12_remembers 25 = .ok (.iinc 1 1, 3) := by decide +kernel
theorem dX12_remembers_28 : decode cX12_remembers 28 = .ok (.goto (-21), 3) := by decide +kernel
theorem dX12_remembers_31 : decode cX12_remembers 31 = .ok (.return_, 1) := by decide +kernel
theorem dX12_changed_0 : decode cX12_changed 0 = .ok (.aload_n 0, 1) := by decide +kernel
theorem dX12_changed_1 : decode cX12_changed 1 = .ok (.getfield 44, 3) := by decide +kernel
theorem dX12_changed_4 : decode cX12_changed 4 = .ok (.bipush 8, 2) := by decide +kernel
theorem dX12_changed_6 : decode cX12_changed 6 = .ok (.if_icmp .ne 36, 3) := by decide +kernel
theorem dX12_changed_9 : decode cX12_changed 9 = .ok (.iconst 0, 1) := by decide +kernel
theorem dX12_changed_10 : decode cX12_changed 10 = .ok (.istore_n 2, 1) := by decide +kernel
theorem dX12_changed_11 : decode cX12_changed 11 = .ok (.iload_n 2, 1) := by decide +kernel
theorem dX12_changed_12 : decode cX12_changed 12 = .ok (.sipush 644, 3) := by decide +kernel
theorem dX12_changed_15 : decode cX12_changed 15 = .ok (.if_icmp .ge 24, 3) := by decide +kernel
theorem dX12_changed_18 : decode cX12_changed 18 = .ok (.aload_n 0, 1) := by decide +kernel
theorem dX12_changed_19 : decode cX12_changed 19 = .ok (.getfield 19, 3) := by decide +kernel
theorem dX12_changed_22 : decode cX12_changed 22 = .ok (.iload_n 2, 1) := by decide +kernel
theorem dX12_changed_23 : decode cX12_changed 23 = .ok (.aload_n 0, 1) := by decide +kernel
theorem dX12_changed_24 : decode cX12_changed 24 = .ok (.getfield 19, 3) := by decide +kernel
theorem dX12_changed_27 : decode cX12_changed 27 = .ok (.iload_n 2, 1) := by decide +kernel
theorem dX12_changed_28 : decode cX12_changed 28 = .ok (.bipush 92, 2) := by decide +kernel
theorem dX12_changed_30 : decode cX12_changed 30 = .ok (.iadd, 1) := by decide +kernel
theorem dX12_changed_31 : decode cX12_changed 31 = .ok (.iaload, 1) := by decide +kernel
theorem dX12_changed_32 : decode cX12_changed 32 = .ok (.iastore, 1) := by decide +kernel
theorem dX12_changed_33 : decode cX12_changed 33 = .ok (.iinc 2 1, 3) := by decide +kernel
theorem dX12_changed_36 : decode cX12_changed 36 = .ok (.goto (-25), 3) := by decide +kernel
theorem dX12_changed_39 : decode cX12_changed 39 = .ok (.goto 13, 3) := by decide +kernel
theorem dX12_changed_42 : decode cX12_changed 42 = .ok (.aload_n 0, 1) := by decide +kernel
theorem dX12_changed_43 : decode cX12_changed 43 = .ok (.dup, 1) := by decide +kernel
theorem dX12_changed_44 : decode cX12_changed 44 = .ok (.getfield 44, 3) := by decide +kernel
theorem dX12_changed_47 : decode cX12_changed 47 = .ok (.iconst 1, 1) := by decide +kernel
theorem dX12_changed_48 : decode cX12_changed 48 = .ok (.iadd, 1) := by decide +kernel
theorem dX12_changed_49 : decode cX12_changed 49 = .ok (.putfield 44, 3) := by decide +kernel
theorem dX12_changed_52 : decode cX12_changed 52 = .ok (.iconst 0, 1) := by decide +kernel
theorem dX12_changed_53 : decode cX12_changed 53 = .ok (.istore_n 2, 1) := by decide +kernel
theorem dX12_changed_54 : decode cX12_changed 54 = .ok (.iload_n 2, 1) := by decide +kernel
theorem dX12_changed_55 : decode cX12_changed 55 = .ok (.bipush 92, 2) := by decide +kernel
theorem dX12_changed_57 : decode cX12_changed 57 = .ok (.if_icmp .ge 31, 3) := by decide +kernel
theorem dX12_changed_60 : decode cX12_changed 60 = .ok (.aload_n 0, 1) := by decide +kernel
theorem dX12_changed_61 : decode cX12_changed 61 = .ok (.getfield 19, 3) := by decide +kernel
theorem dX12_changed_64 : decode cX12_changed 64 = .ok (.bipush 92, 2) := by decide +kernel
theorem dX12_changed_66 : decode cX12_changed 66 = .ok (.aload_n 0, 1) := by decide +kernel
theorem dX12_changed_67 : decode cX12_changed 67 = .ok (.getfield 44, 3) := by decide +kernel
theorem dX12_changed_70 : decode cX12_changed 70 = .ok (.iconst 1, 1) := by decide +kernel
theorem dX12_changed_71 : decode cX12_changed 71 = .ok (.isub, 1) := by decide +kernel
theorem dX12_changed_72 : decode cX12_changed 72 = .ok (.imul, 1) := by decide +kernel
theorem dX12_changed_73 : decode cX12_changed 73 = .ok (.iload_n 2, 1) := by decide +kernel
theorem dX12_changed_74 : decode cX12_changed 74 = .ok (.iadd, 1) := by decide +kernel
theorem dX12_changed_75 : decode cX12_changed 75 = .ok (.aload_n 0, 1) := by decide +kernel
theorem dX12_changed_76 : decode cX12_changed 76 = .ok (.getfield 13, 3) := by decide +kernel
theorem dX12_changed_79 : decode cX12_changed 79 = .ok (.iload_n 2, 1) := by decide +kernel
theorem dX12_changed_80 : decode cX12_changed 80 = .ok (.iaload, 1) := by decide +kernel
theorem dX12_changed_81 : decode cX12_changed 81 = .ok (.iastore, 1) := by decide +kernel
theorem dX12_changed_82 : decode cX12_changed 82 = .ok (.iinc 2 1, 3) := by decide +kernel
theorem dX12_changed_85 : decode cX12_changed 85 = .ok (.goto (-31), 3) := by decide +kernel
theorem dX12_changed_88 : decode cX12_changed 88 = .ok (.iload_n 1, 1) := by decide +kernel
theorem dX12_changed_89 : decode cX12_changed 89 = .ok (.ireturn, 1) := by decide +kernel
theorem dX12_done_0 : decode cX12_done 0 = .ok (.aload_n 0, 1) := by decide +kernel
theorem dX12_done_1 : decode cX12_done 1 = .ok (.iload_n 1, 1) := by decide +kernel
theorem dX12_done_2 : decode cX12_done 2 = .ok (.putfield 47, 3) := by decide +kernel
theorem dX12_done_5 : decode cX12_done 5 = .ok (.iconst 0, 1) := by decide +kernel
theorem dX12_done_6 : decode cX12_done 6 = .ok (.ireturn, 1) := by decide +kernel
theorem dX12_refused_0 : decode cX12_refused 0 = .ok (.aload_n 0, 1) := by decide +kernel
theorem dX12_refused_1 : decode cX12_refused 1 = .ok (.iload_n 1, 1) := by decide +kernel
theorem dX12_refused_2 : decode cX12_refused 2 = .ok (.putfield 50, 3) := by decide +kernel
theorem dX12_refused_5 : decode cX12_refused 5 = .ok (.aload_n 0, 1) := by decide +kernel
theorem dX12_refused_6 : decode cX12_refused 6 = .ok (.iload_n 2, 1) := by decide +kernel
theorem dX12_refused_7 : decode cX12_refused 7 = .ok (.putfield 53, 3) := by decide +kernel
theorem dX12_refused_10 : decode cX12_refused 10 = .ok (.aload_n 0, 1) := by decide +kernel
theorem dX12_refused_11 : decode cX12_refused 11 = .ok (.iconst 0, 1) := by decide +kernel
theorem dX12_refused_12 : decode cX12_refused 12 = .ok (.putfield 56, 3) := by decide +kernel
theorem dX12_refused_15 : decode cX12_refused 15 = .ok (.iload_n 1, 1) := by decide +kernel
theorem dX12_refused_16 : decode cX12_refused 16 = .ok (.ineg, 1) := by decide +kernel
theorem dX12_refused_17 : decode cX12_refused 17 = .ok (.ireturn, 1) := by decide +kernel
theorem dX12_ends_0 : decode cX12_ends 0 = .ok (.iload_n 1, 1) := by decide +kernel
theorem dX12_ends_1 : decode cX12_ends 1 = .ok (.ifCond .ne 14, 3) := by decide +kernel
theorem dX12_ends_4 : decode cX12_ends 4 = .ok (.aload_n 0, 1) := by decide +kernel
theorem dX12_ends_5 : decode cX12_ends 5 = .ok (.aload_n 0, 1) := by decide +kernel
theorem dX12_ends_6 : decode cX12_ends 6 = .ok (.getfield 47, 3) := by decide +kernel
theorem dX12_ends_9 : decode cX12_ends 9 = .ok (.invokevirtual 59, 3) := by decide +kernel
theorem dX12_ends_12 : decode cX12_ends 12 = .ok (.goto 16, 3) := by decide +kernel
theorem dX12_ends_15 : decode cX12_ends 15 = .ok (.aload_n 0, 1) := by decide +kernel
theorem dX12_ends_16 : decode cX12_ends 16 = .ok (.iload_n 1, 1) := by decide +kernel
theorem dX12_ends_17 : decode cX12_ends 17 = .ok (.ifCond .ge 7, 3) := by decide +kernel
theorem dX12_ends_20 : decode cX12_ends 20 = .ok (.iload_n 2, 1) := by decide +kernel
theorem dX12_ends_21 : decode cX12_ends 21 = .ok (.goto 4, 3) := by decide +kernel
theorem dX12_ends_24 : decode cX12_ends 24 = .ok (.iload_n 1, 1) := by decide +kernel
theorem dX12_ends_25 : decode cX12_ends 25 = .ok (.invokevirtual 63, 3) := by decide +kernel
theorem dX12_ends_28 : decode cX12_ends 28 = .ok (.ireturn, 1) := by decide +kernel
theorem dX12_isHolder_0 : decode cX12_isHolder 0 = .ok (.iload_n 1, 1) := by decide +kernel
theorem dX12_isHolder_1 : decode cX12_isHolder 1 = .ok (.iconst 0, 1) := by decide +kernel
theorem dX12_isHolder_2 : decode cX12_isHolder 2 = .ok (.aload_n 0, 1) := by decide +kernel
theorem dX12_isHolder_3 : decode cX12_isHolder 3 = .ok (.getfield 7, 3) := by decide +kernel
theorem dX12_isHolder_6 : decode cX12_isHolder 6 = .ok (.iconst 0, 1) := by decide +kernel
theorem dX12_isHolder_7 : decode cX12_isHolder 7 = .ok (.iaload, 1) := by decide +kernel
theorem dX12_isHolder_8 : decode cX12_isHolder 8 = .ok (.iconst 1, 1) := by decide +kernel
theorem dX12_isHolder_9 : decode cX12_isHolder 9 = .ok (.isub, 1) := by decide +kernel
theorem dX12_isHolder_10 : decode cX12_isHolder 10 = .ok (.invokestatic 66, 3) := by decide +kernel
theorem dX12_isHolder_13 : decode cX12_isHolder 13 = .ok (.ireturn, 1) := by decide +kernel
theorem dX12_isGuard_0 : decode cX12_isGuard 0 = .ok (.iload_n 1, 1) := by decide +kernel
theorem dX12_isGuard_1 : decode cX12_isGuard 1 = .ok (.iconst 0, 1) := by decide +kernel
theorem dX12_isGuard_2 : decode cX12_isGuard 2 = .ok (.aload_n 0, 1) := by decide +kernel
theorem dX12_isGuard_3 : decode cX12_isGuard 3 = .ok (.getfield 7, 3) := by decide +kernel
theorem dX12_isGuard_6 : decode cX12_isGuard 6 = .ok (.bipush 10, 2) := by decide +kernel
theorem dX12_isGuard_8 : decode cX12_isGuard 8 = .ok (.iaload, 1) := by decide +kernel
theorem dX12_isGuard_9 : decode cX12_isGuard 9 = .ok (.iconst 1, 1) := by decide +kernel
theorem dX12_isGuard_10 : decode cX12_isGuard 10 = .ok (.isub, 1) := by decide +kernel
theorem dX12_isGuard_11 : decode cX12_isGuard 11 = .ok (.invokestatic 66, 3) := by decide +kernel
theorem dX12_isGuard_14 : decode cX12_isGuard 14 = .ok (.ireturn, 1) := by decide +kernel
theorem dX12_isZone_0 : decode cX12_isZone 0 = .ok (.iload_n 0, 1) := by decide +kernel
theorem dX12_isZone_1 : decode cX12_isZone 1 = .ok (.iconst 0, 1) := by decide +kernel
theorem dX12_isZone_2 : decode cX12_isZone 2 = .ok (.bipush 7, 2) := by decide +kernel
theorem dX12_isZone_4 : decode cX12_isZone 4 = .ok (.invokestatic 66, 3) := by decide +kernel
theorem dX12_isZone_7 : decode cX12_isZone 7 = .ok (.ireturn, 1) := by decide +kernel
theorem dX12_guard_0 : decode cX12_guard 0 = .ok (.aload_n 0, 1) := by decide +kernel
theorem dX12_guard_1 : decode cX12_guard 1 = .ok (.getfield 7, 3) := by decide +kernel
theorem dX12_guard_4 : decode cX12_guard 4 = .ok (.bipush 47, 2) := by decide +kernel
theorem dX12_guard_6 : decode cX12_guard 6 = .ok (.iconst 3, 1) := by decide +kernel
theorem dX12_guard_7 : decode cX12_guard 7 = .ok (.iload_n 1, 1) := by decide +kernel
theorem dX12_guard_8 : decode cX12_guard 8 = .ok (.imul, 1) := by decide +kernel
theorem dX12_guard_9 : decode cX12_guard 9 = .ok (.iadd, 1) := by decide +kernel
theorem dX12_guard_10 : decode cX12_guard 10 = .ok (.iload_n 2, 1) := by decide +kernel
theorem dX12_guard_11 : decode cX12_guard 11 = .ok (.iadd, 1) := by decide +kernel
theorem dX12_guard_12 : decode cX12_guard 12 = .ok (.iaload, 1) := by decide +kernel
theorem dX12_guard_13 : decode cX12_guard 13 = .ok (.ireturn, 1) := by decide +kernel
theorem dX12_curve_0 : decode cX12_curve 0 = .ok (.iload_n 1, 1) := by decide +kernel
theorem dX12_curve_1 : decode cX12_curve 1 = .ok (.iconst 1, 1) := by decide +kernel
theorem dX12_curve_2 : decode cX12_curve 2 = .ok (.iadd, 1) := by decide +kernel
theorem dX12_curve_3 : decode cX12_curve 3 = .ok (.istore_n 2, 1) := by decide +kernel
theorem dX12_curve_4 : decode cX12_curve 4 = .ok (.aload_n 0, 1) := by decide +kernel
theorem dX12_curve_5 : decode cX12_curve 5 = .ok (.getfield 7, 3) := by decide +kernel
theorem dX12_curve_8 : decode cX12_curve 8 = .ok (.iconst 2, 1) := by decide +kernel
theorem dX12_curve_9 : decode cX12_curve 9 = .ok (.iaload, 1) := by decide +kernel
theorem dX12_curve_10 : decode cX12_curve 10 = .ok (.aload_n 0, 1) := by decide +kernel
theorem dX12_curve_11 : decode cX12_curve 11 = .ok (.getfield 7, 3) := by decide +kernel
theorem dX12_curve_14 : decode cX12_curve 14 = .ok (.iconst 3, 1) := by decide +kernel
theorem dX12_curve_15 : decode cX12_curve 15 = .ok (.iaload, 1) := by decide +kernel
theorem dX12_curve_16 : decode cX12_curve 16 = .ok (.iload_n 2, 1) := by decide +kernel
theorem dX12_curve_17 : decode cX12_curve 17 = .ok (.imul, 1) := by decide +kernel
theorem dX12_curve_18 : decode cX12_curve 18 = .ok (.iadd, 1) := by decide +kernel
theorem dX12_curve_19 : decode cX12_curve 19 = .ok (.aload_n 0, 1) := by decide +kernel
theorem dX12_curve_20 : decode cX12_curve 20 = .ok (.getfield 7, 3) := by decide +kernel
theorem dX12_curve_23 : decode cX12_curve 23 = .ok (.iconst 4, 1) := by decide +kernel
theorem dX12_curve_24 : decode cX12_curve 24 = .ok (.iaload, 1) := by decide +kernel
theorem dX12_curve_25 : decode cX12_curve 25 = .ok (.iload_n 2, 1) := by decide +kernel
theorem dX12_curve_26 : decode cX12_curve 26 = .ok (.imul, 1) := by decide +kernel
theorem dX12_curve_27 : decode cX12_curve 27 = .ok (.iload_n 2, 1) := by decide +kernel
theorem dX12_curve_28 : decode cX12_curve 28 = .ok (.imul, 1) := by decide +kernel
theorem dX12_curve_29 : decode cX12_curve 29 = .ok (.iadd, 1) := by decide +kernel
theorem dX12_curve_30 : decode cX12_curve 30 = .ok (.bipush 97, 2) := by decide +kernel
theorem dX12_curve_32 : decode cX12_curve 32 = .ok (.irem, 1) := by decide +kernel
theorem dX12_curve_33 : decode cX12_curve 33 = .ok (.ireturn, 1) := by decide +kernel
theorem dX12_placeOf_0 : decode cX12_placeOf 0 = .ok (.iconst 0, 1) := by decide +kernel
theorem dX12_placeOf_1 : decode cX12_placeOf 1 = .ok (.istore_n 2, 1) := by decide +kernel
theorem dX12_placeOf_2 : decode cX12_placeOf 2 = .ok (.iload_n 2, 1) := by decide +kernel
theorem dX12_placeOf_3 : decode cX12_placeOf 3 = .ok (.aload_n 0, 1) := by decide +kernel
theorem dX12_placeOf_4 : decode cX12_placeOf 4 = .ok (.getfield 7, 3) := by decide +kernel
theorem dX12_placeOf_7 : decode cX12_placeOf 7 = .ok (.bipush 9, 2) := by decide +kernel
theorem dX12_placeOf_9 : decode cX12_placeOf 9 = .ok (.iaload, 1) := by decide +kernel
theorem dX12_placeOf_10 : decode cX12_placeOf 10 = .ok (.if_icmp .ge 24, 3) := by decide +kernel
theorem dX12_placeOf_13 : decode cX12_placeOf 13 = .ok (.aload_n 0, 1) := by decide +kernel
theorem dX12_placeOf_14 : decode cX12_placeOf 14 = .ok (.getfield 7, 3) := by decide +kernel
theorem dX12_placeOf_17 : decode cX12_placeOf 17 = .ok (.bipush 23, 2) := by decide +kernel
theorem dX12_placeOf_19 : decode cX12_placeOf 19 = .ok (.iload_n 2, 1) := by decide +kernel
theorem dX12_placeOf_20 : decode cX12_placeOf 20 = .ok (.iadd, 1) := by decide +kernel
theorem dX12_placeOf_21 : decode cX12_placeOf 21 = .ok (.iaload, 1) := by decide +kernel
theorem dX12_placeOf_22 : decode cX12_placeOf 22 = .ok (.iload_n 1, 1) := by decide +kernel
theorem dX12_placeOf_23 : decode cX12_placeOf 23 = .ok (.if_icmp .ne 5, 3) := by decide +kernel
theorem dX12_placeOf_26 : decode cX12_placeOf 26 = .ok (.iload_n 2, 1) := by decide +kernel
theorem dX12_placeOf_27 : decode cX12_placeOf 27 = .ok (.ireturn, 1) := by decide +kernel
theorem dX12_placeOf_28 : decode cX12_placeOf 28 = .ok (.iinc 2 1, 3) := by decide +kernel
theorem dX12_placeOf_31 : decode cX12_placeOf 31 = .ok (.goto (-29), 3) := by decide +kernel
theorem dX12_placeOf_34 : decode cX12_placeOf 34 = .ok (.iconst (-1), 1) := by decide +kernel
theorem dX12_placeOf_35 : decode cX12_placeOf 35 = .ok (.ireturn, 1) := by decide +kernel
theorem dX12_inverse_0 : decode cX12_inverse 0 = .ok (.iconst 1, 1) := by decide +kernel
theorem dX12_inverse_1 : decode cX12_inverse 1 = .ok (.istore_n 1, 1) := by decide +kernel
theorem dX12_inverse_2 : decode cX12_inverse 2 = .ok (.iload_n 0, 1) := by decide +kernel
theorem dX12_inverse_3 : decode cX12_inverse 3 = .ok (.iload_n 1, 1) := by decide +kernel
theorem dX12_inverse_4 : decode cX12_inverse 4 = .ok (.imul, 1) := by decide +kernel
theorem dX12_inverse_5 : decode cX12_inverse 5 = .ok (.bipush 97, 2) := by decide +kernel
theorem dX12_inverse_7 : decode cX12_inverse 7 = .ok (.irem, 1) := by decide +kernel
theorem dX12_inverse_8 : decode cX12_inverse 8 = .ok (.iconst 1, 1) := by decide +kernel
theorem dX12_inverse_9 : decode cX12_inverse 9 = .ok (.if_icmp .eq 9, 3) := by decide +kernel
theorem dX12_inverse_12 : decode cX12_inverse 12 = .ok (.iinc 1 1, 3) := by decide +kernel
theorem dX12_inverse_15 : decode cX12_inverse 15 = .ok (.goto (-13), 3) := by decide +kernel
theorem dX12_inverse_18 : decode cX12_inverse 18 = .ok (.iload_n 1, 1) := by decide +kernel
theorem dX12_inverse_19 : decode cX12_inverse 19 = .ok (.ireturn, 1) := by decide +kernel
theorem dX12_through_0 : decode cX12_through 0 = .ok (.iconst 0, 1) := by decide +kernel
theorem dX12_through_1 : decode cX12_through 1 = .ok (.istore_n 2, 1) := by decide +kernel
theorem dX12_through_2 : decode cX12_through 2 = .ok (.iconst 0, 1) := by decide +kernel
theorem dX12_through_3 : decode cX12_through 3 = .ok (.istore_n 3, 1) := by decide +kernel
theorem dX12_through_4 : decode cX12_through 4 = .ok (.iload_n 3, 1) := by decide +kernel
theorem dX12_through_5 : decode cX12_through 5 = .ok (.aload_n 0, 1) := by decide +kernel
theorem dX12_through_6 : decode cX12_through 6 = .ok (.getfield 7, 3) := by decide +kernel
theorem dX12_through_9 : decode cX12_through 9 = .ok (.iconst 5, 1) := by decide +kernel
theorem dX12_through_10 : decode cX12_through 10 = .ok (.iaload, 1) := by decide +kernel
theorem dX12_through_11 : decode cX12_through 11 = .ok (.if_icmp .ge 123, 3) := by decide +kernel
theorem dX12_through_14 : decode cX12_through 14 = .ok (.aload_n 0, 1) := by decide +kernel
theorem dX12_through_15 : decode cX12_through 15 = .ok (.getfield 7, 3) := by decide +kernel
theorem dX12_through_18 : decode cX12_through 18 = .ok (.bipush 15, 2) := by decide +kernel
theorem dX12_through_20 : decode cX12_through 20 = .ok (.aload_n 0, 1) := by decide +kernel
theorem dX12_through_21 : decode cX12_through 21 = .ok (.getfield 34, 3) := by decide +kernel
theorem dX12_through_24 : decode cX12_through 24 = .ok (.iload_n 3, 1) := by decide +kernel
theorem dX12_through_25 : decode cX12_through 25 = .ok (.iaload, 1) := by decide +kernel
theorem dX12_through_26 : decode cX12_through 26 = .ok (.iadd, 1) := by decide +kernel
theorem dX12_through_27 : decode cX12_through 27 = .ok (.iaload, 1) := by decide +kernel
theorem dX12_through_28 : decode cX12_through 28 = .ok (.istore 4, 2) := by decide +kernel
theorem dX12_through_30 : decode cX12_through 30 = .ok (.iconst 0, 1) := by decide +kernel
theorem dX12_through_31 : decode cX12_through 31 = .ok (.istore 5, 2) := by decide +kernel
theorem dX12_through_33 : decode cX12_through 33 = .ok (.iload 5, 2) := by decide +kernel
theorem dX12_through_35 : decode cX12_through 35 = .ok (.aload_n 0, 1) := by decide +kernel
theorem dX12_through_36 : decode cX12_through 36 = .ok (.getfield 7, 3) := by decide +kernel
theorem dX12_through_39 : decode cX12_through 39 = .ok (.iconst 5, 1) := by decide +kernel
theorem dX12_through_40 : decode cX12_through 40 = .ok (.iaload, 1) := by decide +kernel
theorem dX12_through_41 : decode cX12_through 41 = .ok (.if_icmp .ge 79, 3) := by decide +kernel
theorem dX12_through_44 : decode cX12_through 44 = .ok (.iload 5, 2) := by decide +kernel
theorem dX12_through_46 : decode cX12_through 46 = .ok (.iload_n 3, 1) := by decide +kernel
theorem dX12_through_47 : decode cX12_through 47 = .ok (.if_icmp .ne 6, 3) := by decide +kernel
theorem dX12_through_50 : decode cX12_through 50 = .ok (.goto 64, 3) := by decide +kernel
theorem dX12_through_53 : decode cX12_through 53 = .ok (.iload_n 1, 1) := by decide +kernel
theorem dX12_through_54 : decode cX12_through 54 = .ok (.aload_n 0, 1) := by decide +kernel
theorem dX12_through_55 : decode cX12_through 55 = .ok (.getfield 34, 3) := by decide +kernel
theorem dX12_through_58 : decode cX12_through 58 = .ok (.iload 5, 2) := by decide +kernel
theorem dX12_through_60 : decode cX12_through 60 = .ok (.iaload, 1) := by decide +kernel
theorem dX12_through_61 : decode cX12_through 61 = .ok (.isub, 1) := by decide +kernel
theorem dX12_through_62 : decode cX12_through 62 = .ok (.iconst 1, 1) := by decide +kernel
theorem dX12_through_63 : decode cX12_through 63 = .ok (.isub, 1) := by decide +kernel
theorem dX12_through_64 : decode cX12_through 64 = .ok (.sipush 194, 3) := by decide +kernel
theorem dX12_through_67 : decode cX12_through 67 = .ok (.iadd, 1) := by decide +kernel
theorem dX12_through_68 : decode cX12_through 68 = .ok (.bipush 97, 2) := by decide +kernel
theorem dX12_through_70 : decode cX12_through 70 = .ok (.irem, 1) := by decide +kernel
theorem dX12_through_71 : decode cX12_through 71 = .ok (.istore 6, 2) := by decide +kernel
theorem dX12_through_73 : decode cX12_through 73 = .ok (.aload_n 0, 1) := by decide +kernel
theorem dX12_through_74 : decode cX12_through 74 = .ok (.getfield 34, 3) := by decide +kernel
theorem dX12_through_77 : decode cX12_through 77 = .ok (.iload_n 3, 1) := by decide +kernel
theorem dX12_through_78 : decode cX12_through 78 = .ok (.iaload, 1) := by decide +kernel
theorem dX12_through_79 : decode cX12_through 79 = .ok (.aload_n 0, 1) := by decide +kernel
theorem dX12_through_80 : decode cX12_through 80 = .ok (.getfield 34, 3) := by decide +kernel
theorem dX12_through_83 : decode cX12_through 83 = .ok (.iload 5, 2) := by decide +kernel
theorem dX12_through_85 : decode cX12_through 85 = .ok (.iaload, 1) := by decide +kernel
theorem dX12_through_86 : decode cX12_through 86 = .ok (.isub, 1) := by decide +kernel
theorem dX12_through_87 : decode cX12_through 87 = .ok (.bipush 97, 2) := by decide +kernel
theorem dX12_through_89 : decode cX12_through 89 = .ok (.iadd, 1) := by decide +kernel
theorem dX12_through_90 : decode cX12_through 90 = .ok (.bipush 97, 2) := by decide +kernel
theorem dX12_through_92 : decode cX12_through 92 = .ok (.irem, 1) := by decide +kernel
theorem dX12_through_93 : decode cX12_through 93 = .ok (.istore 7, 2) := by decide +kernel
theorem dX12_through_95 : decode cX12_through 95 = .ok (.iload 4, 2) := by decide +kernel
theorem dX12_through_97 : decode cX12_through 97 = .ok (.iload 6, 2) := by decide +kernel
theorem dX12_through_99 : decode cX12_through 99 = .ok (.imul, 1) := by decide +kernel
theorem dX12_through_100 : decode cX12_through 100 = .ok (.bipush 97, 2) := by decide +kernel
theorem dX12_through_102 : decode cX12_through 102 = .ok (.irem, 1) := by decide +kernel
theorem dX12_through_103 : decode cX12_through 103 = .ok (.iload 7, 2) := by decide +kernel
theorem dX12_through_105 : decode cX12_through 105 = .ok (.invokestatic 70, 3) := by decide +kernel
theorem dX12_through_108 : decode cX12_through 108 = .ok (.imul, 1) := by decide +kernel
theorem dX12_through_109 : decode cX12_through 109 = .ok (.bipush 97, 2) := by decide +kernel
theorem dX12_through_111 : decode cX12_through 111 = .ok (.irem, 1) := by decide +kernel
theorem dX12_through_112 : decode cX12_through 112 = .ok (.istore 4, 2) := by decide +kernel
theorem dX12_through_114 : decode cX12_through 114 = .ok (.iinc 5 1, 3) := by decide +kernel
theorem dX12_through_117 : decode cX12_through 117 = .ok (.goto (-84), 3) := by decide +kernel
theorem dX12_through_120 : decode cX12_through 120 = .ok (.iload_n 2, 1) := by decide +kernel
theorem dX12_through_121 : decode cX12_through 121 = .ok (.iload 4, 2) := by decide +kernel
theorem dX12_through_123 : decode cX12_through 123 = .ok (.iadd, 1) := by decide +kernel
theorem dX12_through_124 : decode cX12_through 124 = .ok (.bipush 97, 2) := by decide +kernel
theorem dX12_through_126 : decode cX12_through 126 = .ok (.irem, 1) := by decide +kernel
theorem dX12_through_127 : decode cX12_through 127 = .ok (.istore_n 2, 1) := by decide +kernel
theorem dX12_through_128 : decode cX12_through 128 = .ok (.iinc 3 1, 3) := by decide +kernel
theorem dX12_through_131 : decode cX12_through 131 = .ok (.goto (-127), 3) := by decide +kernel
theorem dX12_through_134 : decode cX12_through 134 = .ok (.iload_n 2, 1) := by decide +kernel
theorem dX12_through_135 : decode cX12_through 135 = .ok (.ireturn, 1) := by decide +kernel
theorem dX12_takesFirst_0 : decode cX12_takesFirst 0 = .ok (.iconst 0, 1) := by decide +kernel
theorem dX12_takesFirst_1 : decode cX12_takesFirst 1 = .ok (.istore_n 1, 1) := by decide +kernel
theorem dX12_takesFirst_2 : decode cX12_takesFirst 2 = .ok (.iload_n 1, 1) := by decide +kernel
theorem dX12_takesFirst_3 : decode cX12_takesFirst 3 = .ok (.aload_n 0, 1) := by decide +kernel
theorem dX12_takesFirst_4 : decode cX12_takesFirst 4 = .ok (.getfield 7, 3) := by decide +kernel
theorem dX12_takesFirst_7 : decode cX12_takesFirst 7 = .ok (.iconst 5, 1) := by decide +kernel
theorem dX12_takesFirst_8 : decode cX12_takesFirst 8 = .ok (.iaload, 1) := by decide +kernel
theorem dX12_takesFirst_9 : decode cX12_takesFirst 9 = .ok (.if_icmp .ge 24, 3) := by decide +kernel
theorem dX12_takesFirst_12 : decode cX12_takesFirst 12 = .ok (.aload_n 0, 1) := by decide +kernel
theorem dX12_takesFirst_13 : decode cX12_takesFirst 13 = .ok (.getfield 34, 3) := by decide +kernel
theorem dX12_takesFirst_16 : decode cX12_takesFirst 16 = .ok (.iload_n 1, 1) := by decide +kernel
theorem dX12_takesFirst_17 : decode cX12_takesFirst 17 = .ok (.aload_n 0, 1) := by decide +kernel
theorem dX12_takesFirst_18 : decode cX12_takesFirst 18 = .ok (.getfield 7, 3) := by decide +kernel
theorem dX12_takesFirst_21 : decode cX12_takesFirst 21 = .ok (.bipush 23, 2) := by decide +kernel
theorem dX12_takesFirst_23 : decode cX12_takesFirst 23 = .ok (.iload_n 1, 1) := by decide +kernel
theorem dX12_takesFirst_24 : decode cX12_takesFirst 24 = .ok (.iadd, 1) := by decide +kernel
theorem dX12_takesFirst_25 : decode cX12_takesFirst 25 = .ok (.iaload, 1) := by decide +kernel
theorem dX12_takesFirst_26 : decode cX12_takesFirst 26 = .ok (.iastore, 1) := by decide +kernel
theorem dX12_takesFirst_27 : decode cX12_takesFirst 27 = .ok (.iinc 1 1, 3) := by decide +kernel
theorem dX12_takesFirst_30 : decode cX12_takesFirst 30 = .ok (.goto (-28), 3) := by decide +kernel
theorem dX12_takesFirst_33 : decode cX12_takesFirst 33 = .ok (.return_, 1) := by decide +kernel
theorem dX12_onIt_0 : decode cX12_onIt 0 = .ok (.iconst 0, 1) := by decide +kernel
theorem dX12_onIt_1 : decode cX12_onIt 1 = .ok (.istore_n 1, 1) := by decide +kernel
theorem dX12_onIt_2 : decode cX12_onIt 2 = .ok (.iconst 0, 1) := by decide +kernel
theorem dX12_onIt_3 : decode cX12_onIt 3 = .ok (.istore_n 2, 1) := by decide +kernel
theorem dX12_onIt_4 : decode cX12_onIt 4 = .ok (.iload_n 2, 1) := by decide +kernel
theorem dX12_onIt_5 : decode cX12_onIt 5 = .ok (.aload_n 0, 1) := by decide +kernel
theorem dX12_onIt_6 : decode cX12_onIt 6 = .ok (.getfield 7, 3) := by decide +kernel
theorem dX12_onIt_9 : decode cX12_onIt 9 = .ok (.bipush 9, 2) := by decide +kernel
theorem dX12_onIt_11 : decode cX12_onIt 11 = .ok (.iaload, 1) := by decide +kernel
theorem dX12_onIt_12 : decode cX12_onIt 12 = .ok (.if_icmp .ge 52, 3) := by decide +kernel
theorem dX12_onIt_15 : decode cX12_onIt 15 = .ok (.iload_n 1, 1) := by decide +kernel
theorem dX12_onIt_16 : decode cX12_onIt 16 = .ok (.aload_n 0, 1) := by decide +kernel
theorem dX12_onIt_17 : decode cX12_onIt 17 = .ok (.aload_n 0, 1) := by decide +kernel
theorem dX12_onIt_18 : decode cX12_onIt 18 = .ok (.getfield 7, 3) := by decide +kernel
theorem dX12_onIt_21 : decode cX12_onIt 21 = .ok (.bipush 23, 2) := by decide +kernel
theorem dX12_onIt_23 : decode cX12_onIt 23 = .ok (.iload_n 2, 1) := by decide +kernel
theorem dX12_onIt_24 : decode cX12_onIt 24 = .ok (.iadd, 1) := by decide +kernel
theorem dX12_onIt_25 : decode cX12_onIt 25 = .ok (.iaload, 1) := by decide +kernel
theorem dX12_onIt_26 : decode cX12_onIt 26 = .ok (.iconst 1, 1) := by decide +kernel
theorem dX12_onIt_27 : decode cX12_onIt 27 = .ok (.iadd, 1) := by decide +kernel
theorem dX12_onIt_28 : decode cX12_onIt 28 = .ok (.invokevirtual 73, 3) := by decide +kernel
theorem dX12_onIt_31 : decode cX12_onIt 31 = .ok (.aload_n 0, 1) := by decide +kernel
theorem dX12_onIt_32 : decode cX12_onIt 32 = .ok (.getfield 7, 3) := by decide +kernel
theorem dX12_onIt_35 : decode cX12_onIt 35 = .ok (.bipush 15, 2) := by decide +kernel
theorem dX12_onIt_37 : decode cX12_onIt 37 = .ok (.aload_n 0, 1) := by decide +kernel
theorem dX12_onIt_38 : decode cX12_onIt 38 = .ok (.getfield 7, 3) := by decide +kernel
theorem dX12_onIt_41 : decode cX12_onIt 41 = .ok (.bipush 23, 2) := by decide +kernel
theorem dX12_onIt_43 : decode cX12_onIt 43 = .ok (.iload_n 2, 1) := by decide +kernel
theorem dX12_onIt_44 : decode cX12_onIt 44 = .ok (.iadd, 1) := by decide +kernel
theorem dX12_onIt_45 : decode cX12_onIt 45 = .ok (.iaload, 1) := by decide +kernel
theorem dX12_onIt_46 : decode cX12_onIt 46 = .ok (.iadd, 1) := by decide +kernel
theorem dX12_onIt_47 : decode cX12_onIt 47 = .ok (.iaload, 1) := by decide +kernel
theorem dX12_onIt_48 : decode cX12_onIt 48 = .ok (.if_icmp .ne 7, 3) := by decide +kernel
theorem dX12_onIt_51 : decode cX12_onIt 51 = .ok (.iconst 1, 1) := by decide +kernel
theorem dX12_onIt_52 : decode cX12_onIt 52 = .ok (.goto 4, 3) := by decide +kernel
theorem dX12_onIt_55 : decode cX12_onIt 55 = .ok (.iconst 0, 1) := by decide +kernel
theorem dX12_onIt_56 : decode cX12_onIt 56 = .ok (.iadd, 1) := by decide +kernel
theorem dX12_onIt_57 : decode cX12_onIt 57 = .ok (.istore_n 1, 1) := by decide +kernel
theorem dX12_onIt_58 : decode cX12_onIt 58 = .ok (.iinc 2 1, 3) := by decide +kernel
theorem dX12_onIt_61 : decode cX12_onIt 61 = .ok (.goto (-57), 3) := by decide +kernel
theorem dX12_onIt_64 : decode cX12_onIt 64 = .ok (.iload_n 1, 1) := by decide +kernel
theorem dX12_onIt_65 : decode cX12_onIt 65 = .ok (.ireturn, 1) := by decide +kernel
theorem dX12_most_0 : decode cX12_most 0 = .ok (.iload_n 1, 1) := by decide +kernel
theorem dX12_most_1 : decode cX12_most 1 = .ok (.aload_n 0, 1) := by decide +kernel
theorem dX12_most_2 : decode cX12_most 2 = .ok (.getfield 7, 3) := by decide +kernel
theorem dX12_most_5 : decode cX12_most 5 = .ok (.iconst 5, 1) := by decide +kernel
theorem dX12_most_6 : decode cX12_most 6 = .ok (.iaload, 1) := by decide +kernel
theorem dX12_most_7 : decode cX12_most 7 = .ok (.if_icmp .ne 8, 3) := by decide +kernel
theorem dX12_most_10 : decode cX12_most 10 = .ok (.aload_n 0, 1) := by decide +kernel
theorem dX12_most_11 : decode cX12_most 11 = .ok (.invokevirtual 76, 3) := by decide +kernel
theorem dX12_most_14 : decode cX12_most 14 = .ok (.ireturn, 1) := by decide +kernel
theorem dX12_most_15 : decode cX12_most 15 = .ok (.iconst 0, 1) := by decide +kernel
theorem dX12_most_16 : decode cX12_most 16 = .ok (.istore_n 3, 1) := by decide +kernel
theorem dX12_most_17 : decode cX12_most 17 = .ok (.iload_n 2, 1) := by decide +kernel
theorem dX12_most_18 : decode cX12_most 18 = .ok (.istore 4, 2) := by decide +kernel
theorem dX12_most_20 : decode cX12_most 20 = .ok (.iload 4, 2) := by decide +kernel
theorem dX12_most_22 : decode cX12_most 22 = .ok (.aload_n 0, 1) := by decide +kernel
theorem dX12_most_23 : decode cX12_most 23 = .ok (.getfield 7, 3) := by decide +kernel
theorem dX12_most_26 : decode cX12_most 26 = .ok (.bipush 9, 2) := by decide +kernel
theorem dX12_most_28 : decode cX12_most 28 = .ok (.iaload, 1) := by decide +kernel
theorem dX12_most_29 : decode cX12_most 29 = .ok (.if_icmp .ge 51, 3) := by decide +kernel
theorem dX12_most_32 : decode cX12_most 32 = .ok (.aload_n 0, 1) := by decide +kernel
theorem dX12_most_33 : decode cX12_most 33 = .ok (.getfield 34, 3) := by decide +kernel
theorem dX12_most_36 : decode cX12_most 36 = .ok (.iload_n 1, 1) := by decide +kernel
theorem dX12_most_37 : decode cX12_most 37 = .ok (.aload_n 0, 1) := by decide +kernel
theorem dX12_most_38 : decode cX12_most 38 = .ok (.getfield 7, 3) := by decide +kernel
theorem dX12_most_41 : decode cX12_most 41 = .ok (.bipush 23, 2) := by decide +kernel
theorem dX12_most_43 : decode cX12_most 43 = .ok (.iload 4, 2) := by decide +kernel
theorem dX12_most_45 : decode cX12_most 45 = .ok (.iadd, 1) := by decide +kernel
theorem dX12_most_46 : decode cX12_most 46 = .ok (.iaload, 1) := by decide +kernel
theorem dX12_most_47 : decode cX12_most 47 = .ok (.iastore, 1) := by decide +kernel
theorem dX12_most_48 : decode cX12_most 48 = .ok (.aload_n 0, 1) := by decide +kernel
theorem dX12_most_49 : decode cX12_most 49 = .ok (.iload_n 1, 1) := by decide +kernel
theorem dX12_most_50 : decode cX12_most 50 = .ok (.iconst 1, 1) := by decide +kernel
theorem dX12_most_51 : decode cX12_most 51 = .ok (.iadd, 1) := by decide +kernel
theorem dX12_most_52 : decode cX12_most 52 = .ok (.iload 4, 2) := by decide +kernel
theorem dX12_most_54 : decode cX12_most 54 = .ok (.iconst 1, 1) := by decide +kernel
theorem dX12_most_55 : decode cX12_most 55 = .ok (.iadd, 1) := by decide +kernel
theorem dX12_most_56 : decode cX12_most 56 = .ok (.invokevirtual 80, 3) := by decide +kernel
theorem dX12_most_59 : decode cX12_most 59 = .ok (.istore 5, 2) := by decide +kernel
theorem dX12_most_61 : decode cX12_most 61 = .ok (.iload 5, 2) := by decide +kernel
theorem dX12_most_63 : decode cX12_most 63 = .ok (.iload_n 3, 1) := by decide +kernel
theorem dX12_most_64 : decode cX12_most 64 = .ok (.if_icmp .le 8, 3) := by decide +kernel
theorem dX12_most_67 : decode cX12_most 67 = .ok (.iload 5, 2) := by decide +kernel
theorem dX12_most_69 : decode cX12_most 69 = .ok (.goto 4, 3) := by decide +kernel
theorem dX12_most_72 : decode cX12_most 72 = .ok (.iload_n 3, 1) := by decide +kernel
theorem dX12_most_73 : decode cX12_most 73 = .ok (.istore_n 3, 1) := by decide +kernel
theorem dX12_most_74 : decode cX12_most 74 = .ok (.iinc 4 1, 3) := by decide +kernel
theorem dX12_most_77 : decode cX12_most 77 = .ok (.goto (-57), 3) := by decide +kernel
theorem dX12_most_80 : decode cX12_most 80 = .ok (.iload_n 3, 1) := by decide +kernel
theorem dX12_most_81 : decode cX12_most 81 = .ok (.ireturn, 1) := by decide +kernel
theorem dX12_isIn_0 : decode cX12_isIn 0 = .ok (.iconst 0, 1) := by decide +kernel
theorem dX12_isIn_1 : decode cX12_isIn 1 = .ok (.istore_n 2, 1) := by decide +kernel
theorem dX12_isIn_2 : decode cX12_isIn 2 = .ok (.iload_n 2, 1) := by decide +kernel
theorem dX12_isIn_3 : decode cX12_isIn 3 = .ok (.aload_n 0, 1) := by decide +kernel
theorem dX12_isIn_4 : decode cX12_isIn 4 = .ok (.getfield 7, 3) := by decide +kernel
theorem dX12_isIn_7 : decode cX12_isIn 7 = .ok (.bipush 10, 2) := by decide +kernel
theorem dX12_isIn_9 : decode cX12_isIn 9 = .ok (.iaload, 1) := by decide +kernel
theorem dX12_isIn_10 : decode cX12_isIn 10 = .ok (.if_icmp .ge 27, 3) := by decide +kernel
theorem dX12_isIn_13 : decode cX12_isIn 13 = .ok (.aload_n 0, 1) := by decide +kernel
theorem dX12_isIn_14 : decode cX12_isIn 14 = .ok (.iload_n 2, 1) := by decide +kernel
theorem dX12_isIn_15 : decode cX12_isIn 15 = .ok (.iconst 0, 1) := by decide +kernel
theorem dX12_isIn_16 : decode cX12_isIn 16 = .ok (.invokevirtual 84, 3) := by decide +kernel
theorem dX12_isIn_19 : decode cX12_isIn 19 = .ok (.iload_n 1, 1) := by decide +kernel
theorem dX12_isIn_20 : decode cX12_isIn 20 = .ok (.bipush 8, 2) := by decide +kernel
theorem dX12_isIn_22 : decode cX12_isIn 22 = .ok (.iadd, 1) := by decide +kernel
theorem dX12_isIn_23 : decode cX12_isIn 23 = .ok (.bipush 8, 2) := by decide +kernel
theorem dX12_isIn_25 : decode cX12_isIn 25 = .ok (.irem, 1) := by decide +kernel
theorem dX12_isIn_26 : decode cX12_isIn 26 = .ok (.if_icmp .ne 5, 3) := by decide +kernel
theorem dX12_isIn_29 : decode cX12_isIn 29 = .ok (.iconst 1, 1) := by decide +kernel
theorem dX12_isIn_30 : decode cX12_isIn 30 = .ok (.ireturn, 1) := by decide +kernel
theorem dX12_isIn_31 : decode cX12_isIn 31 = .ok (.iinc 2 1, 3) := by decide +kernel
theorem dX12_isIn_34 : decode cX12_isIn 34 = .ok (.goto (-32), 3) := by decide +kernel
theorem dX12_isIn_37 : decode cX12_isIn 37 = .ok (.iconst 0, 1) := by decide +kernel
theorem dX12_isIn_38 : decode cX12_isIn 38 = .ok (.ireturn, 1) := by decide +kernel
theorem dX12_isNear_0 : decode cX12_isNear 0 = .ok (.aload_n 0, 1) := by decide +kernel
theorem dX12_isNear_1 : decode cX12_isNear 1 = .ok (.iload_n 1, 1) := by decide +kernel
theorem dX12_isNear_2 : decode cX12_isNear 2 = .ok (.iconst 1, 1) := by decide +kernel
theorem dX12_isNear_3 : decode cX12_isNear 3 = .ok (.isub, 1) := by decide +kernel
theorem dX12_isNear_4 : decode cX12_isNear 4 = .ok (.invokevirtual 87, 3) := by decide +kernel
theorem dX12_isNear_7 : decode cX12_isNear 7 = .ok (.ifCond .ne 13, 3) := by decide +kernel
theorem dX12_isNear_10 : decode cX12_isNear 10 = .ok (.aload_n 0, 1) := by decide +kernel
theorem dX12_isNear_11 : decode cX12_isNear 11 = .ok (.iload_n 1, 1) := by decide +kernel
theorem dX12_isNear_12 : decode cX12_isNear 12 = .ok (.iconst 1, 1) := by decide +kernel
theorem dX12_isNear_13 : decode cX12_isNear 13 = .ok (.iadd, 1) := by decide +kernel
theorem dX12_isNear_14 : decode cX12_isNear 14 = .ok (.invokevirtual 87, 3) := by decide +kernel
theorem dX12_isNear_17 : decode cX12_isNear 17 = .ok (.ifCond .eq 7, 3) := by decide +kernel
theorem dX12_isNear_20 : decode cX12_isNear 20 = .ok (.iconst 1, 1) := by decide +kernel
theorem dX12_isNear_21 : decode cX12_isNear 21 = .ok (.goto 4, 3) := by decide +kernel
theorem dX12_isNear_24 : decode cX12_isNear 24 = .ok (.iconst 0, 1) := by decide +kernel
theorem dX12_isNear_25 : decode cX12_isNear 25 = .ok (.ireturn, 1) := by decide +kernel
theorem dX12_logs_0 : decode cX12_logs 0 = .ok (.aload_n 0, 1) := by decide +kernel
theorem dX12_logs_1 : decode cX12_logs 1 = .ok (.getfield 7, 3) := by decide +kernel
theorem dX12_logs_4 : decode cX12_logs 4 = .ok (.bipush 14, 2) := by decide +kernel
theorem dX12_logs_6 : decode cX12_logs 6 = .ok (.iaload, 1) := by decide +kernel
theorem dX12_logs_7 : decode cX12_logs 7 = .ok (.bipush 12, 2) := by decide +kernel
theorem dX12_logs_9 : decode cX12_logs 9 = .ok (.if_icmp .ne 43, 3) := by decide +kernel
theorem dX12_logs_12 : decode cX12_logs 12 = .ok (.bipush 56, 2) := by decide +kernel
theorem dX12_logs_14 : decode cX12_logs 14 = .ok (.istore_n 3, 1) := by decide +kernel
theorem dX12_logs_15 : decode cX12_logs 15 = .ok (.iload_n 3, 1) := by decide +kernel
theorem dX12_logs_16 : decode cX12_logs 16 = .ok (.bipush 89, 2) := by decide +kernel
theorem dX12_logs_18 : decode cX12_logs 18 = .ok (.if_icmp .ge 23, 3) := by decide +kernel
theorem dX12_logs_21 : decode cX12_logs 21 = .ok (.aload_n 0, 1) := by decide +kernel
theorem dX12_logs_22 : decode cX12_logs 22 = .ok (.getfield 7, 3) := by decide +kernel
theorem dX12_logs_25 : decode cX12_logs 25 = .ok (.iload_n 3, 1) := by decide +kernel
theorem dX12_logs_26 : decode cX12_logs 26 = .ok (.aload_n 0, 1) := by decide +kernel
theorem dX12_logs_27 : decode cX12_logs 27 = .ok (.getfield 7, 3) := by decide +kernel
theorem dX12_logs_30 : decode cX12_logs 30 = .ok (.iload_n 3, 1) := by decide +kernel
theorem dX12_logs_31 : decode cX12_logs 31 = .ok (.iconst 3, 1) := by decide +kernel
theorem dX12_logs_32 : decode cX12_logs 32 = .ok (.iadd, 1) := by decide +kernel
theorem dX12_logs_33 : decode cX12_logs 33 = .ok (.iaload, 1) := by decide +kernel
theorem dX12_logs_34 : decode cX12_logs 34 = .ok (.iastore, 1) := by decide +kernel
theorem dX12_logs_35 : decode cX12_logs 35 = .ok (.iinc 3 1, 3) := by decide +kernel
theorem dX12_logs_38 : decode cX12_logs 38 = .ok (.goto (-23), 3) := by decide +kernel
theorem dX12_logs_41 : decode cX12_logs 41 = .ok (.aload_n 0, 1) := by decide +kernel
theorem dX12_logs_42 : decode cX12_logs 42 = .ok (.getfield 7, 3) := by decide +kernel
theorem dX12_logs_45 : decode cX12_logs 45 = .ok (.bipush 14, 2) := by decide +kernel
theorem dX12_logs_47 : decode cX12_logs 47 = .ok (.dup2, 1) := by decide +kernel
theorem dX12_logs_48 : decode cX12_logs 48 = .ok (.iaload, 1) := by decide +kernel
theorem dX12_logs_49 : decode cX12_logs 49 = .ok (.iconst 1, 1) := by decide +kernel
theorem dX12_logs_50 : decode cX12_logs 50 = .ok (.isub, 1) := by decide +kernel
theorem dX12_logs_51 : decode cX12_logs 51 = .ok (.iastore, 1) := by decide +kernel
theorem dX12_logs_52 : decode cX12_logs 52 = .ok (.bipush 56, 2) := by decide +kernel
theorem dX12_logs_54 : decode cX12_logs 54 = .ok (.iconst 3, 1) := by decide +kernel
theorem dX12_logs_55 : decode cX12_logs 55 = .ok (.aload_n 0, 1) := by decide +kernel
theorem dX12_logs_56 : decode cX12_logs 56 = .ok (.getfield 7, 3) := by decide +kernel
theorem dX12_logs_59 : decode cX12_logs 59 = .ok (.bipush 14, 2) := by decide +kernel
theorem dX12_logs_61 : decode cX12_logs 61 = .ok (.iaload, 1) := by decide +kernel
theorem dX12_logs_62 : decode cX12_logs 62 = .ok (.imul, 1) := by decide +kernel
theorem dX12_logs_63 : decode cX12_logs 63 = .ok (.iadd, 1) := by decide +kernel
theorem dX12_logs_64 : decode cX12_logs 64 = .ok (.istore_n 3, 1) := by decide +kernel
theorem dX12_logs_65 : decode cX12_logs 65 = .ok (.aload_n 0, 1) := by decide +kernel
theorem dX12_logs_66 : decode cX12_logs 66 = .ok (.getfield 7, 3) := by decide +kernel
theorem dX12_logs_69 : decode cX12_logs 69 = .ok (.iload_n 3, 1) := by decide +kernel
theorem dX12_logs_70 : decode cX12_logs 70 = .ok (.aload_n 0, 1) := by decide +kernel
theorem dX12_logs_71 : decode cX12_logs 71 = .ok (.getfield 7, 3) := by decide +kernel
theorem dX12_logs_74 : decode cX12_logs 74 = .ok (.bipush 11, 2) := by decide +kernel
theorem dX12_logs_76 : decode cX12_logs 76 = .ok (.iaload, 1) := by decide +kernel
theorem dX12_logs_77 : decode cX12_logs 77 = .ok (.iastore, 1) := by decide +kernel
theorem dX12_logs_78 : decode cX12_logs 78 = .ok (.aload_n 0, 1) := by decide +kernel
theorem dX12_logs_79 : decode cX12_logs 79 = .ok (.getfield 7, 3) := by decide +kernel
theorem dX12_logs_82 : decode cX12_logs 82 = .ok (.iload_n 3, 1) := by decide +kernel
theorem dX12_logs_83 : decode cX12_logs 83 = .ok (.iconst 1, 1) := by decide +kernel
theorem dX12_logs_84 : decode cX12_logs 84 = .ok (.iadd, 1) := by decide +kernel
theorem dX12_logs_85 : decode cX12_logs 85 = .ok (.iload_n 1, 1) := by decide +kernel
theorem dX12_logs_86 : decode cX12_logs 86 = .ok (.iastore, 1) := by decide +kernel
theorem dX12_logs_87 : decode cX12_logs 87 = .ok (.aload_n 0, 1) := by decide +kernel
theorem dX12_logs_88 : decode cX12_logs 88 = .ok (.getfield 7, 3) := by decide +kernel
theorem dX12_logs_91 : decode cX12_logs 91 = .ok (.iload_n 3, 1) := by decide +kernel
theorem dX12_logs_92 : decode cX12_logs 92 = .ok (.iconst 2, 1) := by decide +kernel
theorem dX12_logs_93 : decode cX12_logs 93 = .ok (.iadd, 1) := by decide +kernel
theorem dX12_logs_94 : decode cX12_logs 94 = .ok (.iload_n 2, 1) := by decide +kernel
theorem dX12_logs_95 : decode cX12_logs 95 = .ok (.iastore, 1) := by decide +kernel
theorem dX12_logs_96 : decode cX12_logs 96 = .ok (.aload_n 0, 1) := by decide +kernel
theorem dX12_logs_97 : decode cX12_logs 97 = .ok (.getfield 7, 3) := by decide +kernel
theorem dX12_logs_100 : decode cX12_logs 100 = .ok (.bipush 14, 2) := by decide +kernel
theorem dX12_logs_102 : decode cX12_logs 102 = .ok (.dup2, 1) := by decide +kernel
theorem dX12_logs_103 : decode cX12_logs 103 = .ok (.iaload, 1) := by decide +kernel
theorem dX12_logs_104 : decode cX12_logs 104 = .ok (.iconst 1, 1) := by decide +kernel
theorem dX12_logs_105 : decode cX12_logs 105 = .ok (.iadd, 1) := by decide +kernel
theorem dX12_logs_106 : decode cX12_logs 106 = .ok (.iastore, 1) := by decide +kernel
theorem dX12_logs_107 : decode cX12_logs 107 = .ok (.return_, 1) := by decide +kernel
theorem dX12_oneHour_0 : decode cX12_oneHour 0 = .ok (.aload_n 0, 1) := by decide +kernel
theorem dX12_oneHour_1 : decode cX12_oneHour 1 = .ok (.getfield 7, 3) := by decide +kernel
theorem dX12_oneHour_4 : decode cX12_oneHour 4 = .ok (.bipush 11, 2) := by decide +kernel
theorem dX12_oneHour_6 : decode cX12_oneHour 6 = .ok (.dup2, 1) := by decide +kernel
theorem dX12_oneHour_7 : decode cX12_oneHour 7 = .ok (.iaload, 1) := by decide +kernel
theorem dX12_oneHour_8 : decode cX12_oneHour 8 = .ok (.iconst 1, 1) := by decide +kernel
theorem dX12_oneHour_9 : decode cX12_oneHour 9 = .ok (.iadd, 1) := by decide +kernel
theorem dX12_oneHour_10 : decode cX12_oneHour 10 = .ok (.iastore, 1) := by decide +kernel
theorem dX12_oneHour_11 : decode cX12_oneHour 11 = .ok (.iconst 0, 1) := by decide +kernel
theorem dX12_oneHour_12 : decode cX12_oneHour 12 = .ok (.istore_n 1, 1) := by decide +kernel
theorem dX12_oneHour_13 : decode cX12_oneHour 13 = .ok (.iload_n 1, 1) := by decide +kernel
theorem dX12_oneHour_14 : decode cX12_oneHour 14 = .ok (.aload_n 0, 1) := by decide +kernel
theorem dX12_oneHour_15 : decode cX12_oneHour 15 = .ok (.getfield 7, 3) := by decide +kernel
theorem dX12_oneHour_18 : decode cX12_oneHour 18 = .ok (.bipush 10, 2) := by decide +kernel
theorem dX12_oneHour_20 : decode cX12_oneHour 20 = .ok (.iaload, 1) := by decide +kernel
theorem dX12_oneHour_21 : decode cX12_oneHour 21 = .ok (.if_icmp .ge 56, 3) := by decide +kernel
theorem dX12_oneHour_24 : decode cX12_oneHour 24 = .ok (.aload_n 0, 1) := by decide +kernel
theorem dX12_oneHour_25 : decode cX12_oneHour 25 = .ok (.getfield 7, 3) := by decide +kernel
theorem dX12_oneHour_28 : decode cX12_oneHour 28 = .ok (.bipush 11, 2) := by decide +kernel
theorem dX12_oneHour_30 : decode cX12_oneHour 30 = .ok (.iaload, 1) := by decide +kernel
theorem dX12_oneHour_31 : decode cX12_oneHour 31 = .ok (.aload_n 0, 1) := by decide +kernel
theorem dX12_oneHour_32 : decode cX12_oneHour 32 = .ok (.iload_n 1, 1) := by decide +kernel
theorem dX12_oneHour_33 : decode cX12_oneHour 33 = .ok (.iconst 2, 1) := by decide +kernel
theorem dX12_oneHour_34 : decode cX12_oneHour 34 = .ok (.invokevirtual 84, 3) := by decide +kernel
theorem dX12_oneHour_37 : decode cX12_oneHour 37 = .ok (.irem, 1) := by decide +kernel
theorem dX12_oneHour_38 : decode cX12_oneHour 38 = .ok (.ifCond .ne 33, 3) := by decide +kernel
theorem dX12_oneHour_41 : decode cX12_oneHour 41 = .ok (.aload_n 0, 1) := by decide +kernel
theorem dX12_oneHour_42 : decode cX12_oneHour 42 = .ok (.getfield 7, 3) := by decide +kernel
theorem dX12_oneHour_45 : decode cX12_oneHour 45 = .ok (.bipush 47, 2) := by decide +kernel
theorem dX12_oneHour_47 : decode cX12_oneHour 47 = .ok (.iconst 3, 1) := by decide +kernel
theorem dX12_oneHour_48 : decode cX12_oneHour 48 = .ok (.iload_n 1, 1) := by decide +kernel
theorem dX12_oneHour_49 : decode cX12_oneHour 49 = .ok (.imul, 1) := by decide +kernel
theorem dX12_oneHour_50 : decode cX12_oneHour 50 = .ok (.iadd, 1) := by decide +kernel
theorem dX12_oneHour_51 : decode cX12_oneHour 51 = .ok (.aload_n 0, 1) := by decide +kernel
theorem dX12_oneHour_52 : decode cX12_oneHour 52 = .ok (.iload_n 1, 1) := by decide +kernel
theorem dX12_oneHour_53 : decode cX12_oneHour 53 = .ok (.iconst 0, 1) := by decide +kernel
theorem dX12_oneHour_54 : decode cX12_oneHour 54 = .ok (.invokevirtual 84, 3) := by decide +kernel
theorem dX12_oneHour_57 : decode cX12_oneHour 57 = .ok (.aload_n 0, 1) := by decide +kernel
theorem dX12_oneHour_58 : decode cX12_oneHour 58 = .ok (.iload_n 1, 1) := by decide +kernel
theorem dX12_oneHour_59 : decode cX12_oneHour 59 = .ok (.iconst 1, 1) := by decide +kernel
theorem dX12_oneHour_60 : decode cX12_oneHour 60 = .ok (.invokevirtual 84, 3) := by decide +kernel
theorem dX12_oneHour_63 : decode cX12_oneHour 63 = .ok (.iadd, 1) := by decide +kernel
theorem dX12_oneHour_64 : decode cX12_oneHour 64 = .ok (.bipush 8, 2) := by decide +kernel
theorem dX12_oneHour_66 : decode cX12_oneHour 66 = .ok (.iadd, 1) := by decide +kernel
theorem dX12_oneHour_67 : decode cX12_oneHour 67 = .ok (.bipush 8, 2) := by decide +kernel
theorem dX12_oneHour_69 : decode cX12_oneHour 69 = .ok (.irem, 1) := by decide +kernel
theorem dX12_oneHour_70 : decode cX12_oneHour 70 = .ok (.iastore, 1) := by decide +kernel
theorem dX12_oneHour_71 : decode cX12_oneHour 71 = .ok (.iinc 1 1, 3) := by decide +kernel
theorem dX12_oneHour_74 : decode cX12_oneHour 74 = .ok (.goto (-61), 3) := by decide +kernel
theorem dX12_oneHour_77 : decode cX12_oneHour 77 = .ok (.iconst 0, 1) := by decide +kernel
theorem dX12_oneHour_78 : decode cX12_oneHour 78 = .ok (.istore_n 1, 1) := by decide +kernel
theorem dX12_oneHour_79 : decode cX12_oneHour 79 = .ok (.iconst 0, 1) := by decide +kernel
theorem dX12_oneHour_80 : decode cX12_oneHour 80 = .ok (.istore_n 2, 1) := by decide +kernel
theorem dX12_oneHour_81 : decode cX12_oneHour 81 = .ok (.iload_n 2, 1) := by decide +kernel
theorem dX12_oneHour_82 : decode cX12_oneHour 82 = .ok (.bipush 8, 2) := by decide +kernel
theorem dX12_oneHour_84 : decode cX12_oneHour 84 = .ok (.if_icmp .ge 122, 3) := by decide +kernel
theorem dX12_oneHour_87 : decode cX12_oneHour 87 = .ok (.aload_n 0, 1) := by decide +kernel
theorem dX12_oneHour_88 : decode cX12_oneHour 88 = .ok (.getfield 7, 3) := by decide +kernel
theorem dX12_oneHour_91 : decode cX12_oneHour 91 = .ok (.bipush 31, 2) := by decide +kernel
theorem dX12_oneHour_93 : decode cX12_oneHour 93 = .ok (.iload_n 2, 1) := by decide +kernel
theorem dX12_oneHour_94 : decode cX12_oneHour 94 = .ok (.iadd, 1) := by decide +kernel
theorem dX12_oneHour_95 : decode cX12_oneHour 95 = .ok (.iaload, 1) := by decide +kernel
theorem dX12_oneHour_96 : decode cX12_oneHour 96 = .ok (.istore_n 3, 1) := by decide +kernel
theorem dX12_oneHour_97 : decode cX12_oneHour 97 = .ok (.aload_n 0, 1) := by decide +kernel
theorem dX12_oneHour_98 : decode cX12_oneHour 98 = .ok (.iload_n 2, 1) := by decide +kernel
theorem dX12_oneHour_99 : decode cX12_oneHour 99 = .ok (.invokevirtual 87, 3) := by decide +kernel
theorem dX12_oneHour_102 : decode cX12_oneHour 102 = .ok (.ifCond .ne 20, 3) := by decide +kernel
theorem dX12_oneHour_105 : decode cX12_oneHour 105 = .ok (.iload_n 3, 1) := by decide +kernel
theorem dX12_oneHour_106 : decode cX12_oneHour 106 = .ok (.iconst 5, 1) := by decide +kernel
theorem dX12_oneHour_107 : decode cX12_oneHour 107 = .ok (.if_icmp .lt 15, 3) := by decide +kernel
theorem dX12_oneHour_110 : decode cX12_oneHour 110 = .ok (.aload_n 0, 1) := by decide +kernel
theorem dX12_oneHour_111 : decode cX12_oneHour 111 = .ok (.iload_n 2, 1) := by decide +kernel
theorem dX12_oneHour_112 : decode cX12_oneHour 112 = .ok (.invokevirtual 91, 3) := by decide +kernel
theorem dX12_oneHour_115 : decode cX12_oneHour 115 = .ok (.ifCond .ne 7, 3) := by decide +kernel
theorem dX12_oneHour_118 : decode cX12_oneHour 118 = .ok (.iconst 1, 1) := by decide +kernel
theorem dX12_oneHour_119 : decode cX12_oneHour 119 = .ok (.goto 4, 3) := by decide +kernel
theorem dX12_oneHour_122 : decode cX12_oneHour 122 = .ok (.iconst 0, 1) := by decide +kernel
theorem dX12_oneHour_123 : decode cX12_oneHour 123 = .ok (.istore 4, 2) := by decide +kernel
theorem dX12_oneHour_125 : decode cX12_oneHour 125 = .ok (.aload_n 0, 1) := by decide +kernel
theorem dX12_oneHour_126 : decode cX12_oneHour 126 = .ok (.getfield 7, 3) := by decide +kernel
theorem dX12_oneHour_129 : decode cX12_oneHour 129 = .ok (.bipush 31, 2) := by decide +kernel
theorem dX12_oneHour_131 : decode cX12_oneHour 131 = .ok (.iload_n 2, 1) := by decide +kernel
theorem dX12_oneHour_132 : decode cX12_oneHour 132 = .ok (.iadd, 1) := by decide +kernel
theorem dX12_oneHour_133 : decode cX12_oneHour 133 = .ok (.aload_n 0, 1) := by decide +kernel
theorem dX12_oneHour_134 : decode cX12_oneHour 134 = .ok (.iload_n 2, 1) := by decide +kernel
theorem dX12_oneHour_135 : decode cX12_oneHour 135 = .ok (.invokevirtual 87, 3) := by decide +kernel
theorem dX12_oneHour_138 : decode cX12_oneHour 138 = .ok (.ifCond .ne 12, 3) := by decide +kernel
theorem dX12_oneHour_141 : decode cX12_oneHour 141 = .ok (.iload 4, 2) := by decide +kernel
theorem dX12_oneHour_143 : decode cX12_oneHour 143 = .ok (.ifCond .ne 7, 3) := by decide +kernel
theorem dX12_oneHour_146 : decode cX12_oneHour 146 = .ok (.iload_n 3, 1) := by decide +kernel
theorem dX12_oneHour_147 : decode cX12_oneHour 147 = .ok (.ifCond .ne 7, 3) := by decide +kernel
theorem dX12_oneHour_150 : decode cX12_oneHour 150 = .ok (.iconst 0, 1) := by decide +kernel
theorem dX12_oneHour_151 : decode cX12_oneHour 151 = .ok (.goto 6, 3) := by decide +kernel
theorem dX12_oneHour_154 : decode cX12_oneHour 154 = .ok (.iload_n 3, 1) := by decide +kernel
theorem dX12_oneHour_155 : decode cX12_oneHour 155 = .ok (.iconst 1, 1) := by decide +kernel
theorem dX12_oneHour_156 : decode cX12_oneHour 156 = .ok (.isub, 1) := by decide +kernel
theorem dX12_oneHour_157 : decode cX12_oneHour 157 = .ok (.iastore, 1) := by decide +kernel
theorem dX12_oneHour_158 : decode cX12_oneHour 158 = .ok (.iload 4, 2) := by decide +kernel
theorem dX12_oneHour_160 : decode cX12_oneHour 160 = .ok (.ifCond .ne 6, 3) := by decide +kernel
theorem dX12_oneHour_163 : decode cX12_oneHour 163 = .ok (.goto 37, 3) := by decide +kernel
theorem dX12_oneHour_166 : decode cX12_oneHour 166 = .ok (.aload_n 0, 1) := by decide +kernel
theorem dX12_oneHour_167 : decode cX12_oneHour 167 = .ok (.getfield 7, 3) := by decide +kernel
theorem dX12_oneHour_170 : decode cX12_oneHour 170 = .ok (.bipush 39, 2) := by decide +kernel
theorem dX12_oneHour_172 : decode cX12_oneHour 172 = .ok (.iload_n 2, 1) := by decide +kernel
theorem dX12_oneHour_173 : decode cX12_oneHour 173 = .ok (.iadd, 1) := by decide +kernel
theorem dX12_oneHour_174 : decode cX12_oneHour 174 = .ok (.dup2, 1) := by decide +kernel
theorem dX12_oneHour_175 : decode cX12_oneHour 175 = .ok (.iaload, 1) := by decide +kernel
theorem dX12_oneHour_176 : decode cX12_oneHour 176 = .ok (.iconst 1, 1) := by decide +kernel
theorem dX12_oneHour_177 : decode cX12_oneHour 177 = .ok (.iadd, 1) := by decide +kernel
theorem dX12_oneHour_178 : decode cX12_oneHour 178 = .ok (.iastore, 1) := by decide +kernel
theorem dX12_oneHour_179 : decode cX12_oneHour 179 = .ok (.aload_n 0, 1) := by decide +kernel
theorem dX12_oneHour_180 : decode cX12_oneHour 180 = .ok (.getfield 7, 3) := by decide +kernel
theorem dX12_oneHour_183 : decode cX12_oneHour 183 = .ok (.bipush 13, 2) := by decide +kernel
theorem dX12_oneHour_185 : decode cX12_oneHour 185 = .ok (.dup2, 1) := by decide +kernel
theorem dX12_oneHour_186 : decode cX12_oneHour 186 = .ok (.iaload, 1) := by decide +kernel
theorem dX12_oneHour_187 : decode cX12_oneHour 187 = .ok (.iconst 1, 1) := by decide +kernel
theorem dX12_oneHour_188 : decode cX12_oneHour 188 = .ok (.iadd, 1) := by decide +kernel
theorem dX12_oneHour_189 : decode cX12_oneHour 189 = .ok (.iastore, 1) := by decide +kernel
theorem dX12_oneHour_190 : decode cX12_oneHour 190 = .ok (.aload_n 0, 1) := by decide +kernel
theorem dX12_oneHour_191 : decode cX12_oneHour 191 = .ok (.bipush 97, 2) := by decide +kernel
theorem dX12_oneHour_193 : decode cX12_oneHour 193 = .ok (.iload_n 2, 1) := by decide +kernel
theorem dX12_oneHour_194 : decode cX12_oneHour 194 = .ok (.invokevirtual 94, 3) := by decide +kernel
theorem dX12_oneHour_197 : decode cX12_oneHour 197 = .ok (.iinc 1 1, 3) := by decide +kernel
theorem dX12_oneHour_200 : decode cX12_oneHour 200 = .ok (.iinc 2 1, 3) := by decide +kernel
theorem dX12_oneHour_203 : decode cX12_oneHour 203 = .ok (.goto (-122), 3) := by decide +kernel
theorem dX12_oneHour_206 : decode cX12_oneHour 206 = .ok (.aload_n 0, 1) := by decide +kernel
theorem dX12_oneHour_207 : decode cX12_oneHour 207 = .ok (.getfield 7, 3) := by decide +kernel
theorem dX12_oneHour_210 : decode cX12_oneHour 210 = .ok (.bipush 7, 2) := by decide +kernel
theorem dX12_oneHour_212 : decode cX12_oneHour 212 = .ok (.dup2, 1) := by decide +kernel
theorem dX12_oneHour_213 : decode cX12_oneHour 213 = .ok (.iaload, 1) := by decide +kernel
theorem dX12_oneHour_214 : decode cX12_oneHour 214 = .ok (.aload_n 0, 1) := by decide +kernel
theorem dX12_oneHour_215 : decode cX12_oneHour 215 = .ok (.getfield 7, 3) := by decide +kernel
theorem dX12_oneHour_218 : decode cX12_oneHour 218 = .ok (.bipush 7, 2) := by decide +kernel
theorem dX12_oneHour_220 : decode cX12_oneHour 220 = .ok (.iaload, 1) := by decide +kernel
theorem dX12_oneHour_221 : decode cX12_oneHour 221 = .ok (.ifCond .le 7, 3) := by decide +kernel
theorem dX12_oneHour_224 : decode cX12_oneHour 224 = .ok (.iconst 1, 1) := by decide +kernel
theorem dX12_oneHour_225 : decode cX12_oneHour 225 = .ok (.goto 4, 3) := by decide +kernel
theorem dX12_oneHour_228 : decode cX12_oneHour 228 = .ok (.iconst 0, 1) := by decide +kernel
theorem dX12_oneHour_229 : decode cX12_oneHour 229 = .ok (.isub, 1) := by decide +kernel
theorem dX12_oneHour_230 : decode cX12_oneHour 230 = .ok (.iastore, 1) := by decide +kernel
theorem dX12_oneHour_231 : decode cX12_oneHour 231 = .ok (.iload_n 1, 1) := by decide +kernel
theorem dX12_oneHour_232 : decode cX12_oneHour 232 = .ok (.ireturn, 1) := by decide +kernel
theorem dX12_thinks_0 : decode cX12_thinks 0 = .ok (.iconst 0, 1) := by decide +kernel
theorem dX12_thinks_1 : decode cX12_thinks 1 = .ok (.istore_n 1, 1) := by decide +kernel
theorem dX12_thinks_2 : decode cX12_thinks 2 = .ok (.iload_n 1, 1) := by decide +kernel
theorem dX12_thinks_3 : decode cX12_thinks 3 = .ok (.bipush 92, 2) := by decide +kernel
theorem dX12_thinks_5 : decode cX12_thinks 5 = .ok (.if_icmp .ge 21, 3) := by decide +kernel
theorem dX12_thinks_8 : decode cX12_thinks 8 = .ok (.aload_n 0, 1) := by decide +kernel
theorem dX12_thinks_9 : decode cX12_thinks 9 = .ok (.getfield 22, 3) := by decide +kernel
theorem dX12_thinks_12 : decode cX12_thinks 12 = .ok (.iload_n 1, 1) := by decide +kernel
theorem dX12_thinks_13 : decode cX12_thinks 13 = .ok (.aload_n 0, 1) := by decide +kernel
theorem dX12_thinks_14 : decode cX12_thinks 14 = .ok (.getfield 7, 3) := by decide +kernel
theorem dX12_thinks_17 : decode cX12_thinks 17 = .ok (.iload_n 1, 1) := by decide +kernel
theorem dX12_thinks_18 : decode cX12_thinks 18 = .ok (.iaload, 1) := by decide +kernel
theorem dX12_thinks_19 : decode cX12_thinks 19 = .ok (.iastore, 1) := by decide +kernel
theorem dX12_thinks_20 : decode cX12_thinks 20 = .ok (.iinc 1 1, 3) := by decide +kernel
theorem dX12_thinks_23 : decode cX12_thinks 23 = .ok (.goto (-21), 3) := by decide +kernel
theorem dX12_thinks_26 : decode cX12_thinks 26 = .ok (.return_, 1) := by decide +kernel
theorem dX12_back_0 : decode cX12_back 0 = .ok (.iconst 0, 1) := by decide +kernel
theorem dX12_back_1 : decode cX12_back 1 = .ok (.istore_n 1, 1) := by decide +kernel
theorem dX12_back_2 : decode cX12_back 2 = .ok (.iload_n 1, 1) := by decide +kernel
theorem dX12_back_3 : decode cX12_back 3 = .ok (.bipush 92, 2) := by decide +kernel
theorem dX12_back_5 : decode cX12_back 5 = .ok (.if_icmp .ge 21, 3) := by decide +kernel
theorem dX12_back_8 : decode cX12_back 8 = .ok (.aload_n 0, 1) := by decide +kernel
theorem dX12_back_9 : decode cX12_back 9 = .ok (.getfield 7, 3) := by decide +kernel
theorem dX12_back_12 : decode cX12_back 12 = .ok (.iload_n 1, 1) := by decide +kernel
theorem dX12_back_13 : decode cX12_back 13 = .ok (.aload_n 0, 1) := by decide +kernel
theorem dX12_back_14 : decode cX12_back 14 = .ok (.getfield 22, 3) := by decide +kernel
theorem dX12_back_17 : decode cX12_back 17 = .ok (.iload_n 1, 1) := by decide +kernel
theorem dX12_back_18 : decode cX12_back 18 = .ok (.iaload, 1) := by decide +kernel
theorem dX12_back_19 : decode cX12_back 19 = .ok (.iastore, 1) := by decide +kernel
theorem dX12_back_20 : decode cX12_back 20 = .ok (.iinc 1 1, 3) := by decide +kernel
theorem dX12_back_23 : decode cX12_back 23 = .ok (.goto (-21), 3) := by decide +kernel
theorem dX12_back_26 : decode cX12_back 26 = .ok (.return_, 1) := by decide +kernel
theorem dX12_adds_0 : decode cX12_adds 0 = .ok (.aload_n 0, 1) := by decide +kernel
theorem dX12_adds_1 : decode cX12_adds 1 = .ok (.getfield 7, 3) := by decide +kernel
theorem dX12_adds_4 : decode cX12_adds 4 = .ok (.iconst 0, 1) := by decide +kernel
theorem dX12_adds_5 : decode cX12_adds 5 = .ok (.iaload, 1) := by decide +kernel
theorem dX12_adds_6 : decode cX12_adds 6 = .ok (.istore_n 1, 1) := by decide +kernel
theorem dX12_adds_7 : decode cX12_adds 7 = .ok (.iload_n 1, 1) := by decide +kernel
theorem dX12_adds_8 : decode cX12_adds 8 = .ok (.bipush 8, 2) := by decide +kernel
theorem dX12_adds_10 : decode cX12_adds 10 = .ok (.if_icmp .ne 11, 3) := by decide +kernel
theorem dX12_adds_13 : decode cX12_adds 13 = .ok (.aload_n 0, 1) := by decide +kernel
theorem dX12_adds_14 : decode cX12_adds 14 = .ok (.iconst 1, 1) := by decide +kernel
theorem dX12_adds_15 : decode cX12_adds 15 = .ok (.bipush 8, 2) := by decide +kernel
theorem dX12_adds_17 : decode cX12_adds 17 = .ok (.invokevirtual 98, 3) := by decide +kernel
theorem dX12_adds_20 : decode cX12_adds 20 = .ok (.ireturn, 1) := by decide +kernel
theorem dX12_adds_21 : decode cX12_adds 21 = .ok (.aload_n 0, 1) := by decide +kernel
theorem dX12_adds_22 : decode cX12_adds 22 = .ok (.getfield 7, 3) := by decide +kernel
theorem dX12_adds_25 : decode cX12_adds 25 = .ok (.bipush 15, 2) := by decide +kernel
theorem dX12_adds_27 : decode cX12_adds 27 = .ok (.iload_n 1, 1) := by decide +kernel
theorem dX12_adds_28 : decode cX12_adds 28 = .ok (.iadd, 1) := by decide +kernel
theorem dX12_adds_29 : decode cX12_adds 29 = .ok (.aload_n 0, 1) := by decide +kernel
theorem dX12_adds_30 : decode cX12_adds 30 = .ok (.iload_n 1, 1) := by decide +kernel
theorem dX12_adds_31 : decode cX12_adds 31 = .ok (.invokevirtual 101, 3) := by decide +kernel
theorem dX12_adds_34 : decode cX12_adds 34 = .ok (.iastore, 1) := by decide +kernel
theorem dX12_adds_35 : decode cX12_adds 35 = .ok (.aload_n 0, 1) := by decide +kernel
theorem dX12_adds_36 : decode cX12_adds 36 = .ok (.getfield 7, 3) := by decide +kernel
theorem dX12_adds_39 : decode cX12_adds 39 = .ok (.iconst 0, 1) := by decide +kernel
theorem dX12_adds_40 : decode cX12_adds 40 = .ok (.iload_n 1, 1) := by decide +kernel
theorem dX12_adds_41 : decode cX12_adds 41 = .ok (.iconst 1, 1) := by decide +kernel
theorem dX12_adds_42 : decode cX12_adds 42 = .ok (.iadd, 1) := by decide +kernel
theorem dX12_adds_43 : decode cX12_adds 43 = .ok (.iastore, 1) := by decide +kernel
theorem dX12_adds_44 : decode cX12_adds 44 = .ok (.aload_n 0, 1) := by decide +kernel
theorem dX12_adds_45 : decode cX12_adds 45 = .ok (.iload_n 1, 1) := by decide +kernel
theorem dX12_adds_46 : decode cX12_adds 46 = .ok (.invokevirtual 104, 3) := by decide +kernel
theorem dX12_adds_49 : decode cX12_adds 49 = .ok (.ireturn, 1) := by decide +kernel
theorem dX12_seals_0 : decode cX12_seals 0 = .ok (.iload_n 1, 1) := by decide +kernel
theorem dX12_seals_1 : decode cX12_seals 1 = .ok (.iconst 0, 1) := by decide +kernel
theorem dX12_seals_2 : decode cX12_seals 2 = .ok (.bipush 96, 2) := by decide +kernel
theorem dX12_seals_4 : decode cX12_seals 4 = .ok (.invokestatic 66, 3) := by decide +kernel
theorem dX12_seals_7 : decode cX12_seals 7 = .ok (.ifCond .eq 33, 3) := by decide +kernel
theorem dX12_seals_10 : decode cX12_seals 10 = .ok (.iload_n 2, 1) := by decide +kernel
theorem dX12_seals_11 : decode cX12_seals 11 = .ok (.iconst 0, 1) := by decide +kernel
theorem dX12_seals_12 : decode cX12_seals 12 = .ok (.bipush 96, 2) := by decide +kernel
theorem dX12_seals_14 : decode cX12_seals 14 = .ok (.invokestatic 66, 3) := by decide +kernel
theorem dX12_seals_17 : decode cX12_seals 17 = .ok (.ifCond .eq 23, 3) := by decide +kernel
theorem dX12_seals_20 : decode cX12_seals 20 = .ok (.iload_n 3, 1) := by decide +kernel
theorem dX12_seals_21 : decode cX12_seals 21 = .ok (.iconst 0, 1) := by decide +kernel
theorem dX12_seals_22 : decode cX12_seals 22 = .ok (.bipush 96, 2) := by decide +kernel
theorem dX12_seals_24 : decode cX12_seals 24 = .ok (.invokestatic 66, 3) := by decide +kernel
theorem dX12_seals_27 : decode cX12_seals 27 = .ok (.ifCond .eq 13, 3) := by decide +kernel
theorem dX12_seals_30 : decode cX12_seals 30 = .ok (.iload 4, 2) := by decide +kernel
theorem dX12_seals_32 : decode cX12_seals 32 = .ok (.iconst 1, 1) := by decide +kernel
theorem dX12_seals_33 : decode cX12_seals 33 = .ok (.iconst 3, 1) := by decide +kernel
theorem dX12_seals_34 : decode cX12_seals 34 = .ok (.invokestatic 66, 3) := by decide +kernel
theorem dX12_seals_37 : decode cX12_seals 37 = .ok (.ifCond .ne 5, 3) := by decide +kernel
theorem dX12_seals_40 : decode cX12_seals 40 = .ok (.iconst 1, 1) := by decide +kernel
theorem dX12_seals_41 : decode cX12_seals 41 = .ok (.ireturn, 1) := by decide +kernel
theorem dX12_seals_42 : decode cX12_seals 42 = .ok (.aload_n 0, 1) := by decide +kernel
theorem dX12_seals_43 : decode cX12_seals 43 = .ok (.getfield 7, 3) := by decide +kernel
theorem dX12_seals_46 : decode cX12_seals 46 = .ok (.iconst 0, 1) := by decide +kernel
theorem dX12_seals_47 : decode cX12_seals 47 = .ok (.iaload, 1) := by decide +kernel
theorem dX12_seals_48 : decode cX12_seals 48 = .ok (.iload 4, 2) := by decide +kernel
theorem dX12_seals_50 : decode cX12_seals 50 = .ok (.if_icmp .ge 15, 3) := by decide +kernel
theorem dX12_seals_53 : decode cX12_seals 53 = .ok (.aload_n 0, 1) := by decide +kernel
theorem dX12_seals_54 : decode cX12_seals 54 = .ok (.iconst 2, 1) := by decide +kernel
theorem dX12_seals_55 : decode cX12_seals 55 = .ok (.aload_n 0, 1) := by decide +kernel
theorem dX12_seals_56 : decode cX12_seals 56 = .ok (.getfield 7, 3) := by decide +kernel
theorem dX12_seals_59 : decode cX12_seals 59 = .ok (.iconst 0, 1) := by decide +kernel
theorem dX12_seals_60 : decode cX12_seals 60 = .ok (.iaload, 1) := by decide +kernel
theorem dX12_seals_61 : decode cX12_seals 61 = .ok (.invokevirtual 98, 3) := by decide +kernel
theorem dX12_seals_64 : decode cX12_seals 64 = .ok (.ireturn, 1) := by decide +kernel
theorem dX12_seals_65 : decode cX12_seals 65 = .ok (.aload_n 0, 1) := by decide +kernel
theorem dX12_seals_66 : decode cX12_seals 66 = .ok (.getfield 7, 3) := by decide +kernel
theorem dX12_seals_69 : decode cX12_seals 69 = .ok (.iconst 1, 1) := by decide +kernel
theorem dX12_seals_70 : decode cX12_seals 70 = .ok (.iconst 1, 1) := by decide +kernel
theorem dX12_seals_71 : decode cX12_seals 71 = .ok (.iastore, 1) := by decide +kernel
theorem dX12_seals_72 : decode cX12_seals 72 = .ok (.aload_n 0, 1) := by decide +kernel
theorem dX12_seals_73 : decode cX12_seals 73 = .ok (.getfield 7, 3) := by decide +kernel
theorem dX12_seals_76 : decode cX12_seals 76 = .ok (.iconst 2, 1) := by decide +kernel
theorem dX12_seals_77 : decode cX12_seals 77 = .ok (.iload_n 1, 1) := by decide +kernel
theorem dX12_seals_78 : decode cX12_seals 78 = .ok (.iastore, 1) := by decide +kernel
theorem dX12_seals_79 : decode cX12_seals 79 = .ok (.aload_n 0, 1) := by decide +kernel
theorem dX12_seals_80 : decode cX12_seals 80 = .ok (.getfield 7, 3) := by decide +kernel
theorem dX12_seals_83 : decode cX12_seals 83 = .ok (.iconst 3, 1) := by decide +kernel
theorem dX12_seals_84 : decode cX12_seals 84 = .ok (.iload 4, 2) := by decide +kernel
theorem dX12_seals_86 : decode cX12_seals 86 = .ok (.iconst 1, 1) := by decide +kernel
theorem dX12_seals_87 : decode cX12_seals 87 = .ok (.if_icmp .le 7, 3) := by decide +kernel
theorem dX12_seals_90 : decode cX12_seals 90 = .ok (.iload_n 2, 1) := by decide +kernel
theorem dX12_seals_91 : decode cX12_seals 91 = .ok (.goto 4, 3) := by decide +kernel
theorem dX12_seals_94 : decode cX12_seals 94 = .ok (.iconst 0, 1) := by decide +kernel
theorem dX12_seals_95 : decode cX12_seals 95 = .ok (.iastore, 1) := by decide +kernel
theorem dX12_seals_96 : decode cX12_seals 96 = .ok (.aload_n 0, 1) := by decide +kernel
theorem dX12_seals_97 : decode cX12_seals 97 = .ok (.getfield 7, 3) := by decide +kernel
theorem dX12_seals_100 : decode cX12_seals 100 = .ok (.iconst 4, 1) := by decide +kernel
theorem dX12_seals_101 : decode cX12_seals 101 = .ok (.iload 4, 2) := by decide +kernel
theorem dX12_seals_103 : decode cX12_seals 103 = .ok (.iconst 2, 1) := by decide +kernel
theorem dX12_seals_104 : decode cX12_seals 104 = .ok (.if_icmp .le 7, 3) := by decide +kernel
theorem dX12_seals_107 : decode cX12_seals 107 = .ok (.iload_n 3, 1) := by decide +kernel
theorem dX12_seals_108 : decode cX12_seals 108 = .ok (.goto 4, 3) := by decide +kernel
theorem dX12_seals_111 : decode cX12_seals 111 = .ok (.iconst 0, 1) := by decide +kernel
theorem dX12_seals_112 : decode cX12_seals 112 = .ok (.iastore, 1) := by decide +kernel
theorem dX12_seals_113 : decode cX12_seals 113 = .ok (.aload_n 0, 1) := by decide +kernel
theorem dX12_seals_114 : decode cX12_seals 114 = .ok (.getfield 7, 3) := by decide +kernel
theorem dX12_seals_117 : decode cX12_seals 117 = .ok (.iconst 5, 1) := by decide +kernel
theorem dX12_seals_118 : decode cX12_seals 118 = .ok (.iload 4, 2) := by decide +kernel
theorem dX12_seals_120 : decode cX12_seals 120 = .ok (.iastore, 1) := by decide +kernel
theorem dX12_seals_121 : decode cX12_seals 121 = .ok (.aload_n 0, 1) := by decide +kernel
theorem dX12_seals_122 : decode cX12_seals 122 = .ok (.getfield 7, 3) := by decide +kernel
theorem dX12_seals_125 : decode cX12_seals 125 = .ok (.bipush 6, 2) := by decide +kernel
theorem dX12_seals_127 : decode cX12_seals 127 = .ok (.iconst 0, 1) := by decide +kernel
theorem dX12_seals_128 : decode cX12_seals 128 = .ok (.iastore, 1) := by decide +kernel
theorem dX12_seals_129 : decode cX12_seals 129 = .ok (.aload_n 0, 1) := by decide +kernel
theorem dX12_seals_130 : decode cX12_seals 130 = .ok (.getfield 7, 3) := by decide +kernel
theorem dX12_seals_133 : decode cX12_seals 133 = .ok (.bipush 7, 2) := by decide +kernel
theorem dX12_seals_135 : decode cX12_seals 135 = .ok (.iconst 0, 1) := by decide +kernel
theorem dX12_seals_136 : decode cX12_seals 136 = .ok (.iastore, 1) := by decide +kernel
theorem dX12_seals_137 : decode cX12_seals 137 = .ok (.aload_n 0, 1) := by decide +kernel
theorem dX12_seals_138 : decode cX12_seals 138 = .ok (.getfield 7, 3) := by decide +kernel
theorem dX12_seals_141 : decode cX12_seals 141 = .ok (.bipush 8, 2) := by decide +kernel
theorem dX12_seals_143 : decode cX12_seals 143 = .ok (.iconst 0, 1) := by decide +kernel
theorem dX12_seals_144 : decode cX12_seals 144 = .ok (.iastore, 1) := by decide +kernel
theorem dX12_seals_145 : decode cX12_seals 145 = .ok (.aload_n 0, 1) := by decide +kernel
theorem dX12_seals_146 : decode cX12_seals 146 = .ok (.invokevirtual 107, 3) := by decide +kernel
theorem dX12_seals_149 : decode cX12_seals 149 = .ok (.iconst 0, 1) := by decide +kernel
theorem dX12_seals_150 : decode cX12_seals 150 = .ok (.istore 5, 2) := by decide +kernel
theorem dX12_seals_152 : decode cX12_seals 152 = .ok (.iload 5, 2) := by decide +kernel
theorem dX12_seals_154 : decode cX12_seals 154 = .ok (.aload_n 0, 1) := by decide +kernel
theorem dX12_seals_155 : decode cX12_seals 155 = .ok (.getfield 7, 3) := by decide +kernel
theorem dX12_seals_158 : decode cX12_seals 158 = .ok (.iconst 0, 1) := by decide +kernel
theorem dX12_seals_159 : decode cX12_seals 159 = .ok (.iaload, 1) := by decide +kernel
theorem dX12_seals_160 : decode cX12_seals 160 = .ok (.if_icmp .ge 25, 3) := by decide +kernel
theorem dX12_seals_163 : decode cX12_seals 163 = .ok (.aload_n 0, 1) := by decide +kernel
theorem dX12_seals_164 : decode cX12_seals 164 = .ok (.getfield 7, 3) := by decide +kernel
theorem dX12_seals_167 : decode cX12_seals 167 = .ok (.bipush 15, 2) := by decide +kernel
theorem dX12_seals_169 : decode cX12_seals 169 = .ok (.iload 5, 2) := by decide +kernel
theorem dX12_seals_171 : decode cX12_seals 171 = .ok (.iadd, 1) := by decide +kernel
theorem dX12_seals_172 : decode cX12_seals 172 = .ok (.aload_n 0, 1) := by decide +kernel
theorem dX12_seals_173 : decode cX12_seals 173 = .ok (.iload 5, 2) := by decide +kernel
theorem dX12_seals_175 : decode cX12_seals 175 = .ok (.invokevirtual 101, 3) := by decide +kernel
theorem dX12_seals_178 : decode cX12_seals 178 = .ok (.iastore, 1) := by decide +kernel
theorem dX12_seals_179 : decode cX12_seals 179 = .ok (.iinc 5 1, 3) := by decide +kernel
theorem dX12_seals_182 : decode cX12_seals 182 = .ok (.goto (-30), 3) := by decide +kernel
theorem dX12_seals_185 : decode cX12_seals 185 = .ok (.aload_n 0, 1) := by decide +kernel
theorem dX12_seals_186 : decode cX12_seals 186 = .ok (.aload_n 0, 1) := by decide +kernel
theorem dX12_seals_187 : decode cX12_seals 187 = .ok (.getfield 7, 3) := by decide +kernel
theorem dX12_seals_190 : decode cX12_seals 190 = .ok (.iconst 0, 1) := by decide +kernel
theorem dX12_seals_191 : decode cX12_seals 191 = .ok (.iaload, 1) := by decide +kernel
theorem dX12_seals_192 : decode cX12_seals 192 = .ok (.invokevirtual 104, 3) := by decide +kernel
theorem dX12_seals_195 : decode cX12_seals 195 = .ok (.ireturn, 1) := by decide +kernel
theorem dX12_clears_0 : decode cX12_clears 0 = .ok (.iconst 0, 1) := by decide +kernel
theorem dX12_clears_1 : decode cX12_clears 1 = .ok (.istore_n 1, 1) := by decide +kernel
theorem dX12_clears_2 : decode cX12_clears 2 = .ok (.iload_n 1, 1) := by decide +kernel
theorem dX12_clears_3 : decode cX12_clears 3 = .ok (.bipush 8, 2) := by decide +kernel
theorem dX12_clears_5 : decode cX12_clears 5 = .ok (.if_icmp .ge 19, 3) := by decide +kernel
theorem dX12_clears_8 : decode cX12_clears 8 = .ok (.aload_n 0, 1) := by decide +kernel
theorem dX12_clears_9 : decode cX12_clears 9 = .ok (.getfield 7, 3) := by decide +kernel
theorem dX12_clears_12 : decode cX12_clears 12 = .ok (.bipush 23, 2) := by decide +kernel
theorem dX12_clears_14 : decode cX12_clears 14 = .ok (.iload_n 1, 1) := by decide +kernel
theorem dX12_clears_15 : decode cX12_clears 15 = .ok (.iadd, 1) := by decide +kernel
theorem dX12_clears_16 : decode cX12_clears 16 = .ok (.iconst 0, 1) := by decide +kernel
theorem dX12_clears_17 : decode cX12_clears 17 = .ok (.iastore, 1) := by decide +kernel
theorem dX12_clears_18 : decode cX12_clears 18 = .ok (.iinc 1 1, 3) := by decide +kernel
theorem dX12_clears_21 : decode cX12_clears 21 = .ok (.goto (-19), 3) := by decide +kernel
theorem dX12_clears_24 : decode cX12_clears 24 = .ok (.aload_n 0, 1) := by decide +kernel
theorem dX12_clears_25 : decode cX12_clears 25 = .ok (.getfield 7, 3) := by decide +kernel
theorem dX12_clears_28 : decode cX12_clears 28 = .ok (.bipush 9, 2) := by decide +kernel
theorem dX12_clears_30 : decode cX12_clears 30 = .ok (.iconst 0, 1) := by decide +kernel
theorem dX12_clears_31 : decode cX12_clears 31 = .ok (.iastore, 1) := by decide +kernel
theorem dX12_clears_32 : decode cX12_clears 32 = .ok (.return_, 1) := by decide +kernel
theorem dX12_shares_0 : decode cX12_shares 0 = .ok (.aload_n 0, 1) := by decide +kernel
theorem dX12_shares_1 : decode cX12_shares 1 = .ok (.iload_n 1, 1) := by decide +kernel
theorem dX12_shares_2 : decode cX12_shares 2 = .ok (.invokevirtual 110, 3) := by decide +kernel
theorem dX12_shares_5 : decode cX12_shares 5 = .ok (.ifCond .ne 5, 3) := by decide +kernel
theorem dX12_shares_8 : decode cX12_shares 8 = .ok (.iconst 1, 1) := by decide +kernel
theorem dX12_shares_9 : decode cX12_shares 9 = .ok (.ireturn, 1) := by decide +kernel
theorem dX12_shares_10 : decode cX12_shares 10 = .ok (.iload_n 2, 1) := by decide +kernel
theorem dX12_shares_11 : decode cX12_shares 11 = .ok (.iconst 0, 1) := by decide +kernel
theorem dX12_shares_12 : decode cX12_shares 12 = .ok (.bipush 96, 2) := by decide +kernel
theorem dX12_shares_14 : decode cX12_shares 14 = .ok (.invokestatic 66, 3) := by decide +kernel
theorem dX12_shares_17 : decode cX12_shares 17 = .ok (.ifCond .ne 5, 3) := by decide +kernel
theorem dX12_shares_20 : decode cX12_shares 20 = .ok (.iconst 2, 1) := by decide +kernel
theorem dX12_shares_21 : decode cX12_shares 21 = .ok (.ireturn, 1) := by decide +kernel
theorem dX12_shares_22 : decode cX12_shares 22 = .ok (.aload_n 0, 1) := by decide +kernel
theorem dX12_shares_23 : decode cX12_shares 23 = .ok (.getfield 7, 3) := by decide +kernel
theorem dX12_shares_26 : decode cX12_shares 26 = .ok (.iconst 1, 1) := by decide +kernel
theorem dX12_shares_27 : decode cX12_shares 27 = .ok (.iaload, 1) := by decide +kernel
theorem dX12_shares_28 : decode cX12_shares 28 = .ok (.ifCond .ne 10, 3) := by decide +kernel
theorem dX12_shares_31 : decode cX12_shares 31 = .ok (.aload_n 0, 1) := by decide +kernel
theorem dX12_shares_32 : decode cX12_shares 32 = .ok (.iconst 3, 1) := by decide +kernel
theorem dX12_shares_33 : decode cX12_shares 33 = .ok (.iconst 0, 1) := by decide +kernel
theorem dX12_shares_34 : decode cX12_shares 34 = .ok (.invokevirtual 98, 3) := by decide +kernel
theorem dX12_shares_37 : decode cX12_shares 37 = .ok (.ireturn, 1) := by decide +kernel
theorem dX12_shares_38 : decode cX12_shares 38 = .ok (.aload_n 0, 1) := by decide +kernel
theorem dX12_shares_39 : decode cX12_shares 39 = .ok (.getfield 7, 3) := by decide +kernel
theorem dX12_shares_42 : decode cX12_shares 42 = .ok (.bipush 15, 2) := by decide +kernel
theorem dX12_shares_44 : decode cX12_shares 44 = .ok (.iload_n 1, 1) := by decide +kernel
theorem dX12_shares_45 : decode cX12_shares 45 = .ok (.iadd, 1) := by decide +kernel
theorem dX12_shares_46 : decode cX12_shares 46 = .ok (.iaload, 1) := by decide +kernel
theorem dX12_shares_47 : decode cX12_shares 47 = .ok (.istore_n 3, 1) := by decide +kernel
theorem dX12_shares_48 : decode cX12_shares 48 = .ok (.aload_n 0, 1) := by decide +kernel
theorem dX12_shares_49 : decode cX12_shares 49 = .ok (.getfield 7, 3) := by decide +kernel
theorem dX12_shares_52 : decode cX12_shares 52 = .ok (.bipush 15, 2) := by decide +kernel
theorem dX12_shares_54 : decode cX12_shares 54 = .ok (.iload_n 1, 1) := by decide +kernel
theorem dX12_shares_55 : decode cX12_shares 55 = .ok (.iadd, 1) := by decide +kernel
theorem dX12_shares_56 : decode cX12_shares 56 = .ok (.iload_n 2, 1) := by decide +kernel
theorem dX12_shares_57 : decode cX12_shares 57 = .ok (.iastore, 1) := by decide +kernel
theorem dX12_shares_58 : decode cX12_shares 58 = .ok (.aload_n 0, 1) := by decide +kernel
theorem dX12_shares_59 : decode cX12_shares 59 = .ok (.iload_n 3, 1) := by decide +kernel
theorem dX12_shares_60 : decode cX12_shares 60 = .ok (.invokevirtual 104, 3) := by decide +kernel
theorem dX12_shares_63 : decode cX12_shares 63 = .ok (.ireturn, 1) := by decide +kernel
theorem dX12_presents_0 : decode cX12_presents 0 = .ok (.aload_n 0, 1) := by decide +kernel
theorem dX12_presents_1 : decode cX12_presents 1 = .ok (.iload_n 1, 1) := by decide +kernel
theorem dX12_presents_2 : decode cX12_presents 2 = .ok (.invokevirtual 110, 3) := by decide +kernel
theorem dX12_presents_5 : decode cX12_presents 5 = .ok (.ifCond .ne 5, 3) := by decide +kernel
theorem dX12_presents_8 : decode cX12_presents 8 = .ok (.iconst 1, 1) := by decide +kernel
theorem dX12_presents_9 : decode cX12_presents 9 = .ok (.ireturn, 1) := by decide +kernel
theorem dX12_presents_10 : decode cX12_presents 10 = .ok (.aload_n 0, 1) := by decide +kernel
theorem dX12_presents_11 : decode cX12_presents 11 = .ok (.getfield 7, 3) := by decide +kernel
theorem dX12_presents_14 : decode cX12_presents 14 = .ok (.iconst 1, 1) := by decide +kernel
theorem dX12_presents_15 : decode cX12_presents 15 = .ok (.iaload, 1) := by decide +kernel
theorem dX12_presents_16 : decode cX12_presents 16 = .ok (.ifCond .ne 10, 3) := by decide +kernel
theorem dX12_presents_19 : decode cX12_presents 19 = .ok (.aload_n 0, 1) := by decide +kernel
theorem dX12_presents_20 : decode cX12_presents 20 = .ok (.iconst 3, 1) := by decide +kernel
theorem dX12_presents_21 : decode cX12_presents 21 = .ok (.iconst 0, 1) := by decide +kernel
theorem dX12_presents_22 : decode cX12_presents 22 = .ok (.invokevirtual 98, 3) := by decide +kernel
theorem dX12_presents_25 : decode cX12_presents 25 = .ok (.ireturn, 1) := by decide +kernel
theorem dX12_presents_26 : decode cX12_presents 26 = .ok (.aload_n 0, 1) := by decide +kernel
theorem dX12_presents_27 : decode cX12_presents 27 = .ok (.iload_n 1, 1) := by decide +kernel
theorem dX12_presents_28 : decode cX12_presents 28 = .ok (.invokevirtual 113, 3) := by decide +kernel
theorem dX12_presents_31 : decode cX12_presents 31 = .ok (.iconst (-1), 1) := by decide +kernel
theorem dX12_presents_32 : decode cX12_presents 32 = .ok (.if_icmp .eq 14, 3) := by decide +kernel
theorem dX12_presents_35 : decode cX12_presents 35 = .ok (.aload_n 0, 1) := by decide +kernel
theorem dX12_presents_36 : decode cX12_presents 36 = .ok (.iconst 4, 1) := by decide +kernel
theorem dX12_presents_37 : decode cX12_presents 37 = .ok (.aload_n 0, 1) := by decide +kernel
theorem dX12_presents_38 : decode cX12_presents 38 = .ok (.iload_n 1, 1) := by decide +kernel
theorem dX12_presents_39 : decode cX12_presents 39 = .ok (.invokevirtual 113, 3) := by decide +kernel
theorem dX12_presents_42 : decode cX12_presents 42 = .ok (.invokevirtual 98, 3) := by decide +kernel
theorem dX12_presents_45 : decode cX12_presents 45 = .ok (.ireturn, 1) := by decide +kernel
theorem dX12_presents_46 : decode cX12_presents 46 = .ok (.aload_n 0, 1) := by decide +kernel
theorem dX12_presents_47 : decode cX12_presents 47 = .ok (.getfield 7, 3) := by decide +kernel
theorem dX12_presents_50 : decode cX12_presents 50 = .ok (.bipush 23, 2) := by decide +kernel
theorem dX12_presents_52 : decode cX12_presents 52 = .ok (.aload_n 0, 1) := by decide +kernel
theorem dX12_presents_53 : decode cX12_presents 53 = .ok (.getfield 7, 3) := by decide +kernel
theorem dX12_presents_56 : decode cX12_presents 56 = .ok (.bipush 9, 2) := by decide +kernel
theorem dX12_presents_58 : decode cX12_presents 58 = .ok (.iaload, 1) := by decide +kernel
theorem dX12_presents_59 : decode cX12_presents 59 = .ok (.iadd, 1) := by decide +kernel
theorem dX12_presents_60 : decode cX12_presents 60 = .ok (.iload_n 1, 1) := by decide +kernel
theorem dX12_presents_61 : decode cX12_presents 61 = .ok (.iastore, 1) := by decide +kernel
theorem dX12_presents_62 : decode cX12_presents 62 = .ok (.aload_n 0, 1) := by decide +kernel
theorem dX12_presents_63 : decode cX12_presents 63 = .ok (.getfield 7, 3) := by decide +kernel
theorem dX12_presents_66 : decode cX12_presents 66 = .ok (.bipush 9, 2) := by decide +kernel
theorem dX12_presents_68 : decode cX12_presents 68 = .ok (.dup2, 1) := by decide +kernel
theorem dX12_presents_69 : decode cX12_presents 69 = .ok (.iaload, 1) := by decide +kernel
theorem dX12_presents_70 : decode cX12_presents 70 = .ok (.iconst 1, 1) := by decide +kernel
theorem dX12_presents_71 : decode cX12_presents 71 = .ok (.iadd, 1) := by decide +kernel
theorem dX12_presents_72 : decode cX12_presents 72 = .ok (.iastore, 1) := by decide +kernel
theorem dX12_presents_73 : decode cX12_presents 73 = .ok (.aload_n 0, 1) := by decide +kernel
theorem dX12_presents_74 : decode cX12_presents 74 = .ok (.aload_n 0, 1) := by decide +kernel
theorem dX12_presents_75 : decode cX12_presents 75 = .ok (.getfield 7, 3) := by decide +kernel
theorem dX12_presents_78 : decode cX12_presents 78 = .ok (.bipush 9, 2) := by decide +kernel
theorem dX12_presents_80 : decode cX12_presents 80 = .ok (.iaload, 1) := by decide +kernel
theorem dX12_presents_81 : decode cX12_presents 81 = .ok (.invokevirtual 104, 3) := by decide +kernel
theorem dX12_presents_84 : decode cX12_presents 84 = .ok (.ireturn, 1) := by decide +kernel
theorem dX12_takes_0 : decode cX12_takes 0 = .ok (.aload_n 0, 1) := by decide +kernel
theorem dX12_takes_1 : decode cX12_takes 1 = .ok (.iload_n 1, 1) := by decide +kernel
theorem dX12_takes_2 : decode cX12_takes 2 = .ok (.invokevirtual 110, 3) := by decide +kernel
theorem dX12_takes_5 : decode cX12_takes 5 = .ok (.ifCond .ne 5, 3) := by decide +kernel
theorem dX12_takes_8 : decode cX12_takes 8 = .ok (.iconst 1, 1) := by decide +kernel
theorem dX12_takes_9 : decode cX12_takes 9 = .ok (.ireturn, 1) := by decide +kernel
theorem dX12_takes_10 : decode cX12_takes 10 = .ok (.aload_n 0, 1) := by decide +kernel
theorem dX12_takes_11 : decode cX12_takes 11 = .ok (.getfield 7, 3) := by decide +kernel
theorem dX12_takes_14 : decode cX12_takes 14 = .ok (.iconst 1, 1) := by decide +kernel
theorem dX12_takes_15 : decode cX12_takes 15 = .ok (.iaload, 1) := by decide +kernel
theorem dX12_takes_16 : decode cX12_takes 16 = .ok (.ifCond .ne 10, 3) := by decide +kernel
theorem dX12_takes_19 : decode cX12_takes 19 = .ok (.aload_n 0, 1) := by decide +kernel
theorem dX12_takes_20 : decode cX12_takes 20 = .ok (.iconst 3, 1) := by decide +kernel
theorem dX12_takes_21 : decode cX12_takes 21 = .ok (.iconst 0, 1) := by decide +kernel
theorem dX12_takes_22 : decode cX12_takes 22 = .ok (.invokevirtual 98, 3) := by decide +kernel
theorem dX12_takes_25 : decode cX12_takes 25 = .ok (.ireturn, 1) := by decide +kernel
theorem dX12_takes_26 : decode cX12_takes 26 = .ok (.aload_n 0, 1) := by decide +kernel
theorem dX12_takes_27 : decode cX12_takes 27 = .ok (.iload_n 1, 1) := by decide +kernel
theorem dX12_takes_28 : decode cX12_takes 28 = .ok (.invokevirtual 113, 3) := by decide +kernel
theorem dX12_takes_31 : decode cX12_takes 31 = .ok (.istore_n 2, 1) := by decide +kernel
theorem dX12_takes_32 : decode cX12_takes 32 = .ok (.iload_n 2, 1) := by decide +kernel
theorem dX12_takes_33 : decode cX12_takes 33 = .ok (.iconst (-1), 1) := by decide +kernel
theorem dX12_takes_34 : decode cX12_takes 34 = .ok (.if_icmp .ne 10, 3) := by decide +kernel
theorem dX12_takes_37 : decode cX12_takes 37 = .ok (.aload_n 0, 1) := by decide +kernel
theorem dX12_takes_38 : decode cX12_takes 38 = .ok (.iconst 5, 1) := by decide +kernel
theorem dX12_takes_39 : decode cX12_takes 39 = .ok (.iload_n 1, 1) := by decide +kernel
theorem dX12_takes_40 : decode cX12_takes 40 = .ok (.invokevirtual 98, 3) := by decide +kernel
theorem dX12_takes_43 : decode cX12_takes 43 = .ok (.ireturn, 1) := by decide +kernel
theorem dX12_takes_44 : decode cX12_takes 44 = .ok (.aload_n 0, 1) := by decide +kernel
theorem dX12_takes_45 : decode cX12_takes 45 = .ok (.getfield 7, 3) := by decide +kernel
theorem dX12_takes_48 : decode cX12_takes 48 = .ok (.bipush 9, 2) := by decide +kernel
theorem dX12_takes_50 : decode cX12_takes 50 = .ok (.dup2, 1) := by decide +kernel
theorem dX12_takes_51 : decode cX12_takes 51 = .ok (.iaload, 1) := by decide +kernel
theorem dX12_takes_52 : decode cX12_takes 52 = .ok (.iconst 1, 1) := by decide +kernel
theorem dX12_takes_53 : decode cX12_takes 53 = .ok (.isub, 1) := by decide +kernel
theorem dX12_takes_54 : decode cX12_takes 54 = .ok (.iastore, 1) := by decide +kernel
theorem dX12_takes_55 : decode cX12_takes 55 = .ok (.iload_n 2, 1) := by decide +kernel
theorem dX12_takes_56 : decode cX12_takes 56 = .ok (.istore_n 3, 1) := by decide +kernel
theorem dX12_takes_57 : decode cX12_takes 57 = .ok (.iload_n 3, 1) := by decide +kernel
theorem dX12_takes_58 : decode cX12_takes 58 = .ok (.aload_n 0, 1) := by decide +kernel
theorem dX12_takes_59 : decode cX12_takes 59 = .ok (.getfield 7, 3) := by decide +kernel
theorem dX12_takes_62 : decode cX12_takes 62 = .ok (.bipush 9, 2) := by decide +kernel
theorem dX12_takes_64 : decode cX12_takes 64 = .ok (.iaload, 1) := by decide +kernel
theorem dX12_takes_65 : decode cX12_takes 65 = .ok (.if_icmp .ge 29, 3) := by decide +kernel
theorem dX12_takes_68 : decode cX12_takes 68 = .ok (.aload_n 0, 1) := by decide +kernel
theorem dX12_takes_69 : decode cX12_takes 69 = .ok (.getfield 7, 3) := by decide +kernel
theorem dX12_takes_72 : decode cX12_takes 72 = .ok (.bipush 23, 2) := by decide +kernel
theorem dX12_takes_74 : decode cX12_takes 74 = .ok (.iload_n 3, 1) := by decide +kernel
theorem dX12_takes_75 : decode cX12_takes 75 = .ok (.iadd, 1) := by decide +kernel
theorem dX12_takes_76 : decode cX12_takes 76 = .ok (.aload_n 0, 1) := by decide +kernel
theorem dX12_takes_77 : decode cX12_takes 77 = .ok (.getfield 7, 3) := by decide +kernel
theorem dX12_takes_80 : decode cX12_takes 80 = .ok (.bipush 23, 2) := by decide +kernel
theorem dX12_takes_82 : decode cX12_takes 82 = .ok (.iload_n 3, 1) := by decide +kernel
theorem dX12_takes_83 : decode cX12_takes 83 = .ok (.iadd, 1) := by decide +kernel
theorem dX12_takes_84 : decode cX12_takes 84 = .ok (.iconst 1, 1) := by decide +kernel
theorem dX12_takes_85 : decode cX12_takes 85 = .ok (.iadd, 1) := by decide +kernel
theorem dX12_takes_86 : decode cX12_takes 86 = .ok (.iaload, 1) := by decide +kernel
theorem dX12_takes_87 : decode cX12_takes 87 = .ok (.iastore, 1) := by decide +kernel
theorem dX12_takes_88 : decode cX12_takes 88 = .ok (.iinc 3 1, 3) := by decide +kernel
theorem dX12_takes_91 : decode cX12_takes 91 = .ok (.goto (-34), 3) := by decide +kernel
theorem dX12_takes_94 : decode cX12_takes 94 = .ok (.aload_n 0, 1) := by decide +kernel
theorem dX12_takes_95 : decode cX12_takes 95 = .ok (.getfield 7, 3) := by decide +kernel
theorem dX12_takes_98 : decode cX12_takes 98 = .ok (.bipush 23, 2) := by decide +kernel
theorem dX12_takes_100 : decode cX12_takes 100 = .ok (.aload_n 0, 1) := by decide +kernel
theorem dX12_takes_101 : decode cX12_takes 101 = .ok (.getfield 7, 3) := by decide +kernel
theorem dX12_takes_104 : decode cX12_takes 104 = .ok (.bipush 9, 2) := by decide +kernel
theorem dX12_takes_106 : decode cX12_takes 106 = .ok (.iaload, 1) := by decide +kernel
theorem dX12_takes_107 : decode cX12_takes 107 = .ok (.iadd, 1) := by decide +kernel
theorem dX12_takes_108 : decode cX12_takes 108 = .ok (.iconst 0, 1) := by decide +kernel
theorem dX12_takes_109 : decode cX12_takes 109 = .ok (.iastore, 1) := by decide +kernel
theorem dX12_takes_110 : decode cX12_takes 110 = .ok (.aload_n 0, 1) := by decide +kernel
theorem dX12_takes_111 : decode cX12_takes 111 = .ok (.aload_n 0, 1) := by decide +kernel
theorem dX12_takes_112 : decode cX12_takes 112 = .ok (.getfield 7, 3) := by decide +kernel
theorem dX12_takes_115 : decode cX12_takes 115 = .ok (.bipush 9, 2) := by decide +kernel
theorem dX12_takes_117 : decode cX12_takes 117 = .ok (.iaload, 1) := by decide +kernel
theorem dX12_takes_118 : decode cX12_takes 118 = .ok (.invokevirtual 104, 3) := by decide +kernel
theorem dX12_takes_121 : decode cX12_takes 121 = .ok (.ireturn, 1) := by decide +kernel
theorem dX12_tries_0 : decode cX12_tries 0 = .ok (.aload_n 0, 1) := by decide +kernel
theorem dX12_tries_1 : decode cX12_tries 1 = .ok (.getfield 7, 3) := by decide +kernel
theorem dX12_tries_4 : decode cX12_tries 4 = .ok (.iconst 1, 1) := by decide +kernel
theorem dX12_tries_5 : decode cX12_tries 5 = .ok (.iaload, 1) := by decide +kernel
theorem dX12_tries_6 : decode cX12_tries 6 = .ok (.ifCond .ne 10, 3) := by decide +kernel
theorem dX12_tries_9 : decode cX12_tries 9 = .ok (.aload_n 0, 1) := by decide +kernel
theorem dX12_tries_10 : decode cX12_tries 10 = .ok (.iconst 3, 1) := by decide +kernel
theorem dX12_tries_11 : decode cX12_tries 11 = .ok (.iconst 0, 1) := by decide +kernel
theorem dX12_tries_12 : decode cX12_tries 12 = .ok (.invokevirtual 98, 3) := by decide +kernel
theorem dX12_tries_15 : decode cX12_tries 15 = .ok (.ireturn, 1) := by decide +kernel
theorem dX12_tries_16 : decode cX12_tries 16 = .ok (.aload_n 0, 1) := by decide +kernel
theorem dX12_tries_17 : decode cX12_tries 17 = .ok (.getfield 7, 3) := by decide +kernel
theorem dX12_tries_20 : decode cX12_tries 20 = .ok (.bipush 6, 2) := by decide +kernel
theorem dX12_tries_22 : decode cX12_tries 22 = .ok (.iaload, 1) := by decide +kernel
theorem dX12_tries_23 : decode cX12_tries 23 = .ok (.iconst 1, 1) := by decide +kernel
theorem dX12_tries_24 : decode cX12_tries 24 = .ok (.if_icmp .ne 17, 3) := by decide +kernel
theorem dX12_tries_27 : decode cX12_tries 27 = .ok (.aload_n 0, 1) := by decide +kernel
theorem dX12_tries_28 : decode cX12_tries 28 = .ok (.bipush 6, 2) := by decide +kernel
theorem dX12_tries_30 : decode cX12_tries 30 = .ok (.aload_n 0, 1) := by decide +kernel
theorem dX12_tries_31 : decode cX12_tries 31 = .ok (.getfield 7, 3) := by decide +kernel
theorem dX12_tries_34 : decode cX12_tries 34 = .ok (.bipush 9, 2) := by decide +kernel
theorem dX12_tries_36 : decode cX12_tries 36 = .ok (.iaload, 1) := by decide +kernel
theorem dX12_tries_37 : decode cX12_tries 37 = .ok (.invokevirtual 98, 3) := by decide +kernel
theorem dX12_tries_40 : decode cX12_tries 40 = .ok (.ireturn, 1) := by decide +kernel
theorem dX12_tries_41 : decode cX12_tries 41 = .ok (.aload_n 0, 1) := by decide +kernel
theorem dX12_tries_42 : decode cX12_tries 42 = .ok (.getfield 7, 3) := by decide +kernel
theorem dX12_tries_45 : decode cX12_tries 45 = .ok (.bipush 7, 2) := by decide +kernel
theorem dX12_tries_47 : decode cX12_tries 47 = .ok (.iaload, 1) := by decide +kernel
theorem dX12_tries_48 : decode cX12_tries 48 = .ok (.ifCond .le 17, 3) := by decide +kernel
theorem dX12_tries_51 : decode cX12_tries 51 = .ok (.aload_n 0, 1) := by decide +kernel
theorem dX12_tries_52 : decode cX12_tries 52 = .ok (.bipush 7, 2) := by decide +kernel
theorem dX12_tries_54 : decode cX12_tries 54 = .ok (.aload_n 0, 1) := by decide +kernel
theorem dX12_tries_55 : decode cX12_tries 55 = .ok (.getfield 7, 3) := by decide +kernel
theorem dX12_tries_58 : decode cX12_tries 58 = .ok (.bipush 7, 2) := by decide +kernel
theorem dX12_tries_60 : decode cX12_tries 60 = .ok (.iaload, 1) := by decide +kernel
theorem dX12_tries_61 : decode cX12_tries 61 = .ok (.invokevirtual 98, 3) := by decide +kernel
theorem dX12_tries_64 : decode cX12_tries 64 = .ok (.ireturn, 1) := by decide +kernel
theorem dX12_tries_65 : decode cX12_tries 65 = .ok (.aload_n 0, 1) := by decide +kernel
theorem dX12_tries_66 : decode cX12_tries 66 = .ok (.getfield 7, 3) := by decide +kernel
theorem dX12_tries_69 : decode cX12_tries 69 = .ok (.bipush 9, 2) := by decide +kernel
theorem dX12_tries_71 : decode cX12_tries 71 = .ok (.iaload, 1) := by decide +kernel
theorem dX12_tries_72 : decode cX12_tries 72 = .ok (.aload_n 0, 1) := by decide +kernel
theorem dX12_tries_73 : decode cX12_tries 73 = .ok (.getfield 7, 3) := by decide +kernel
theorem dX12_tries_76 : decode cX12_tries 76 = .ok (.iconst 5, 1) := by decide +kernel
theorem dX12_tries_77 : decode cX12_tries 77 = .ok (.iaload, 1) := by decide +kernel
theorem dX12_tries_78 : decode cX12_tries 78 = .ok (.if_icmp .ge 24, 3) := by decide +kernel
theorem dX12_tries_81 : decode cX12_tries 81 = .ok (.aload_n 0, 1) := by decide +kernel
theorem dX12_tries_82 : decode cX12_tries 82 = .ok (.bipush 8, 2) := by decide +kernel
theorem dX12_tries_84 : decode cX12_tries 84 = .ok (.aload_n 0, 1) := by decide +kernel
theorem dX12_tries_85 : decode cX12_tries 85 = .ok (.getfield 7, 3) := by decide +kernel
theorem dX12_tries_88 : decode cX12_tries 88 = .ok (.iconst 5, 1) := by decide +kernel
theorem dX12_tries_89 : decode cX12_tries 89 = .ok (.iaload, 1) := by decide +kernel
theorem dX12_tries_90 : decode cX12_tries 90 = .ok (.aload_n 0, 1) := by decide +kernel
theorem dX12_tries_91 : decode cX12_tries 91 = .ok (.getfield 7, 3) := by decide +kernel
theorem dX12_tries_94 : decode cX12_tries 94 = .ok (.bipush 9, 2) := by decide +kernel
theorem dX12_tries_96 : decode cX12_tries 96 = .ok (.iaload, 1) := by decide +kernel
theorem dX12_tries_97 : decode cX12_tries 97 = .ok (.isub, 1) := by decide +kernel
theorem dX12_tries_98 : decode cX12_tries 98 = .ok (.invokevirtual 98, 3) := by decide +kernel
theorem dX12_tries_101 : decode cX12_tries 101 = .ok (.ireturn, 1) := by decide +kernel
theorem dX12_tries_102 : decode cX12_tries 102 = .ok (.aload_n 0, 1) := by decide +kernel
theorem dX12_tries_103 : decode cX12_tries 103 = .ok (.iconst 0, 1) := by decide +kernel
theorem dX12_tries_104 : decode cX12_tries 104 = .ok (.invokevirtual 87, 3) := by decide +kernel
theorem dX12_tries_107 : decode cX12_tries 107 = .ok (.ifCond .ne 17, 3) := by decide +kernel
theorem dX12_tries_110 : decode cX12_tries 110 = .ok (.aload_n 0, 1) := by decide +kernel
theorem dX12_tries_111 : decode cX12_tries 111 = .ok (.bipush 9, 2) := by decide +kernel
theorem dX12_tries_113 : decode cX12_tries 113 = .ok (.aload_n 0, 1) := by decide +kernel
theorem dX12_tries_114 : decode cX12_tries 114 = .ok (.getfield 7, 3) := by decide +kernel
theorem dX12_tries_117 : decode cX12_tries 117 = .ok (.bipush 10, 2) := by decide +kernel
theorem dX12_tries_119 : decode cX12_tries 119 = .ok (.iaload, 1) := by decide +kernel
theorem dX12_tries_120 : decode cX12_tries 120 = .ok (.invokevirtual 98, 3) := by decide +kernel
theorem dX12_tries_123 : decode cX12_tries 123 = .ok (.ireturn, 1) := by decide +kernel
theorem dX12_tries_124 : decode cX12_tries 124 = .ok (.aload_n 0, 1) := by decide +kernel
theorem dX12_tries_125 : decode cX12_tries 125 = .ok (.invokevirtual 116, 3) := by decide +kernel
theorem dX12_tries_128 : decode cX12_tries 128 = .ok (.aload_n 0, 1) := by decide +kernel
theorem dX12_tries_129 : decode cX12_tries 129 = .ok (.invokevirtual 76, 3) := by decide +kernel
theorem dX12_tries_132 : decode cX12_tries 132 = .ok (.aload_n 0, 1) := by decide +kernel
theorem dX12_tries_133 : decode cX12_tries 133 = .ok (.getfield 7, 3) := by decide +kernel
theorem dX12_tries_136 : decode cX12_tries 136 = .ok (.bipush 9, 2) := by decide +kernel
theorem dX12_tries_138 : decode cX12_tries 138 = .ok (.iaload, 1) := by decide +kernel
theorem dX12_tries_139 : decode cX12_tries 139 = .ok (.if_icmp .ne 21, 3) := by decide +kernel
theorem dX12_tries_142 : decode cX12_tries 142 = .ok (.aload_n 0, 1) := by decide +kernel
theorem dX12_tries_143 : decode cX12_tries 143 = .ok (.iconst 0, 1) := by decide +kernel
theorem dX12_tries_144 : decode cX12_tries 144 = .ok (.invokevirtual 73, 3) := by decide +kernel
theorem dX12_tries_147 : decode cX12_tries 147 = .ok (.aload_n 0, 1) := by decide +kernel
theorem dX12_tries_148 : decode cX12_tries 148 = .ok (.getfield 7, 3) := by decide +kernel
theorem dX12_tries_151 : decode cX12_tries 151 = .ok (.iconst 2, 1) := by decide +kernel
theorem dX12_tries_152 : decode cX12_tries 152 = .ok (.iaload, 1) := by decide +kernel
theorem dX12_tries_153 : decode cX12_tries 153 = .ok (.if_icmp .ne 7, 3) := by decide +kernel
theorem dX12_tries_156 : decode cX12_tries 156 = .ok (.iconst 1, 1) := by decide +kernel
theorem dX12_tries_157 : decode cX12_tries 157 = .ok (.goto 4, 3) := by decide +kernel
theorem dX12_tries_160 : decode cX12_tries 160 = .ok (.iconst 0, 1) := by decide +kernel
theorem dX12_tries_161 : decode cX12_tries 161 = .ok (.istore_n 1, 1) := by decide +kernel
theorem dX12_tries_162 : decode cX12_tries 162 = .ok (.aload_n 0, 1) := by decide +kernel
theorem dX12_tries_163 : decode cX12_tries 163 = .ok (.iload_n 1, 1) := by decide +kernel
theorem dX12_tries_164 : decode cX12_tries 164 = .ok (.ifCond .eq 8, 3) := by decide +kernel
theorem dX12_tries_167 : decode cX12_tries 167 = .ok (.bipush 111, 2) := by decide +kernel
theorem dX12_tries_169 : decode cX12_tries 169 = .ok (.goto 5, 3) := by decide +kernel
theorem dX12_tries_172 : decode cX12_tries 172 = .ok (.bipush 102, 2) := by decide +kernel
theorem dX12_tries_174 : decode cX12_tries 174 = .ok (.aload_n 0, 1) := by decide +kernel
theorem dX12_tries_175 : decode cX12_tries 175 = .ok (.getfield 7, 3) := by decide +kernel
theorem dX12_tries_178 : decode cX12_tries 178 = .ok (.bipush 9, 2) := by decide +kernel
theorem dX12_tries_180 : decode cX12_tries 180 = .ok (.iaload, 1) := by decide +kernel
theorem dX12_tries_181 : decode cX12_tries 181 = .ok (.invokevirtual 94, 3) := by decide +kernel
theorem dX12_tries_184 : decode cX12_tries 184 = .ok (.aload_n 0, 1) := by decide +kernel
theorem dX12_tries_185 : decode cX12_tries 185 = .ok (.getfield 7, 3) := by decide +kernel
theorem dX12_tries_188 : decode cX12_tries 188 = .ok (.bipush 8, 2) := by decide +kernel
theorem dX12_tries_190 : decode cX12_tries 190 = .ok (.iload_n 1, 1) := by decide +kernel
theorem dX12_tries_191 : decode cX12_tries 191 = .ok (.ifCond .eq 7, 3) := by decide +kernel
theorem dX12_tries_194 : decode cX12_tries 194 = .ok (.iconst 0, 1) := by decide +kernel
theorem dX12_tries_195 : decode cX12_tries 195 = .ok (.goto 12, 3) := by decide +kernel
theorem dX12_tries_198 : decode cX12_tries 198 = .ok (.aload_n 0, 1) := by decide +kernel
theorem dX12_tries_199 : decode cX12_tries 199 = .ok (.getfield 7, 3) := by decide +kernel
theorem dX12_tries_202 : decode cX12_tries 202 = .ok (.bipush 8, 2) := by decide +kernel
theorem dX12_tries_204 : decode cX12_tries 204 = .ok (.iaload, 1) := by decide +kernel
theorem dX12_tries_205 : decode cX12_tries 205 = .ok (.iconst 1, 1) := by decide +kernel
theorem dX12_tries_206 : decode cX12_tries 206 = .ok (.iadd, 1) := by decide +kernel
theorem dX12_tries_207 : decode cX12_tries 207 = .ok (.iastore, 1) := by decide +kernel
theorem dX12_tries_208 : decode cX12_tries 208 = .ok (.iload_n 1, 1) := by decide +kernel
theorem dX12_tries_209 : decode cX12_tries 209 = .ok (.ifCond .eq 22, 3) := by decide +kernel
theorem dX12_tries_212 : decode cX12_tries 212 = .ok (.aload_n 0, 1) := by decide +kernel
theorem dX12_tries_213 : decode cX12_tries 213 = .ok (.getfield 7, 3) := by decide +kernel
theorem dX12_tries_216 : decode cX12_tries 216 = .ok (.bipush 6, 2) := by decide +kernel
theorem dX12_tries_218 : decode cX12_tries 218 = .ok (.iconst 1, 1) := by decide +kernel
theorem dX12_tries_219 : decode cX12_tries 219 = .ok (.iastore, 1) := by decide +kernel
theorem dX12_tries_220 : decode cX12_tries 220 = .ok (.aload_n 0, 1) := by decide +kernel
theorem dX12_tries_221 : decode cX12_tries 221 = .ok (.getfield 7, 3) := by decide +kernel
theorem dX12_tries_224 : decode cX12_tries 224 = .ok (.bipush 12, 2) := by decide +kernel
theorem dX12_tries_226 : decode cX12_tries 226 = .ok (.dup2, 1) := by decide +kernel
theorem dX12_tries_227 : decode cX12_tries 227 = .ok (.iaload, 1) := by decide +kernel
theorem dX12_tries_228 : decode cX12_tries 228 = .ok (.iconst 1, 1) := by decide +kernel
theorem dX12_tries_229 : decode cX12_tries 229 = .ok (.iadd, 1) := by decide +kernel
theorem dX12_tries_230 : decode cX12_tries 230 = .ok (.iastore, 1) := by decide +kernel
theorem dX12_tries_231 : decode cX12_tries 231 = .ok (.aload_n 0, 1) := by decide +kernel
theorem dX12_tries_232 : decode cX12_tries 232 = .ok (.getfield 7, 3) := by decide +kernel
theorem dX12_tries_235 : decode cX12_tries 235 = .ok (.bipush 8, 2) := by decide +kernel
theorem dX12_tries_237 : decode cX12_tries 237 = .ok (.iaload, 1) := by decide +kernel
theorem dX12_tries_238 : decode cX12_tries 238 = .ok (.iconst 3, 1) := by decide +kernel
theorem dX12_tries_239 : decode cX12_tries 239 = .ok (.if_icmp .ne 20, 3) := by decide +kernel
theorem dX12_tries_242 : decode cX12_tries 242 = .ok (.aload_n 0, 1) := by decide +kernel
theorem dX12_tries_243 : decode cX12_tries 243 = .ok (.getfield 7, 3) := by decide +kernel
theorem dX12_tries_246 : decode cX12_tries 246 = .ok (.bipush 8, 2) := by decide +kernel
theorem dX12_tries_248 : decode cX12_tries 248 = .ok (.iconst 0, 1) := by decide +kernel
theorem dX12_tries_249 : decode cX12_tries 249 = .ok (.iastore, 1) := by decide +kernel
theorem dX12_tries_250 : decode cX12_tries 250 = .ok (.aload_n 0, 1) := by decide +kernel
theorem dX12_tries_251 : decode cX12_tries 251 = .ok (.getfield 7, 3) := by decide +kernel
theorem dX12_tries_254 : decode cX12_tries 254 = .ok (.bipush 7, 2) := by decide +kernel
theorem dX12_tries_256 : decode cX12_tries 256 = .ok (.bipush 6, 2) := by decide +kernel
theorem dX12_tries_258 : decode cX12_tries 258 = .ok (.iastore, 1) := by decide +kernel
theorem dX12_tries_259 : decode cX12_tries 259 = .ok (.aload_n 0, 1) := by decide +kernel
theorem dX12_tries_260 : decode cX12_tries 260 = .ok (.iload_n 1, 1) := by decide +kernel
theorem dX12_tries_261 : decode cX12_tries 261 = .ok (.ifCond .eq 7, 3) := by decide +kernel
theorem dX12_tries_264 : decode cX12_tries 264 = .ok (.iconst 1, 1) := by decide +kernel
theorem dX12_tries_265 : decode cX12_tries 265 = .ok (.goto 4, 3) := by decide +kernel
theorem dX12_tries_268 : decode cX12_tries 268 = .ok (.iconst 0, 1) := by decide +kernel
theorem dX12_tries_269 : decode cX12_tries 269 = .ok (.invokevirtual 104, 3) := by decide +kernel
theorem dX12_tries_272 : decode cX12_tries 272 = .ok (.ireturn, 1) := by decide +kernel
theorem dX12_closes_0 : decode cX12_closes 0 = .ok (.aload_n 0, 1) := by decide +kernel
theorem dX12_closes_1 : decode cX12_closes 1 = .ok (.getfield 7, 3) := by decide +kernel
theorem dX12_closes_4 : decode cX12_closes 4 = .ok (.iconst 1, 1) := by decide +kernel
theorem dX12_closes_5 : decode cX12_closes 5 = .ok (.iaload, 1) := by decide +kernel
theorem dX12_closes_6 : decode cX12_closes 6 = .ok (.ifCond .ne 10, 3) := by decide +kernel
theorem dX12_closes_9 : decode cX12_closes 9 = .ok (.aload_n 0, 1) := by decide +kernel
theorem dX12_closes_10 : decode cX12_closes 10 = .ok (.iconst 3, 1) := by decide +kernel
theorem dX12_closes_11 : decode cX12_closes 11 = .ok (.iconst 0, 1) := by decide +kernel
theorem dX12_closes_12 : decode cX12_closes 12 = .ok (.invokevirtual 98, 3) := by decide +kernel
theorem dX12_closes_15 : decode cX12_closes 15 = .ok (.ireturn, 1) := by decide +kernel
theorem dX12_closes_16 : decode cX12_closes 16 = .ok (.aload_n 0, 1) := by decide +kernel
theorem dX12_closes_17 : decode cX12_closes 17 = .ok (.getfield 7, 3) := by decide +kernel
theorem dX12_closes_20 : decode cX12_closes 20 = .ok (.bipush 6, 2) := by decide +kernel
theorem dX12_closes_22 : decode cX12_closes 22 = .ok (.iaload, 1) := by decide +kernel
theorem dX12_closes_23 : decode cX12_closes 23 = .ok (.ifCond .ne 17, 3) := by decide +kernel
theorem dX12_closes_26 : decode cX12_closes 26 = .ok (.aload_n 0, 1) := by decide +kernel
theorem dX12_closes_27 : decode cX12_closes 27 = .ok (.bipush 10, 2) := by decide +kernel
theorem dX12_closes_29 : decode cX12_closes 29 = .ok (.aload_n 0, 1) := by decide +kernel
theorem dX12_closes_30 : decode cX12_closes 30 = .ok (.getfield 7, 3) := by decide +kernel
theorem dX12_closes_33 : decode cX12_closes 33 = .ok (.bipush 8, 2) := by decide +kernel
theorem dX12_closes_35 : decode cX12_closes 35 = .ok (.iaload, 1) := by decide +kernel
theorem dX12_closes_36 : decode cX12_closes 36 = .ok (.invokevirtual 98, 3) := by decide +kernel
theorem dX12_closes_39 : decode cX12_closes 39 = .ok (.ireturn, 1) := by decide +kernel
theorem dX12_closes_40 : decode cX12_closes 40 = .ok (.aload_n 0, 1) := by decide +kernel
theorem dX12_closes_41 : decode cX12_closes 41 = .ok (.getfield 7, 3) := by decide +kernel
theorem dX12_closes_44 : decode cX12_closes 44 = .ok (.bipush 9, 2) := by decide +kernel
theorem dX12_closes_46 : decode cX12_closes 46 = .ok (.iaload, 1) := by decide +kernel
theorem dX12_closes_47 : decode cX12_closes 47 = .ok (.istore_n 1, 1) := by decide +kernel
theorem dX12_closes_48 : decode cX12_closes 48 = .ok (.aload_n 0, 1) := by decide +kernel
theorem dX12_closes_49 : decode cX12_closes 49 = .ok (.getfield 7, 3) := by decide +kernel
theorem dX12_closes_52 : decode cX12_closes 52 = .ok (.bipush 6, 2) := by decide +kernel
theorem dX12_closes_54 : decode cX12_closes 54 = .ok (.iconst 0, 1) := by decide +kernel
theorem dX12_closes_55 : decode cX12_closes 55 = .ok (.iastore, 1) := by decide +kernel
theorem dX12_closes_56 : decode cX12_closes 56 = .ok (.aload_n 0, 1) := by decide +kernel
theorem dX12_closes_57 : decode cX12_closes 57 = .ok (.invokevirtual 107, 3) := by decide +kernel
theorem dX12_closes_60 : decode cX12_closes 60 = .ok (.aload_n 0, 1) := by decide +kernel
theorem dX12_closes_61 : decode cX12_closes 61 = .ok (.bipush 99, 2) := by decide +kernel
theorem dX12_closes_63 : decode cX12_closes 63 = .ok (.iconst 0, 1) := by decide +kernel
theorem dX12_closes_64 : decode cX12_closes 64 = .ok (.invokevirtual 94, 3) := by decide +kernel
theorem dX12_closes_67 : decode cX12_closes 67 = .ok (.aload_n 0, 1) := by decide +kernel
theorem dX12_closes_68 : decode cX12_closes 68 = .ok (.iload_n 1, 1) := by decide +kernel
theorem dX12_closes_69 : decode cX12_closes 69 = .ok (.invokevirtual 104, 3) := by decide +kernel
theorem dX12_closes_72 : decode cX12_closes 72 = .ok (.ireturn, 1) := by decide +kernel
theorem dX12_guards_0 : decode cX12_guards 0 = .ok (.iload_n 1, 1) := by decide +kernel
theorem dX12_guards_1 : decode cX12_guards 1 = .ok (.invokestatic 119, 3) := by decide +kernel
theorem dX12_guards_4 : decode cX12_guards 4 = .ok (.ifCond .eq 12, 3) := by decide +kernel
theorem dX12_guards_7 : decode cX12_guards 7 = .ok (.iload_n 3, 1) := by decide +kernel
theorem dX12_guards_8 : decode cX12_guards 8 = .ok (.iconst 1, 1) := by decide +kernel
theorem dX12_guards_9 : decode cX12_guards 9 = .ok (.iconst 4, 1) := by decide +kernel
theorem dX12_guards_10 : decode cX12_guards 10 = .ok (.invokestatic 66, 3) := by decide +kernel
theorem dX12_guards_13 : decode cX12_guards 13 = .ok (.ifCond .ne 5, 3) := by decide +kernel
theorem dX12_guards_16 : decode cX12_guards 16 = .ok (.iconst 1, 1) := by decide +kernel
theorem dX12_guards_17 : decode cX12_guards 17 = .ok (.ireturn, 1) := by decide +kernel
theorem dX12_guards_18 : decode cX12_guards 18 = .ok (.aload_n 0, 1) := by decide +kernel
theorem dX12_guards_19 : decode cX12_guards 19 = .ok (.getfield 7, 3) := by decide +kernel
theorem dX12_guards_22 : decode cX12_guards 22 = .ok (.bipush 10, 2) := by decide +kernel
theorem dX12_guards_24 : decode cX12_guards 24 = .ok (.iaload, 1) := by decide +kernel
theorem dX12_guards_25 : decode cX12_guards 25 = .ok (.istore 4, 2) := by decide +kernel
theorem dX12_guards_27 : decode cX12_guards 27 = .ok (.iload 4, 2) := by decide +kernel
theorem dX12_guards_29 : decode cX12_guards 29 = .ok (.iconst 3, 1) := by decide +kernel
theorem dX12_guards_30 : decode cX12_guards 30 = .ok (.if_icmp .ne 10, 3) := by decide +kernel
theorem dX12_guards_33 : decode cX12_guards 33 = .ok (.aload_n 0, 1) := by decide +kernel
theorem dX12_guards_34 : decode cX12_guards 34 = .ok (.iconst 1, 1) := by decide +kernel
theorem dX12_guards_35 : decode cX12_guards 35 = .ok (.iconst 3, 1) := by decide +kernel
theorem dX12_guards_36 : decode cX12_guards 36 = .ok (.invokevirtual 98, 3) := by decide +kernel
theorem dX12_guards_39 : decode cX12_guards 39 = .ok (.ireturn, 1) := by decide +kernel
theorem dX12_guards_40 : decode cX12_guards 40 = .ok (.aload_n 0, 1) := by decide +kernel
theorem dX12_guards_41 : decode cX12_guards 41 = .ok (.getfield 7, 3) := by decide +kernel
theorem dX12_guards_44 : decode cX12_guards 44 = .ok (.bipush 47, 2) := by decide +kernel
theorem dX12_guards_46 : decode cX12_guards 46 = .ok (.iconst 3, 1) := by decide +kernel
theorem dX12_guards_47 : decode cX12_guards 47 = .ok (.iload 4, 2) := by decide +kernel
theorem dX12_guards_49 : decode cX12_guards 49 = .ok (.imul, 1) := by decide +kernel
theorem dX12_guards_50 : decode cX12_guards 50 = .ok (.iadd, 1) := by decide +kernel
theorem dX12_guards_51 : decode cX12_guards 51 = .ok (.iconst 0, 1) := by decide +kernel
theorem dX12_guards_52 : decode cX12_guards 52 = .ok (.iadd, 1) := by decide +kernel
theorem dX12_guards_53 : decode cX12_guards 53 = .ok (.iload_n 1, 1) := by decide +kernel
theorem dX12_guards_54 : decode cX12_guards 54 = .ok (.iastore, 1) := by decide +kernel
theorem dX12_guards_55 : decode cX12_guards 55 = .ok (.aload_n 0, 1) := by decide +kernel
theorem dX12_guards_56 : decode cX12_guards 56 = .ok (.getfield 7, 3) := by decide +kernel
theorem dX12_guards_59 : decode cX12_guards 59 = .ok (.bipush 47, 2) := by decide +kernel
theorem dX12_guards_61 : decode cX12_guards 61 = .ok (.iconst 3, 1) := by decide +kernel
theorem dX12_guards_62 : decode cX12_guards 62 = .ok (.iload 4, 2) := by decide +kernel
theorem dX12_guards_64 : decode cX12_guards 64 = .ok (.imul, 1) := by decide +kernel
theorem dX12_guards_65 : decode cX12_guards 65 = .ok (.iadd, 1) := by decide +kernel
theorem dX12_guards_66 : decode cX12_guards 66 = .ok (.iconst 1, 1) := by decide +kernel
theorem dX12_guards_67 : decode cX12_guards 67 = .ok (.iadd, 1) := by decide +kernel
theorem dX12_guards_68 : decode cX12_guards 68 = .ok (.iload_n 2, 1) := by decide +kernel
theorem dX12_guards_69 : decode cX12_guards 69 = .ok (.ifCond .eq 7, 3) := by decide +kernel
theorem dX12_guards_72 : decode cX12_guards 72 = .ok (.iconst 1, 1) := by decide +kernel
theorem dX12_guards_73 : decode cX12_guards 73 = .ok (.goto 4, 3) := by decide +kernel
theorem dX12_guards_76 : decode cX12_guards 76 = .ok (.iconst (-1), 1) := by decide +kernel
theorem dX12_guards_77 : decode cX12_guards 77 = .ok (.iastore, 1) := by decide +kernel
theorem dX12_guards_78 : decode cX12_guards 78 = .ok (.aload_n 0, 1) := by decide +kernel
theorem dX12_guards_79 : decode cX12_guards 79 = .ok (.getfield 7, 3) := by decide +kernel
theorem dX12_guards_82 : decode cX12_guards 82 = .ok (.bipush 47, 2) := by decide +kernel
theorem dX12_guards_84 : decode cX12_guards 84 = .ok (.iconst 3, 1) := by decide +kernel
theorem dX12_guards_85 : decode cX12_guards 85 = .ok (.iload 4, 2) := by decide +kernel
theorem dX12_guards_87 : decode cX12_guards 87 = .ok (.imul, 1) := by decide +kernel
theorem dX12_guards_88 : decode cX12_guards 88 = .ok (.iadd, 1) := by decide +kernel
theorem dX12_guards_89 : decode cX12_guards 89 = .ok (.iconst 2, 1) := by decide +kernel
theorem dX12_guards_90 : decode cX12_guards 90 = .ok (.iadd, 1) := by decide +kernel
theorem dX12_guards_91 : decode cX12_guards 91 = .ok (.iload_n 3, 1) := by decide +kernel
theorem dX12_guards_92 : decode cX12_guards 92 = .ok (.iastore, 1) := by decide +kernel
theorem dX12_guards_93 : decode cX12_guards 93 = .ok (.aload_n 0, 1) := by decide +kernel
theorem dX12_guards_94 : decode cX12_guards 94 = .ok (.getfield 7, 3) := by decide +kernel
theorem dX12_guards_97 : decode cX12_guards 97 = .ok (.bipush 10, 2) := by decide +kernel
theorem dX12_guards_99 : decode cX12_guards 99 = .ok (.iload 4, 2) := by decide +kernel
theorem dX12_guards_101 : decode cX12_guards 101 = .ok (.iconst 1, 1) := by decide +kernel
theorem dX12_guards_102 : decode cX12_guards 102 = .ok (.iadd, 1) := by decide +kernel
theorem dX12_guards_103 : decode cX12_guards 103 = .ok (.iastore, 1) := by decide +kernel
theorem dX12_guards_104 : decode cX12_guards 104 = .ok (.aload_n 0, 1) := by decide +kernel
theorem dX12_guards_105 : decode cX12_guards 105 = .ok (.iload 4, 2) := by decide +kernel
theorem dX12_guards_107 : decode cX12_guards 107 = .ok (.invokevirtual 104, 3) := by decide +kernel
theorem dX12_guards_110 : decode cX12_guards 110 = .ok (.ireturn, 1) := by decide +kernel
theorem dX12_turns_0 : decode cX12_turns 0 = .ok (.aload_n 0, 1) := by decide +kernel
theorem dX12_turns_1 : decode cX12_turns 1 = .ok (.iload_n 1, 1) := by decide +kernel
theorem dX12_turns_2 : decode cX12_turns 2 = .ok (.invokevirtual 122, 3) := by decide +kernel
theorem dX12_turns_5 : decode cX12_turns 5 = .ok (.ifCond .ne 5, 3) := by decide +kernel
theorem dX12_turns_8 : decode cX12_turns 8 = .ok (.iconst 1, 1) := by decide +kernel
theorem dX12_turns_9 : decode cX12_turns 9 = .ok (.ireturn, 1) := by decide +kernel
theorem dX12_turns_10 : decode cX12_turns 10 = .ok (.aload_n 0, 1) := by decide +kernel
theorem dX12_turns_11 : decode cX12_turns 11 = .ok (.getfield 7, 3) := by decide +kernel
theorem dX12_turns_14 : decode cX12_turns 14 = .ok (.bipush 47, 2) := by decide +kernel
theorem dX12_turns_16 : decode cX12_turns 16 = .ok (.iconst 3, 1) := by decide +kernel
theorem dX12_turns_17 : decode cX12_turns 17 = .ok (.iload_n 1, 1) := by decide +kernel
theorem dX12_turns_18 : decode cX12_turns 18 = .ok (.imul, 1) := by decide +kernel
theorem dX12_turns_19 : decode cX12_turns 19 = .ok (.iadd, 1) := by decide +kernel
theorem dX12_turns_20 : decode cX12_turns 20 = .ok (.iconst 1, 1) := by decide +kernel
theorem dX12_turns_21 : decode cX12_turns 21 = .ok (.iadd, 1) := by decide +kernel
theorem dX12_turns_22 : decode cX12_turns 22 = .ok (.aload_n 0, 1) := by decide +kernel
theorem dX12_turns_23 : decode cX12_turns 23 = .ok (.iload_n 1, 1) := by decide +kernel
theorem dX12_turns_24 : decode cX12_turns 24 = .ok (.iconst 1, 1) := by decide +kernel
theorem dX12_turns_25 : decode cX12_turns 25 = .ok (.invokevirtual 84, 3) := by decide +kernel
theorem dX12_turns_28 : decode cX12_turns 28 = .ok (.ineg, 1) := by decide +kernel
theorem dX12_turns_29 : decode cX12_turns 29 = .ok (.iastore, 1) := by decide +kernel
theorem dX12_turns_30 : decode cX12_turns 30 = .ok (.aload_n 0, 1) := by decide +kernel
theorem dX12_turns_31 : decode cX12_turns 31 = .ok (.aload_n 0, 1) := by decide +kernel
theorem dX12_turns_32 : decode cX12_turns 32 = .ok (.iload_n 1, 1) := by decide +kernel
theorem dX12_turns_33 : decode cX12_turns 33 = .ok (.iconst 1, 1) := by decide +kernel
theorem dX12_turns_34 : decode cX12_turns 34 = .ok (.invokevirtual 84, 3) := by decide +kernel
theorem dX12_turns_37 : decode cX12_turns 37 = .ok (.iconst 1, 1) := by decide +kernel
theorem dX12_turns_38 : decode cX12_turns 38 = .ok (.if_icmp .ne 7, 3) := by decide +kernel
theorem dX12_turns_41 : decode cX12_turns 41 = .ok (.iconst 1, 1) := by decide +kernel
theorem dX12_turns_42 : decode cX12_turns 42 = .ok (.goto 4, 3) := by decide +kernel
theorem dX12_turns_45 : decode cX12_turns 45 = .ok (.iconst 0, 1) := by decide +kernel
theorem dX12_turns_46 : decode cX12_turns 46 = .ok (.invokevirtual 104, 3) := by decide +kernel
theorem dX12_turns_49 : decode cX12_turns 49 = .ok (.ireturn, 1) := by decide +kernel
theorem dX12_hums_0 : decode cX12_hums 0 = .ok (.iload_n 1, 1) := by decide +kernel
theorem dX12_hums_1 : decode cX12_hums 1 = .ok (.invokestatic 119, 3) := by decide +kernel
theorem dX12_hums_4 : decode cX12_hums 4 = .ok (.ifCond .eq 13, 3) := by decide +kernel
theorem dX12_hums_7 : decode cX12_hums 7 = .ok (.iload_n 2, 1) := by decide +kernel
theorem dX12_hums_8 : decode cX12_hums 8 = .ok (.iconst 1, 1) := by decide +kernel
theorem dX12_hums_9 : decode cX12_hums 9 = .ok (.bipush 9, 2) := by decide +kernel
theorem dX12_hums_11 : decode cX12_hums 11 = .ok (.invokestatic 66, 3) := by decide +kernel
theorem dX12_hums_14 : decode cX12_hums 14 = .ok (.ifCond .ne 5, 3) := by decide +kernel
theorem dX12_hums_17 : decode cX12_hums 17 = .ok (.iconst 1, 1) := by decide +kernel
theorem dX12_hums_18 : decode cX12_hums 18 = .ok (.ireturn, 1) := by decide +kernel
theorem dX12_hums_19 : decode cX12_hums 19 = .ok (.aload_n 0, 1) := by decide +kernel
theorem dX12_hums_20 : decode cX12_hums 20 = .ok (.getfield 7, 3) := by decide +kernel
theorem dX12_hums_23 : decode cX12_hums 23 = .ok (.bipush 31, 2) := by decide +kernel
theorem dX12_hums_25 : decode cX12_hums 25 = .ok (.iload_n 1, 1) := by decide +kernel
theorem dX12_hums_26 : decode cX12_hums 26 = .ok (.iadd, 1) := by decide +kernel
theorem dX12_hums_27 : decode cX12_hums 27 = .ok (.iaload, 1) := by decide +kernel
theorem dX12_hums_28 : decode cX12_hums 28 = .ok (.iload_n 2, 1) := by decide +kernel
theorem dX12_hums_29 : decode cX12_hums 29 = .ok (.iadd, 1) := by decide +kernel
theorem dX12_hums_30 : decode cX12_hums 30 = .ok (.istore_n 3, 1) := by decide +kernel
theorem dX12_hums_31 : decode cX12_hums 31 = .ok (.aload_n 0, 1) := by decide +kernel
theorem dX12_hums_32 : decode cX12_hums 32 = .ok (.getfield 7, 3) := by decide +kernel
theorem dX12_hums_35 : decode cX12_hums 35 = .ok (.bipush 31, 2) := by decide +kernel
theorem dX12_hums_37 : decode cX12_hums 37 = .ok (.iload_n 1, 1) := by decide +kernel
theorem dX12_hums_38 : decode cX12_hums 38 = .ok (.iadd, 1) := by decide +kernel
theorem dX12_hums_39 : decode cX12_hums 39 = .ok (.iload_n 3, 1) := by decide +kernel
theorem dX12_hums_40 : decode cX12_hums 40 = .ok (.bipush 20, 2) := by decide +kernel
theorem dX12_hums_42 : decode cX12_hums 42 = .ok (.if_icmp .le 8, 3) := by decide +kernel
theorem dX12_hums_45 : decode cX12_hums 45 = .ok (.bipush 20, 2) := by decide +kernel
theorem dX12_hums_47 : decode cX12_hums 47 = .ok (.goto 4, 3) := by decide +kernel
theorem dX12_hums_50 : decode cX12_hums 50 = .ok (.iload_n 3, 1) := by decide +kernel
theorem dX12_hums_51 : decode cX12_hums 51 = .ok (.iastore, 1) := by decide +kernel
theorem dX12_hums_52 : decode cX12_hums 52 = .ok (.aload_n 0, 1) := by decide +kernel
theorem dX12_hums_53 : decode cX12_hums 53 = .ok (.aload_n 0, 1) := by decide +kernel
theorem dX12_hums_54 : decode cX12_hums 54 = .ok (.getfield 7, 3) := by decide +kernel
theorem dX12_hums_57 : decode cX12_hums 57 = .ok (.bipush 31, 2) := by decide +kernel
theorem dX12_hums_59 : decode cX12_hums 59 = .ok (.iload_n 1, 1) := by decide +kernel
theorem dX12_hums_60 : decode cX12_hums 60 = .ok (.iadd, 1) := by decide +kernel
theorem dX12_hums_61 : decode cX12_hums 61 = .ok (.iaload, 1) := by decide +kernel
theorem dX12_hums_62 : decode cX12_hums 62 = .ok (.invokevirtual 104, 3) := by decide +kernel
theorem dX12_hums_65 : decode cX12_hums 65 = .ok (.ireturn, 1) := by decide +kernel
theorem dX12_passes_0 : decode cX12_passes 0 = .ok (.iload_n 1, 1) := by decide +kernel
theorem dX12_passes_1 : decode cX12_passes 1 = .ok (.iconst 1, 1) := by decide +kernel
theorem dX12_passes_2 : decode cX12_passes 2 = .ok (.bipush 24, 2) := by decide +kernel
theorem dX12_passes_4 : decode cX12_passes 4 = .ok (.invokestatic 66, 3) := by decide +kernel
theorem dX12_passes_7 : decode cX12_passes 7 = .ok (.ifCond .ne 5, 3) := by decide +kernel
theorem dX12_passes_10 : decode cX12_passes 10 = .ok (.iconst 1, 1) := by decide +kernel
theorem dX12_passes_11 : decode cX12_passes 11 = .ok (.ireturn, 1) := by decide +kernel
theorem dX12_passes_12 : decode cX12_passes 12 = .ok (.iconst 0, 1) := by decide +kernel
theorem dX12_passes_13 : decode cX12_passes 13 = .ok (.istore_n 2, 1) := by decide +kernel
theorem dX12_passes_14 : decode cX12_passes 14 = .ok (.iconst 0, 1) := by decide +kernel
theorem dX12_passes_15 : decode cX12_passes 15 = .ok (.istore_n 3, 1) := by decide +kernel
theorem dX12_passes_16 : decode cX12_passes 16 = .ok (.iload_n 3, 1) := by decide +kernel
theorem dX12_passes_17 : decode cX12_passes 17 = .ok (.iload_n 1, 1) := by decide +kernel
theorem dX12_passes_18 : decode cX12_passes 18 = .ok (.if_icmp .ge 16, 3) := by decide +kernel
theorem dX12_passes_21 : decode cX12_passes 21 = .ok (.iload_n 2, 1) := by decide +kernel
theorem dX12_passes_22 : decode cX12_passes 22 = .ok (.aload_n 0, 1) := by decide +kernel
theorem dX12_passes_23 : decode cX12_passes 23 = .ok (.invokevirtual 125, 3) := by decide +kernel
theorem dX12_passes_26 : decode cX12_passes 26 = .ok (.iadd, 1) := by decide +kernel
theorem dX12_passes_27 : decode cX12_passes 27 = .ok (.istore_n 2, 1) := by decide +kernel
theorem dX12_passes_28 : decode cX12_passes 28 = .ok (.iinc 3 1, 3) := by decide +kernel
theorem dX12_passes_31 : decode cX12_passes 31 = .ok (.goto (-15), 3) := by decide +kernel
theorem dX12_passes_34 : decode cX12_passes 34 = .ok (.aload_n 0, 1) := by decide +kernel
theorem dX12_passes_35 : decode cX12_passes 35 = .ok (.iload_n 2, 1) := by decide +kernel
theorem dX12_passes_36 : decode cX12_passes 36 = .ok (.invokevirtual 104, 3) := by decide +kernel
theorem dX12_passes_39 : decode cX12_passes 39 = .ok (.ireturn, 1) := by decide +kernel
theorem dX12_addHolder_0 : decode cX12_addHolder 0 = .ok (.aload_n 0, 1) := by decide +kernel
theorem dX12_addHolder_1 : decode cX12_addHolder 1 = .ok (.invokevirtual 128, 3) := by decide +kernel
theorem dX12_addHolder_4 : decode cX12_addHolder 4 = .ok (.aload_n 0, 1) := by decide +kernel
theorem dX12_addHolder_5 : decode cX12_addHolder 5 = .ok (.aload_n 0, 1) := by decide +kernel
theorem dX12_addHolder_6 : decode cX12_addHolder 6 = .ok (.invokevirtual 131, 3) := by decide +kernel
theorem dX12_addHolder_9 : decode cX12_addHolder 9 = .ok (.iconst 1, 1) := by decide +kernel
theorem dX12_addHolder_10 : decode cX12_addHolder 10 = .ok (.invokevirtual 134, 3) := by decide +kernel
theorem dX12_addHolder_13 : decode cX12_addHolder 13 = .ok (.ireturn, 1) := by decide +kernel
theorem dX12_seal_0 : decode cX12_seal 0 = .ok (.aload_n 0, 1) := by decide +kernel
theorem dX12_seal_1 : decode cX12_seal 1 = .ok (.invokevirtual 128, 3) := by decide +kernel
theorem dX12_seal_4 : decode cX12_seal 4 = .ok (.aload_n 0, 1) := by decide +kernel
theorem dX12_seal_5 : decode cX12_seal 5 = .ok (.aload_n 0, 1) := by decide +kernel
theorem dX12_seal_6 : decode cX12_seal 6 = .ok (.iload_n 1, 1) := by decide +kernel
theorem dX12_seal_7 : decode cX12_seal 7 = .ok (.iload_n 2, 1) := by decide +kernel
theorem dX12_seal_8 : decode cX12_seal 8 = .ok (.iload_n 3, 1) := by decide +kernel
theorem dX12_seal_9 : decode cX12_seal 9 = .ok (.iload 4, 2) := by decide +kernel
theorem dX12_seal_11 : decode cX12_seal 11 = .ok (.invokevirtual 137, 3) := by decide +kernel
theorem dX12_seal_14 : decode cX12_seal 14 = .ok (.iconst 2, 1) := by decide +kernel
theorem dX12_seal_15 : decode cX12_seal 15 = .ok (.invokevirtual 134, 3) := by decide +kernel
theorem dX12_seal_18 : decode cX12_seal 18 = .ok (.ireturn, 1) := by decide +kernel
theorem dX12_setShare_0 : decode cX12_setShare 0 = .ok (.aload_n 0, 1) := by decide +kernel
theorem dX12_setShare_1 : decode cX12_setShare 1 = .ok (.invokevirtual 128, 3) := by decide +kernel
theorem dX12_setShare_4 : decode cX12_setShare 4 = .ok (.aload_n 0, 1) := by decide +kernel
theorem dX12_setShare_5 : decode cX12_setShare 5 = .ok (.aload_n 0, 1) := by decide +kernel
theorem dX12_setShare_6 : decode cX12_setShare 6 = .ok (.iload_n 1, 1) := by decide +kernel
theorem dX12_setShare_7 : decode cX12_setShare 7 = .ok (.iload_n 2, 1) := by decide +kernel
theorem dX12_setShare_8 : decode cX12_setShare 8 = .ok (.invokevirtual 141, 3) := by decide +kernel
theorem dX12_setShare_11 : decode cX12_setShare 11 = .ok (.iconst 3, 1) := by decide +kernel
theorem dX12_setShare_12 : decode cX12_setShare 12 = .ok (.invokevirtual 134, 3) := by decide +kernel
theorem dX12_setShare_15 : decode cX12_setShare 15 = .ok (.ireturn, 1) := by decide +kernel
theorem dX12_present_0 : decode cX12_present 0 = .ok (.aload_n 0, 1) := by decide +kernel
theorem dX12_present_1 : decode cX12_present 1 = .ok (.invokevirtual 128, 3) := by decide +kernel
theorem dX12_present_4 : decode cX12_present 4 = .ok (.aload_n 0, 1) := by decide +kernel
theorem dX12_present_5 : decode cX12_present 5 = .ok (.aload_n 0, 1) := by decide +kernel
theorem dX12_present_6 : decode cX12_present 6 = .ok (.iload_n 1, 1) := by decide +kernel
theorem dX12_present_7 : decode cX12_present 7 = .ok (.invokevirtual 144, 3) := by decide +kernel
theorem dX12_present_10 : decode cX12_present 10 = .ok (.iconst 2, 1) := by decide +kernel
theorem dX12_present_11 : decode cX12_present 11 = .ok (.invokevirtual 134, 3) := by decide +kernel
theorem dX12_present_14 : decode cX12_present 14 = .ok (.ireturn, 1) := by decide +kernel
theorem dX12_takeBack_0 : decode cX12_takeBack 0 = .ok (.aload_n 0, 1) := by decide +kernel
theorem dX12_takeBack_1 : decode cX12_takeBack 1 = .ok (.invokevirtual 128, 3) := by decide +kernel
theorem dX12_takeBack_4 : decode cX12_takeBack 4 = .ok (.aload_n 0, 1) := by decide +kernel
theorem dX12_takeBack_5 : decode cX12_takeBack 5 = .ok (.aload_n 0, 1) := by decide +kernel
theorem dX12_takeBack_6 : decode cX12_takeBack 6 = .ok (.iload_n 1, 1) := by decide +kernel
theorem dX12_takeBack_7 : decode cX12_takeBack 7 = .ok (.invokevirtual 147, 3) := by decide +kernel
theorem dX12_takeBack_10 : decode cX12_takeBack 10 = .ok (.iconst 2, 1) := by decide +kernel
theorem dX12_takeBack_11 : decode cX12_takeBack 11 = .ok (.invokevirtual 134, 3) := by decide +kernel
theorem dX12_takeBack_14 : decode cX12_takeBack 14 = .ok (.ireturn, 1) := by decide +kernel
theorem dX12_openVault_0 : decode cX12_openVault 0 = .ok (.aload_n 0, 1) := by decide +kernel
theorem dX12_openVault_1 : decode cX12_openVault 1 = .ok (.invokevirtual 128, 3) := by decide +kernel
theorem dX12_openVault_4 : decode cX12_openVault 4 = .ok (.aload_n 0, 1) := by decide +kernel
theorem dX12_openVault_5 : decode cX12_openVault 5 = .ok (.aload_n 0, 1) := by decide +kernel
theorem dX12_openVault_6 : decode cX12_openVault 6 = .ok (.invokevirtual 150, 3) := by decide +kernel
theorem dX12_openVault_9 : decode cX12_openVault 9 = .ok (.iconst 1, 1) := by decide +kernel
theorem dX12_openVault_10 : decode cX12_openVault 10 = .ok (.invokevirtual 134, 3) := by decide +kernel
theorem dX12_openVault_13 : decode cX12_openVault 13 = .ok (.iconst 1, 1) := by decide +kernel
theorem dX12_openVault_14 : decode cX12_openVault 14 = .ok (.if_icmp .ne 7, 3) := by decide +kernel
theorem dX12_openVault_17 : decode cX12_openVault 17 = .ok (.iconst 1, 1) := by decide +kernel
theorem dX12_openVault_18 : decode cX12_openVault 18 = .ok (.goto 4, 3) := by decide +kernel
theorem dX12_openVault_21 : decode cX12_openVault 21 = .ok (.iconst 0, 1) := by decide +kernel
theorem dX12_openVault_22 : decode cX12_openVault 22 = .ok (.ireturn, 1) := by decide +kernel
theorem dX12_closeVault_0 : decode cX12_closeVault 0 = .ok (.aload_n 0, 1) := by decide +kernel
theorem dX12_closeVault_1 : decode cX12_closeVault 1 = .ok (.invokevirtual 128, 3) := by decide +kernel
theorem dX12_closeVault_4 : decode cX12_closeVault 4 = .ok (.aload_n 0, 1) := by decide +kernel
theorem dX12_closeVault_5 : decode cX12_closeVault 5 = .ok (.aload_n 0, 1) := by decide +kernel
theorem dX12_closeVault_6 : decode cX12_closeVault 6 = .ok (.invokevirtual 153, 3) := by decide +kernel
theorem dX12_closeVault_9 : decode cX12_closeVault 9 = .ok (.iconst 1, 1) := by decide +kernel
theorem dX12_closeVault_10 : decode cX12_closeVault 10 = .ok (.invokevirtual 134, 3) := by decide +kernel
theorem dX12_closeVault_13 : decode cX12_closeVault 13 = .ok (.ireturn, 1) := by decide +kernel
theorem dX12_addGuard_0 : decode cX12_addGuard 0 = .ok (.aload_n 0, 1) := by decide +kernel
theorem dX12_addGuard_1 : decode cX12_addGuard 1 = .ok (.invokevirtual 128, 3) := by decide +kernel
theorem dX12_addGuard_4 : decode cX12_addGuard 4 = .ok (.aload_n 0, 1) := by decide +kernel
theorem dX12_addGuard_5 : decode cX12_addGuard 5 = .ok (.aload_n 0, 1) := by decide +kernel
theorem dX12_addGuard_6 : decode cX12_addGuard 6 = .ok (.iload_n 1, 1) := by decide +kernel
theorem dX12_addGuard_7 : decode cX12_addGuard 7 = .ok (.iload_n 2, 1) := by decide +kernel
theorem dX12_addGuard_8 : decode cX12_addGuard 8 = .ok (.iload_n 3, 1) := by decide +kernel
theorem dX12_addGuard_9 : decode cX12_addGuard 9 = .ok (.invokevirtual 156, 3) := by decide +kernel
theorem dX12_addGuard_12 : decode cX12_addGuard 12 = .ok (.iconst 2, 1) := by decide +kernel
theorem dX12_addGuard_13 : decode cX12_addGuard 13 = .ok (.invokevirtual 134, 3) := by decide +kernel
theorem dX12_addGuard_16 : decode cX12_addGuard 16 = .ok (.ireturn, 1) := by decide +kernel
theorem dX12_turnGuard_0 : decode cX12_turnGuard 0 = .ok (.aload_n 0, 1) := by decide +kernel
theorem dX12_turnGuard_1 : decode cX12_turnGuard 1 = .ok (.invokevirtual 128, 3) := by decide +kernel
theorem dX12_turnGuard_4 : decode cX12_turnGuard 4 = .ok (.aload_n 0, 1) := by decide +kernel
theorem dX12_turnGuard_5 : decode cX12_turnGuard 5 = .ok (.aload_n 0, 1) := by decide +kernel
theorem dX12_turnGuard_6 : decode cX12_turnGuard 6 = .ok (.iload_n 1, 1) := by decide +kernel
theorem dX12_turnGuard_7 : decode cX12_turnGuard 7 = .ok (.invokevirtual 160, 3) := by decide +kernel
theorem dX12_turnGuard_10 : decode cX12_turnGuard 10 = .ok (.iconst 2, 1) := by decide +kernel
theorem dX12_turnGuard_11 : decode cX12_turnGuard 11 = .ok (.invokevirtual 134, 3) := by decide +kernel
theorem dX12_turnGuard_14 : decode cX12_turnGuard 14 = .ok (.iconst 1, 1) := by decide +kernel
theorem dX12_turnGuard_15 : decode cX12_turnGuard 15 = .ok (.if_icmp .ne 7, 3) := by decide +kernel
theorem dX12_turnGuard_18 : decode cX12_turnGuard 18 = .ok (.iconst 1, 1) := by decide +kernel
theorem dX12_turnGuard_19 : decode cX12_turnGuard 19 = .ok (.goto 4, 3) := by decide +kernel
theorem dX12_turnGuard_22 : decode cX12_turnGuard 22 = .ok (.iconst 0, 1) := by decide +kernel
theorem dX12_turnGuard_23 : decode cX12_turnGuard 23 = .ok (.ireturn, 1) := by decide +kernel
theorem dX12_hum_0 : decode cX12_hum 0 = .ok (.aload_n 0, 1) := by decide +kernel
theorem dX12_hum_1 : decode cX12_hum 1 = .ok (.invokevirtual 128, 3) := by decide +kernel
theorem dX12_hum_4 : decode cX12_hum 4 = .ok (.aload_n 0, 1) := by decide +kernel
theorem dX12_hum_5 : decode cX12_hum 5 = .ok (.aload_n 0, 1) := by decide +kernel
theorem dX12_hum_6 : decode cX12_hum 6 = .ok (.iload_n 1, 1) := by decide +kernel
theorem dX12_hum_7 : decode cX12_hum 7 = .ok (.iload_n 2, 1) := by decide +kernel
theorem dX12_hum_8 : decode cX12_hum 8 = .ok (.invokevirtual 163, 3) := by decide +kernel
theorem dX12_hum_11 : decode cX12_hum 11 = .ok (.iconst 2, 1) := by decide +kernel
theorem dX12_hum_12 : decode cX12_hum 12 = .ok (.invokevirtual 134, 3) := by decide +kernel
theorem dX12_hum_15 : decode cX12_hum 15 = .ok (.ireturn, 1) := by decide +kernel
theorem dX12_passHours_0 : decode cX12_passHours 0 = .ok (.aload_n 0, 1) := by decide +kernel
theorem dX12_passHours_1 : decode cX12_passHours 1 = .ok (.invokevirtual 128, 3) := by decide +kernel
theorem dX12_passHours_4 : decode cX12_passHours 4 = .ok (.aload_n 0, 1) := by decide +kernel
theorem dX12_passHours_5 : decode cX12_passHours 5 = .ok (.aload_n 0, 1) := by decide +kernel
theorem dX12_passHours_6 : decode cX12_passHours 6 = .ok (.iload_n 1, 1) := by decide +kernel
theorem dX12_passHours_7 : decode cX12_passHours 7 = .ok (.invokevirtual 166, 3) := by decide +kernel
theorem dX12_passHours_10 : decode cX12_passHours 10 = .ok (.iconst 2, 1) := by decide +kernel
theorem dX12_passHours_11 : decode cX12_passHours 11 = .ok (.invokevirtual 134, 3) := by decide +kernel
theorem dX12_passHours_14 : decode cX12_passHours 14 = .ok (.ireturn, 1) := by decide +kernel
theorem dX12_hour_0 : decode cX12_hour 0 = .ok (.aload_n 0, 1) := by decide +kernel
theorem dX12_hour_1 : decode cX12_hour 1 = .ok (.iconst 0, 1) := by decide +kernel
theorem dX12_hour_2 : decode cX12_hour 2 = .ok (.putfield 41, 3) := by decide +kernel
theorem dX12_hour_5 : decode cX12_hour 5 = .ok (.aload_n 0, 1) := by decide +kernel
theorem dX12_hour_6 : decode cX12_hour 6 = .ok (.getfield 7, 3) := by decide +kernel
theorem dX12_hour_9 : decode cX12_hour 9 = .ok (.bipush 11, 2) := by decide +kernel
theorem dX12_hour_11 : decode cX12_hour 11 = .ok (.iaload, 1) := by decide +kernel
theorem dX12_hour_12 : decode cX12_hour 12 = .ok (.ireturn, 1) := by decide +kernel
theorem dX12_holderCount_0 : decode cX12_holderCount 0 = .ok (.aload_n 0, 1) := by decide +kernel
theorem dX12_holderCount_1 : decode cX12_holderCount 1 = .ok (.iconst 0, 1) := by decide +kernel
theorem dX12_holderCount_2 : decode cX12_holderCount 2 = .ok (.putfield 41, 3) := by decide +kernel
theorem dX12_holderCount_5 : decode cX12_holderCount 5 = .ok (.aload_n 0, 1) := by decide +kernel
theorem dX12_holderCount_6 : decode cX12_holderCount 6 = .ok (.getfield 7, 3) := by decide +kernel
theorem dX12_holderCount_9 : decode cX12_holderCount 9 = .ok (.iconst 0, 1) := by decide +kernel
theorem dX12_holderCount_10 : decode cX12_holderCount 10 = .ok (.iaload, 1) := by decide +kernel
theorem dX12_holderCount_11 : decode cX12_holderCount 11 = .ok (.ireturn, 1) := by decide +kernel
theorem dX12_isSealed_0 : decode cX12_isSealed 0 = .ok (.aload_n 0, 1) := by decide +kernel
theorem dX12_isSealed_1 : decode cX12_isSealed 1 = .ok (.iconst 0, 1) := by decide +kernel
theorem dX12_isSealed_2 : decode cX12_isSealed 2 = .ok (.putfield 41, 3) := by decide +kernel
theorem dX12_isSealed_5 : decode cX12_isSealed 5 = .ok (.aload_n 0, 1) := by decide +kernel
theorem dX12_isSealed_6 : decode cX12_isSealed 6 = .ok (.getfield 7, 3) := by decide +kernel
theorem dX12_isSealed_9 : decode cX12_isSealed 9 = .ok (.iconst 1, 1) := by decide +kernel
theorem dX12_isSealed_10 : decode cX12_isSealed 10 = .ok (.iaload, 1) := by decide +kernel
theorem dX12_isSealed_11 : decode cX12_isSealed 11 = .ok (.iconst 1, 1) := by decide +kernel
theorem dX12_isSealed_12 : decode cX12_isSealed 12 = .ok (.if_icmp .ne 7, 3) := by decide +kernel
theorem dX12_isSealed_15 : decode cX12_isSealed 15 = .ok (.iconst 1, 1) := by decide +kernel
theorem dX12_isSealed_16 : decode cX12_isSealed 16 = .ok (.goto 4, 3) := by decide +kernel
theorem dX12_isSealed_19 : decode cX12_isSealed 19 = .ok (.iconst 0, 1) := by decide +kernel
theorem dX12_isSealed_20 : decode cX12_isSealed 20 = .ok (.ireturn, 1) := by decide +kernel
theorem dX12_threshold_0 : decode cX12_threshold 0 = .ok (.aload_n 0, 1) := by decide +kernel
theorem dX12_threshold_1 : decode cX12_threshold 1 = .ok (.aload_n 0, 1) := by decide +kernel
theorem dX12_threshold_2 : decode cX12_threshold 2 = .ok (.getfield 7, 3) := by decide +kernel
theorem dX12_threshold_5 : decode cX12_threshold 5 = .ok (.iconst 1, 1) := by decide +kernel
theorem dX12_threshold_6 : decode cX12_threshold 6 = .ok (.iaload, 1) := by decide +kernel
theorem dX12_threshold_7 : decode cX12_threshold 7 = .ok (.iconst 1, 1) := by decide +kernel
theorem dX12_threshold_8 : decode cX12_threshold 8 = .ok (.if_icmp .ne 7, 3) := by decide +kernel
theorem dX12_threshold_11 : decode cX12_threshold 11 = .ok (.iconst 0, 1) := by decide +kernel
theorem dX12_threshold_12 : decode cX12_threshold 12 = .ok (.goto 4, 3) := by decide +kernel
theorem dX12_threshold_15 : decode cX12_threshold 15 = .ok (.iconst 1, 1) := by decide +kernel
theorem dX12_threshold_16 : decode cX12_threshold 16 = .ok (.putfield 41, 3) := by decide +kernel
theorem dX12_threshold_19 : decode cX12_threshold 19 = .ok (.aload_n 0, 1) := by decide +kernel
theorem dX12_threshold_20 : decode cX12_threshold 20 = .ok (.getfield 7, 3) := by decide +kernel
theorem dX12_threshold_23 : decode cX12_threshold 23 = .ok (.iconst 5, 1) := by decide +kernel
theorem dX12_threshold_24 : decode cX12_threshold 24 = .ok (.iaload, 1) := by decide +kernel
theorem dX12_threshold_25 : decode cX12_threshold 25 = .ok (.ireturn, 1) := by decide +kernel
theorem dX12_isShare_0 : decode cX12_isShare 0 = .ok (.aload_n 0, 1) := by decide +kernel
theorem dX12_isShare_1 : decode cX12_isShare 1 = .ok (.aload_n 0, 1) := by decide +kernel
theorem dX12_isShare_2 : decode cX12_isShare 2 = .ok (.iload_n 1, 1) := by decide +kernel
theorem dX12_isShare_3 : decode cX12_isShare 3 = .ok (.invokevirtual 110, 3) := by decide +kernel
theorem dX12_isShare_6 : decode cX12_isShare 6 = .ok (.ifCond .ne 7, 3) := by decide +kernel
theorem dX12_isShare_9 : decode cX12_isShare 9 = .ok (.iconst 1, 1) := by decide +kernel
theorem dX12_isShare_10 : decode cX12_isShare 10 = .ok (.goto 18, 3) := by decide +kernel
theorem dX12_isShare_13 : decode cX12_isShare 13 = .ok (.aload_n 0, 1) := by decide +kernel
theorem dX12_isShare_14 : decode cX12_isShare 14 = .ok (.getfield 7, 3) := by decide +kernel
theorem dX12_isShare_17 : decode cX12_isShare 17 = .ok (.iconst 1, 1) := by decide +kernel
theorem dX12_isShare_18 : decode cX12_isShare 18 = .ok (.iaload, 1) := by decide +kernel
theorem dX12_isShare_19 : decode cX12_isShare 19 = .ok (.iconst 1, 1) := by decide +kernel
theorem dX12_isShare_20 : decode cX12_isShare 20 = .ok (.if_icmp .ne 7, 3) := by decide +kernel
theorem dX12_isShare_23 : decode cX12_isShare 23 = .ok (.iconst 0, 1) := by decide +kernel
theorem dX12_isShare_24 : decode cX12_isShare 24 = .ok (.goto 4, 3) := by decide +kernel
theorem dX12_isShare_27 : decode cX12_isShare 27 = .ok (.iconst 2, 1) := by decide +kernel
theorem dX12_isShare_28 : decode cX12_isShare 28 = .ok (.putfield 41, 3) := by decide +kernel
theorem dX12_isShare_31 : decode cX12_isShare 31 = .ok (.aload_n 0, 1) := by decide +kernel
theorem dX12_isShare_32 : decode cX12_isShare 32 = .ok (.getfield 41, 3) := by decide +kernel
theorem dX12_isShare_35 : decode cX12_isShare 35 = .ok (.ifCond .ne 7, 3) := by decide +kernel
theorem dX12_isShare_38 : decode cX12_isShare 38 = .ok (.iconst 1, 1) := by decide +kernel
theorem dX12_isShare_39 : decode cX12_isShare 39 = .ok (.goto 4, 3) := by decide +kernel
theorem dX12_isShare_42 : decode cX12_isShare 42 = .ok (.iconst 0, 1) := by decide +kernel
theorem dX12_isShare_43 : decode cX12_isShare 43 = .ok (.ireturn, 1) := by decide +kernel
theorem dX12_share_0 : decode cX12_share 0 = .ok (.aload_n 0, 1) := by decide +kernel
theorem dX12_share_1 : decode cX12_share 1 = .ok (.iload_n 1, 1) := by decide +kernel
theorem dX12_share_2 : decode cX12_share 2 = .ok (.invokevirtual 169, 3) := by decide +kernel
theorem dX12_share_5 : decode cX12_share 5 = .ok (.ifCond .eq 15, 3) := by decide +kernel
theorem dX12_share_8 : decode cX12_share 8 = .ok (.aload_n 0, 1) := by decide +kernel
theorem dX12_share_9 : decode cX12_share 9 = .ok (.getfield 7, 3) := by decide +kernel
theorem dX12_share_12 : decode cX12_share 12 = .ok (.bipush 15, 2) := by decide +kernel
theorem dX12_share_14 : decode cX12_share 14 = .ok (.iload_n 1, 1) := by decide +kernel
theorem dX12_share_15 : decode cX12_share 15 = .ok (.iadd, 1) := by decide +kernel
theorem dX12_share_16 : decode cX12_share 16 = .ok (.iaload, 1) := by decide +kernel
theorem dX12_share_17 : decode cX12_share 17 = .ok (.goto 4, 3) := by decide +kernel
theorem dX12_share_20 : decode cX12_share 20 = .ok (.iconst 0, 1) := by decide +kernel
theorem dX12_share_21 : decode cX12_share 21 = .ok (.ireturn, 1) := by decide +kernel
theorem dX12_isCorrect_0 : decode cX12_isCorrect 0 = .ok (.aload_n 0, 1) := by decide +kernel
theorem dX12_isCorrect_1 : decode cX12_isCorrect 1 = .ok (.iload_n 1, 1) := by decide +kernel
theorem dX12_isCorrect_2 : decode cX12_isCorrect 2 = .ok (.invokevirtual 169, 3) := by decide +kernel
theorem dX12_isCorrect_5 : decode cX12_isCorrect 5 = .ok (.ifCond .eq 24, 3) := by decide +kernel
theorem dX12_isCorrect_8 : decode cX12_isCorrect 8 = .ok (.aload_n 0, 1) := by decide +kernel
theorem dX12_isCorrect_9 : decode cX12_isCorrect 9 = .ok (.getfield 7, 3) := by decide +kernel
theorem dX12_isCorrect_12 : decode cX12_isCorrect 12 = .ok (.bipush 15, 2) := by decide +kernel
theorem dX12_isCorrect_14 : decode cX12_isCorrect 14 = .ok (.iload_n 1, 1) := by decide +kernel
theorem dX12_isCorrect_15 : decode cX12_isCorrect 15 = .ok (.iadd, 1) := by decide +kernel
theorem dX12_isCorrect_16 : decode cX12_isCorrect 16 = .ok (.iaload, 1) := by decide +kernel
theorem dX12_isCorrect_17 : decode cX12_isCorrect 17 = .ok (.aload_n 0, 1) := by decide +kernel
theorem dX12_isCorrect_18 : decode cX12_isCorrect 18 = .ok (.iload_n 1, 1) := by decide +kernel
theorem dX12_isCorrect_19 : decode cX12_isCorrect 19 = .ok (.invokevirtual 101, 3) := by decide +kernel
theorem dX12_isCorrect_22 : decode cX12_isCorrect 22 = .ok (.if_icmp .ne 7, 3) := by decide +kernel
theorem dX12_isCorrect_25 : decode cX12_isCorrect 25 = .ok (.iconst 1, 1) := by decide +kernel
theorem dX12_isCorrect_26 : decode cX12_isCorrect 26 = .ok (.goto 4, 3) := by decide +kernel
theorem dX12_isCorrect_29 : decode cX12_isCorrect 29 = .ok (.iconst 0, 1) := by decide +kernel
theorem dX12_isCorrect_30 : decode cX12_isCorrect 30 = .ok (.ireturn, 1) := by decide +kernel
theorem dX12_isPresented_0 : decode cX12_isPresented 0 = .ok (.aload_n 0, 1) := by decide +kernel
theorem dX12_isPresented_1 : decode cX12_isPresented 1 = .ok (.aload_n 0, 1) := by decide +kernel
theorem dX12_isPresented_2 : decode cX12_isPresented 2 = .ok (.iload_n 1, 1) := by decide +kernel
theorem dX12_isPresented_3 : decode cX12_isPresented 3 = .ok (.invokevirtual 110, 3) := by decide +kernel
theorem dX12_isPresented_6 : decode cX12_isPresented 6 = .ok (.ifCond .eq 7, 3) := by decide +kernel
theorem dX12_isPresented_9 : decode cX12_isPresented 9 = .ok (.iconst 0, 1) := by decide +kernel
theorem dX12_isPresented_10 : decode cX12_isPresented 10 = .ok (.goto 4, 3) := by decide +kernel
theorem dX12_isPresented_13 : decode cX12_isPresented 13 = .ok (.iconst 1, 1) := by decide +kernel
theorem dX12_isPresented_14 : decode cX12_isPresented 14 = .ok (.putfield 41, 3) := by decide +kernel
theorem dX12_isPresented_17 : decode cX12_isPresented 17 = .ok (.aload_n 0, 1) := by decide +kernel
theorem dX12_isPresented_18 : decode cX12_isPresented 18 = .ok (.getfield 41, 3) := by decide +kernel
theorem dX12_isPresented_21 : decode cX12_isPresented 21 = .ok (.ifCond .ne 16, 3) := by decide +kernel
theorem dX12_isPresented_24 : decode cX12_isPresented 24 = .ok (.aload_n 0, 1) := by decide +kernel
theorem dX12_isPresented_25 : decode cX12_isPresented 25 = .ok (.iload_n 1, 1) := by decide +kernel
theorem dX12_isPresented_26 : decode cX12_isPresented 26 = .ok (.invokevirtual 113, 3) := by decide +kernel
theorem dX12_isPresented_29 : decode cX12_isPresented 29 = .ok (.iconst (-1), 1) := by decide +kernel
theorem dX12_isPresented_30 : decode cX12_isPresented 30 = .ok (.if_icmp .eq 7, 3) := by decide +kernel
theorem dX12_isPresented_33 : decode cX12_isPresented 33 = .ok (.iconst 1, 1) := by decide +kernel
theorem dX12_isPresented_34 : decode cX12_isPresented 34 = .ok (.goto 4, 3) := by decide +kernel
theorem dX12_isPresented_37 : decode cX12_isPresented 37 = .ok (.iconst 0, 1) := by decide +kernel
theorem dX12_isPresented_38 : decode cX12_isPresented 38 = .ok (.ireturn, 1) := by decide +kernel
theorem dX12_presentedCount_0 : decode cX12_presentedCount 0 = .ok (.aload_n 0, 1) := by decide +kernel
theorem dX12_presentedCount_1 : decode cX12_presentedCount 1 = .ok (.iconst 0, 1) := by decide +kernel
theorem dX12_presentedCount_2 : decode cX12_presentedCount 2 = .ok (.putfield 41, 3) := by decide +kernel
theorem dX12_presentedCount_5 : decode cX12_presentedCount 5 = .ok (.aload_n 0, 1) := by decide +kernel
theorem dX12_presentedCount_6 : decode cX12_presentedCount 6 = .ok (.getfield 7, 3) := by decide +kernel
theorem dX12_presentedCount_9 : decode cX12_presentedCount 9 = .ok (.bipush 9, 2) := by decide +kernel
theorem dX12_presentedCount_11 : decode cX12_presentedCount 11 = .ok (.iaload, 1) := by decide +kernel
theorem dX12_presentedCount_12 : decode cX12_presentedCount 12 = .ok (.ireturn, 1) := by decide +kernel
theorem dX12_presentedAt_0 : decode cX12_presentedAt 0 = .ok (.aload_n 0, 1) := by decide +kernel
theorem dX12_presentedAt_1 : decode cX12_presentedAt 1 = .ok (.iload_n 1, 1) := by decide +kernel
theorem dX12_presentedAt_2 : decode cX12_presentedAt 2 = .ok (.iconst 0, 1) := by decide +kernel
theorem dX12_presentedAt_3 : decode cX12_presentedAt 3 = .ok (.aload_n 0, 1) := by decide +kernel
theorem dX12_presentedAt_4 : decode cX12_presentedAt 4 = .ok (.getfield 7, 3) := by decide +kernel
theorem dX12_presentedAt_7 : decode cX12_presentedAt 7 = .ok (.bipush 9, 2) := by decide +kernel
theorem dX12_presentedAt_9 : decode cX12_presentedAt 9 = .ok (.iaload, 1) := by decide +kernel
theorem dX12_presentedAt_10 : decode cX12_presentedAt 10 = .ok (.iconst 1, 1) := by decide +kernel
theorem dX12_presentedAt_11 : decode cX12_presentedAt 11 = .ok (.isub, 1) := by decide +kernel
theorem dX12_presentedAt_12 : decode cX12_presentedAt 12 = .ok (.invokestatic 66, 3) := by decide +kernel
theorem dX12_presentedAt_15 : decode cX12_presentedAt 15 = .ok (.ifCond .eq 7, 3) := by decide +kernel
theorem dX12_presentedAt_18 : decode cX12_presentedAt 18 = .ok (.iconst 0, 1) := by decide +kernel
theorem dX12_presentedAt_19 : decode cX12_presentedAt 19 = .ok (.goto 4, 3) := by decide +kernel
theorem dX12_presentedAt_22 : decode cX12_presentedAt 22 = .ok (.iconst 1, 1) := by decide +kernel
theorem dX12_presentedAt_23 : decode cX12_presentedAt 23 = .ok (.putfield 41, 3) := by decide +kernel
theorem dX12_presentedAt_26 : decode cX12_presentedAt 26 = .ok (.aload_n 0, 1) := by decide +kernel
theorem dX12_presentedAt_27 : decode cX12_presentedAt 27 = .ok (.getfield 41, 3) := by decide +kernel
theorem dX12_presentedAt_30 : decode cX12_presentedAt 30 = .ok (.ifCond .le 7, 3) := by decide +kernel
theorem dX12_presentedAt_33 : decode cX12_presentedAt 33 = .ok (.iconst 0, 1) := by decide +kernel
theorem dX12_presentedAt_34 : decode cX12_presentedAt 34 = .ok (.goto 12, 3) := by decide +kernel
theorem dX12_presentedAt_37 : decode cX12_presentedAt 37 = .ok (.aload_n 0, 1) := by decide +kernel
theorem dX12_presentedAt_38 : decode cX12_presentedAt 38 = .ok (.getfield 7, 3) := by decide +kernel
theorem dX12_presentedAt_41 : decode cX12_presentedAt 41 = .ok (.bipush 23, 2) := by decide +kernel
theorem dX12_presentedAt_43 : decode cX12_presentedAt 43 = .ok (.iload_n 1, 1) := by decide +kernel
theorem dX12_presentedAt_44 : decode cX12_presentedAt 44 = .ok (.iadd, 1) := by decide +kernel
theorem dX12_presentedAt_45 : decode cX12_presentedAt 45 = .ok (.iaload, 1) := by decide +kernel
theorem dX12_presentedAt_46 : decode cX12_presentedAt 46 = .ok (.ireturn, 1) := by decide +kernel
theorem dX12_areEnough_0 : decode cX12_areEnough 0 = .ok (.aload_n 0, 1) := by decide +kernel
theorem dX12_areEnough_1 : decode cX12_areEnough 1 = .ok (.aload_n 0, 1) := by decide +kernel
theorem dX12_areEnough_2 : decode cX12_areEnough 2 = .ok (.getfield 7, 3) := by decide +kernel
theorem dX12_areEnough_5 : decode cX12_areEnough 5 = .ok (.iconst 1, 1) := by decide +kernel
theorem dX12_areEnough_6 : decode cX12_areEnough 6 = .ok (.iaload, 1) := by decide +kernel
theorem dX12_areEnough_7 : decode cX12_areEnough 7 = .ok (.iconst 1, 1) := by decide +kernel
theorem dX12_areEnough_8 : decode cX12_areEnough 8 = .ok (.if_icmp .ne 23, 3) := by decide +kernel
theorem dX12_areEnough_11 : decode cX12_areEnough 11 = .ok (.aload_n 0, 1) := by decide +kernel
theorem dX12_areEnough_12 : decode cX12_areEnough 12 = .ok (.getfield 7, 3) := by decide +kernel
theorem dX12_areEnough_15 : decode cX12_areEnough 15 = .ok (.bipush 9, 2) := by decide +kernel
theorem dX12_areEnough_17 : decode cX12_areEnough 17 = .ok (.iaload, 1) := by decide +kernel
theorem dX12_areEnough_18 : decode cX12_areEnough 18 = .ok (.aload_n 0, 1) := by decide +kernel
theorem dX12_areEnough_19 : decode cX12_areEnough 19 = .ok (.getfield 7, 3) := by decide +kernel
theorem dX12_areEnough_22 : decode cX12_areEnough 22 = .ok (.iconst 5, 1) := by decide +kernel
theorem dX12_areEnough_23 : decode cX12_areEnough 23 = .ok (.iaload, 1) := by decide +kernel
theorem dX12_areEnough_24 : decode cX12_areEnough 24 = .ok (.if_icmp .lt 7, 3) := by decide +kernel
theorem dX12_areEnough_27 : decode cX12_areEnough 27 = .ok (.iconst 0, 1) := by decide +kernel
theorem dX12_areEnough_28 : decode cX12_areEnough 28 = .ok (.goto 4, 3) := by decide +kernel
theorem dX12_areEnough_31 : decode cX12_areEnough 31 = .ok (.iconst 1, 1) := by decide +kernel
theorem dX12_areEnough_32 : decode cX12_areEnough 32 = .ok (.putfield 41, 3) := by decide +kernel
theorem dX12_areEnough_35 : decode cX12_areEnough 35 = .ok (.aload_n 0, 1) := by decide +kernel
theorem dX12_areEnough_36 : decode cX12_areEnough 36 = .ok (.getfield 41, 3) := by decide +kernel
theorem dX12_areEnough_39 : decode cX12_areEnough 39 = .ok (.ifCond .ne 7, 3) := by decide +kernel
theorem dX12_areEnough_42 : decode cX12_areEnough 42 = .ok (.iconst 1, 1) := by decide +kernel
theorem dX12_areEnough_43 : decode cX12_areEnough 43 = .ok (.goto 4, 3) := by decide +kernel
theorem dX12_areEnough_46 : decode cX12_areEnough 46 = .ok (.iconst 0, 1) := by decide +kernel
theorem dX12_areEnough_47 : decode cX12_areEnough 47 = .ok (.ireturn, 1) := by decide +kernel
theorem dX12_toldSecret_0 : decode cX12_toldSecret 0 = .ok (.aload_n 0, 1) := by decide +kernel
theorem dX12_toldSecret_1 : decode cX12_toldSecret 1 = .ok (.invokevirtual 172, 3) := by decide +kernel
theorem dX12_toldSecret_4 : decode cX12_toldSecret 4 = .ok (.ifCond .ne 5, 3) := by decide +kernel
theorem dX12_toldSecret_7 : decode cX12_toldSecret 7 = .ok (.iconst 0, 1) := by decide +kernel
theorem dX12_toldSecret_8 : decode cX12_toldSecret 8 = .ok (.ireturn, 1) := by decide +kernel
theorem dX12_toldSecret_9 : decode cX12_toldSecret 9 = .ok (.aload_n 0, 1) := by decide +kernel
theorem dX12_toldSecret_10 : decode cX12_toldSecret 10 = .ok (.invokevirtual 116, 3) := by decide +kernel
theorem dX12_toldSecret_13 : decode cX12_toldSecret 13 = .ok (.aload_n 0, 1) := by decide +kernel
theorem dX12_toldSecret_14 : decode cX12_toldSecret 14 = .ok (.iconst 0, 1) := by decide +kernel
theorem dX12_toldSecret_15 : decode cX12_toldSecret 15 = .ok (.invokevirtual 73, 3) := by decide +kernel
theorem dX12_toldSecret_18 : decode cX12_toldSecret 18 = .ok (.ireturn, 1) := by decide +kernel
theorem dX12_toldSecretByElimination_0 : decode cX12_toldSecretByElimination 0 = .ok (.aload_n 0, 1) := by decide +kernel
theorem dX12_toldSecretByElimination_1 : decode cX12_toldSecretByElimination 1 = .ok (.invokevirtual 176, 3) := by decide +kernel
theorem dX12_toldSecretByElimination_4 : decode cX12_toldSecretByElimination 4 = .ok (.ireturn, 1) := by decide +kernel
theorem dX12_toldValue_0 : decode cX12_toldValue 0 = .ok (.aload_n 0, 1) := by decide +kernel
theorem dX12_toldValue_1 : decode cX12_toldValue 1 = .ok (.invokevirtual 172, 3) := by decide +kernel
theorem dX12_toldValue_4 : decode cX12_toldValue 4 = .ok (.istore_n 2, 1) := by decide +kernel
theorem dX12_toldValue_5 : decode cX12_toldValue 5 = .ok (.aload_n 0, 1) := by decide +kernel
theorem dX12_toldValue_6 : decode cX12_toldValue 6 = .ok (.iload_n 1, 1) := by decide +kernel
theorem dX12_toldValue_7 : decode cX12_toldValue 7 = .ok (.iconst 0, 1) := by decide +kernel
theorem dX12_toldValue_8 : decode cX12_toldValue 8 = .ok (.bipush 96, 2) := by decide +kernel
theorem dX12_toldValue_10 : decode cX12_toldValue 10 = .ok (.invokestatic 66, 3) := by decide +kernel
theorem dX12_toldValue_13 : decode cX12_toldValue 13 = .ok (.ifCond .ne 7, 3) := by decide +kernel
theorem dX12_toldValue_16 : decode cX12_toldValue 16 = .ok (.iconst 1, 1) := by decide +kernel
theorem dX12_toldValue_17 : decode cX12_toldValue 17 = .ok (.goto 12, 3) := by decide +kernel
theorem dX12_toldValue_20 : decode cX12_toldValue 20 = .ok (.iload_n 2, 1) := by decide +kernel
theorem dX12_toldValue_21 : decode cX12_toldValue 21 = .ok (.ifCond .eq 7, 3) := by decide +kernel
theorem dX12_toldValue_24 : decode cX12_toldValue 24 = .ok (.iconst 0, 1) := by decide +kernel
theorem dX12_toldValue_25 : decode cX12_toldValue 25 = .ok (.goto 4, 3) := by decide +kernel
theorem dX12_toldValue_28 : decode cX12_toldValue 28 = .ok (.iconst 2, 1) := by decide +kernel
theorem dX12_toldValue_29 : decode cX12_toldValue 29 = .ok (.putfield 41, 3) := by decide +kernel
theorem dX12_toldValue_32 : decode cX12_toldValue 32 = .ok (.aload_n 0, 1) := by decide +kernel
theorem dX12_toldValue_33 : decode cX12_toldValue 33 = .ok (.getfield 41, 3) := by decide +kernel
theorem dX12_toldValue_36 : decode cX12_toldValue 36 = .ok (.ifCond .le 5, 3) := by decide +kernel
theorem dX12_toldValue_39 : decode cX12_toldValue 39 = .ok (.iconst 0, 1) := by decide +kernel
theorem dX12_toldValue_40 : decode cX12_toldValue 40 = .ok (.ireturn, 1) := by decide +kernel
theorem dX12_toldValue_41 : decode cX12_toldValue 41 = .ok (.aload_n 0, 1) := by decide +kernel
theorem dX12_toldValue_42 : decode cX12_toldValue 42 = .ok (.invokevirtual 116, 3) := by decide +kernel
theorem dX12_toldValue_45 : decode cX12_toldValue 45 = .ok (.aload_n 0, 1) := by decide +kernel
theorem dX12_toldValue_46 : decode cX12_toldValue 46 = .ok (.iload_n 1, 1) := by decide +kernel
theorem dX12_toldValue_47 : decode cX12_toldValue 47 = .ok (.invokevirtual 73, 3) := by decide +kernel
theorem dX12_toldValue_50 : decode cX12_toldValue 50 = .ok (.ireturn, 1) := by decide +kernel
theorem dX12_doAgree_0 : decode cX12_doAgree 0 = .ok (.aload_n 0, 1) := by decide +kernel
theorem dX12_doAgree_1 : decode cX12_doAgree 1 = .ok (.invokevirtual 172, 3) := by decide +kernel
theorem dX12_doAgree_4 : decode cX12_doAgree 4 = .ok (.ifCond .ne 5, 3) := by decide +kernel
theorem dX12_doAgree_7 : decode cX12_doAgree 7 = .ok (.iconst 0, 1) := by decide +kernel
theorem dX12_doAgree_8 : decode cX12_doAgree 8 = .ok (.ireturn, 1) := by decide +kernel
theorem dX12_doAgree_9 : decode cX12_doAgree 9 = .ok (.aload_n 0, 1) := by decide +kernel
theorem dX12_doAgree_10 : decode cX12_doAgree 10 = .ok (.invokevirtual 116, 3) := by decide +kernel
theorem dX12_doAgree_13 : decode cX12_doAgree 13 = .ok (.aload_n 0, 1) := by decide +kernel
theorem dX12_doAgree_14 : decode cX12_doAgree 14 = .ok (.invokevirtual 76, 3) := by decide +kernel
theorem dX12_doAgree_17 : decode cX12_doAgree 17 = .ok (.aload_n 0, 1) := by decide +kernel
theorem dX12_doAgree_18 : decode cX12_doAgree 18 = .ok (.getfield 7, 3) := by decide +kernel
theorem dX12_doAgree_21 : decode cX12_doAgree 21 = .ok (.bipush 9, 2) := by decide +kernel
theorem dX12_doAgree_23 : decode cX12_doAgree 23 = .ok (.iaload, 1) := by decide +kernel
theorem dX12_doAgree_24 : decode cX12_doAgree 24 = .ok (.if_icmp .ne 7, 3) := by decide +kernel
theorem dX12_doAgree_27 : decode cX12_doAgree 27 = .ok (.iconst 1, 1) := by decide +kernel
theorem dX12_doAgree_28 : decode cX12_doAgree 28 = .ok (.goto 4, 3) := by decide +kernel
theorem dX12_doAgree_31 : decode cX12_doAgree 31 = .ok (.iconst 0, 1) := by decide +kernel
theorem dX12_doAgree_32 : decode cX12_doAgree 32 = .ok (.ireturn, 1) := by decide +kernel
theorem dX12_mostAgreeing_0 : decode cX12_mostAgreeing 0 = .ok (.aload_n 0, 1) := by decide +kernel
theorem dX12_mostAgreeing_1 : decode cX12_mostAgreeing 1 = .ok (.invokevirtual 172, 3) := by decide +kernel
theorem dX12_mostAgreeing_4 : decode cX12_mostAgreeing 4 = .ok (.ifCond .eq 12, 3) := by decide +kernel
theorem dX12_mostAgreeing_7 : decode cX12_mostAgreeing 7 = .ok (.aload_n 0, 1) := by decide +kernel
theorem dX12_mostAgreeing_8 : decode cX12_mostAgreeing 8 = .ok (.iconst 0, 1) := by decide +kernel
theorem dX12_mostAgreeing_9 : decode cX12_mostAgreeing 9 = .ok (.iconst 0, 1) := by decide +kernel
theorem dX12_mostAgreeing_10 : decode cX12_mostAgreeing 10 = .ok (.invokevirtual 80, 3) := by decide +kernel
theorem dX12_mostAgreeing_13 : decode cX12_mostAgreeing 13 = .ok (.goto 4, 3) := by decide +kernel
theorem dX12_mostAgreeing_16 : decode cX12_mostAgreeing 16 = .ok (.iconst 0, 1) := by decide +kernel
theorem dX12_mostAgreeing_17 : decode cX12_mostAgreeing 17 = .ok (.ireturn, 1) := by decide +kernel
theorem dX12_mostAgreeingBySets_0 : decode cX12_mostAgreeingBySets 0 = .ok (.aload_n 0, 1) := by decide +kernel
theorem dX12_mostAgreeingBySets_1 : decode cX12_mostAgreeingBySets 1 = .ok (.invokevirtual 179, 3) := by decide +kernel
theorem dX12_mostAgreeingBySets_4 : decode cX12_mostAgreeingBySets 4 = .ok (.ireturn, 1) := by decide +kernel
theorem dX12_isOpen_0 : decode cX12_isOpen 0 = .ok (.aload_n 0, 1) := by decide +kernel
theorem dX12_isOpen_1 : decode cX12_isOpen 1 = .ok (.iconst 0, 1) := by decide +kernel
theorem dX12_isOpen_2 : decode cX12_isOpen 2 = .ok (.putfield 41, 3) := by decide +kernel
theorem dX12_isOpen_5 : decode cX12_isOpen 5 = .ok (.aload_n 0, 1) := by decide +kernel
theorem dX12_isOpen_6 : decode cX12_isOpen 6 = .ok (.getfield 7, 3) := by decide +kernel
theorem dX12_isOpen_9 : decode cX12_isOpen 9 = .ok (.bipush 6, 2) := by decide +kernel
theorem dX12_isOpen_11 : decode cX12_isOpen 11 = .ok (.iaload, 1) := by decide +kernel
theorem dX12_isOpen_12 : decode cX12_isOpen 12 = .ok (.iconst 1, 1) := by decide +kernel
theorem dX12_isOpen_13 : decode cX12_isOpen 13 = .ok (.if_icmp .ne 7, 3) := by decide +kernel
theorem dX12_isOpen_16 : decode cX12_isOpen 16 = .ok (.iconst 1, 1) := by decide +kernel
theorem dX12_isOpen_17 : decode cX12_isOpen 17 = .ok (.goto 4, 3) := by decide +kernel
theorem dX12_isOpen_20 : decode cX12_isOpen 20 = .ok (.iconst 0, 1) := by decide +kernel
theorem dX12_isOpen_21 : decode cX12_isOpen 21 = .ok (.ireturn, 1) := by decide +kernel
theorem dX12_lockedHours_0 : decode cX12_lockedHours 0 = .ok (.aload_n 0, 1) := by decide +kernel
theorem dX12_lockedHours_1 : decode cX12_lockedHours 1 = .ok (.iconst 0, 1) := by decide +kernel
theorem dX12_lockedHours_2 : decode cX12_lockedHours 2 = .ok (.putfield 41, 3) := by decide +kernel
theorem dX12_lockedHours_5 : decode cX12_lockedHours 5 = .ok (.aload_n 0, 1) := by decide +kernel
theorem dX12_lockedHours_6 : decode cX12_lockedHours 6 = .ok (.getfield 7, 3) := by decide +kernel
theorem dX12_lockedHours_9 : decode cX12_lockedHours 9 = .ok (.bipush 7, 2) := by decide +kernel
theorem dX12_lockedHours_11 : decode cX12_lockedHours 11 = .ok (.iaload, 1) := by decide +kernel
theorem dX12_lockedHours_12 : decode cX12_lockedHours 12 = .ok (.ireturn, 1) := by decide +kernel
theorem dX12_failedAttempts_0 : decode cX12_failedAttempts 0 = .ok (.aload_n 0, 1) := by decide +kernel
theorem dX12_failedAttempts_1 : decode cX12_failedAttempts 1 = .ok (.iconst 0, 1) := by decide +kernel
theorem dX12_failedAttempts_2 : decode cX12_failedAttempts 2 = .ok (.putfield 41, 3) := by decide +kernel
theorem dX12_failedAttempts_5 : decode cX12_failedAttempts 5 = .ok (.aload_n 0, 1) := by decide +kernel
theorem dX12_failedAttempts_6 : decode cX12_failedAttempts 6 = .ok (.getfield 7, 3) := by decide +kernel
theorem dX12_failedAttempts_9 : decode cX12_failedAttempts 9 = .ok (.bipush 8, 2) := by decide +kernel
theorem dX12_failedAttempts_11 : decode cX12_failedAttempts 11 = .ok (.iaload, 1) := by decide +kernel
theorem dX12_failedAttempts_12 : decode cX12_failedAttempts 12 = .ok (.ireturn, 1) := by decide +kernel
theorem dX12_guardCount_0 : decode cX12_guardCount 0 = .ok (.aload_n 0, 1) := by decide +kernel
theorem dX12_guardCount_1 : decode cX12_guardCount 1 = .ok (.iconst 0, 1) := by decide +kernel
theorem dX12_guardCount_2 : decode cX12_guardCount 2 = .ok (.putfield 41, 3) := by decide +kernel
theorem dX12_guardCount_5 : decode cX12_guardCount 5 = .ok (.aload_n 0, 1) := by decide +kernel
theorem dX12_guardCount_6 : decode cX12_guardCount 6 = .ok (.getfield 7, 3) := by decide +kernel
theorem dX12_guardCount_9 : decode cX12_guardCount 9 = .ok (.bipush 10, 2) := by decide +kernel
theorem dX12_guardCount_11 : decode cX12_guardCount 11 = .ok (.iaload, 1) := by decide +kernel
theorem dX12_guardCount_12 : decode cX12_guardCount 12 = .ok (.ireturn, 1) := by decide +kernel
theorem dX12_zoneOf_0 : decode cX12_zoneOf 0 = .ok (.aload_n 0, 1) := by decide +kernel
theorem dX12_zoneOf_1 : decode cX12_zoneOf 1 = .ok (.aload_n 0, 1) := by decide +kernel
theorem dX12_zoneOf_2 : decode cX12_zoneOf 2 = .ok (.iload_n 1, 1) := by decide +kernel
theorem dX12_zoneOf_3 : decode cX12_zoneOf 3 = .ok (.invokevirtual 122, 3) := by decide +kernel
theorem dX12_zoneOf_6 : decode cX12_zoneOf 6 = .ok (.ifCond .eq 7, 3) := by decide +kernel
theorem dX12_zoneOf_9 : decode cX12_zoneOf 9 = .ok (.iconst 0, 1) := by decide +kernel
theorem dX12_zoneOf_10 : decode cX12_zoneOf 10 = .ok (.goto 4, 3) := by decide +kernel
theorem dX12_zoneOf_13 : decode cX12_zoneOf 13 = .ok (.iconst 1, 1) := by decide +kernel
theorem dX12_zoneOf_14 : decode cX12_zoneOf 14 = .ok (.putfield 41, 3) := by decide +kernel
theorem dX12_zoneOf_17 : decode cX12_zoneOf 17 = .ok (.aload_n 0, 1) := by decide +kernel
theorem dX12_zoneOf_18 : decode cX12_zoneOf 18 = .ok (.getfield 41, 3) := by decide +kernel
theorem dX12_zoneOf_21 : decode cX12_zoneOf 21 = .ok (.ifCond .le 7, 3) := by decide +kernel
theorem dX12_zoneOf_24 : decode cX12_zoneOf 24 = .ok (.iconst 0, 1) := by decide +kernel
theorem dX12_zoneOf_25 : decode cX12_zoneOf 25 = .ok (.goto 9, 3) := by decide +kernel
theorem dX12_zoneOf_28 : decode cX12_zoneOf 28 = .ok (.aload_n 0, 1) := by decide +kernel
theorem dX12_zoneOf_29 : decode cX12_zoneOf 29 = .ok (.iload_n 1, 1) := by decide +kernel
theorem dX12_zoneOf_30 : decode cX12_zoneOf 30 = .ok (.iconst 0, 1) := by decide +kernel
theorem dX12_zoneOf_31 : decode cX12_zoneOf 31 = .ok (.invokevirtual 84, 3) := by decide +kernel
theorem dX12_zoneOf_34 : decode cX12_zoneOf 34 = .ok (.ireturn, 1) := by decide +kernel
theorem dX12_isForwards_0 : decode cX12_isForwards 0 = .ok (.aload_n 0, 1) := by decide +kernel
theorem dX12_isForwards_1 : decode cX12_isForwards 1 = .ok (.aload_n 0, 1) := by decide +kernel
theorem dX12_isForwards_2 : decode cX12_isForwards 2 = .ok (.iload_n 1, 1) := by decide +kernel
theorem dX12_isForwards_3 : decode cX12_isForwards 3 = .ok (.invokevirtual 122, 3) := by decide +kernel
theorem dX12_isForwards_6 : decode cX12_isForwards 6 = .ok (.ifCond .eq 7, 3) := by decide +kernel
theorem dX12_isForwards_9 : decode cX12_isForwards 9 = .ok (.iconst 0, 1) := by decide +kernel
theorem dX12_isForwards_10 : decode cX12_isForwards 10 = .ok (.goto 4, 3) := by decide +kernel
theorem dX12_isForwards_13 : decode cX12_isForwards 13 = .ok (.iconst 1, 1) := by decide +kernel
theorem dX12_isForwards_14 : decode cX12_isForwards 14 = .ok (.putfield 41, 3) := by decide +kernel
theorem dX12_isForwards_17 : decode cX12_isForwards 17 = .ok (.aload_n 0, 1) := by decide +kernel
theorem dX12_isForwards_18 : decode cX12_isForwards 18 = .ok (.getfield 41, 3) := by decide +kernel
theorem dX12_isForwards_21 : decode cX12_isForwards 21 = .ok (.ifCond .ne 17, 3) := by decide +kernel
theorem dX12_isForwards_24 : decode cX12_isForwards 24 = .ok (.aload_n 0, 1) := by decide +kernel
theorem dX12_isForwards_25 : decode cX12_isForwards 25 = .ok (.iload_n 1, 1) := by decide +kernel
theorem dX12_isForwards_26 : decode cX12_isForwards 26 = .ok (.iconst 1, 1) := by decide +kernel
theorem dX12_isForwards_27 : decode cX12_isForwards 27 = .ok (.invokevirtual 84, 3) := by decide +kernel
theorem dX12_isForwards_30 : decode cX12_isForwards 30 = .ok (.iconst 1, 1) := by decide +kernel
theorem dX12_isForwards_31 : decode cX12_isForwards 31 = .ok (.if_icmp .ne 7, 3) := by decide +kernel
theorem dX12_isForwards_34 : decode cX12_isForwards 34 = .ok (.iconst 1, 1) := by decide +kernel
theorem dX12_isForwards_35 : decode cX12_isForwards 35 = .ok (.goto 4, 3) := by decide +kernel
theorem dX12_isForwards_38 : decode cX12_isForwards 38 = .ok (.iconst 0, 1) := by decide +kernel
theorem dX12_isForwards_39 : decode cX12_isForwards 39 = .ok (.ireturn, 1) := by decide +kernel
theorem dX12_isAsked_0 : decode cX12_isAsked 0 = .ok (.aload_n 0, 1) := by decide +kernel
theorem dX12_isAsked_1 : decode cX12_isAsked 1 = .ok (.iload_n 1, 1) := by decide +kernel
theorem dX12_isAsked_2 : decode cX12_isAsked 2 = .ok (.invokestatic 119, 3) := by decide +kernel
theorem dX12_isAsked_5 : decode cX12_isAsked 5 = .ok (.ifCond .eq 7, 3) := by decide +kernel
theorem dX12_isAsked_8 : decode cX12_isAsked 8 = .ok (.iconst 0, 1) := by decide +kernel
theorem dX12_isAsked_9 : decode cX12_isAsked 9 = .ok (.goto 4, 3) := by decide +kernel
theorem dX12_isAsked_12 : decode cX12_isAsked 12 = .ok (.iconst 1, 1) := by decide +kernel
theorem dX12_isAsked_13 : decode cX12_isAsked 13 = .ok (.putfield 41, 3) := by decide +kernel
theorem dX12_isAsked_16 : decode cX12_isAsked 16 = .ok (.aload_n 0, 1) := by decide +kernel
theorem dX12_isAsked_17 : decode cX12_isAsked 17 = .ok (.getfield 41, 3) := by decide +kernel
theorem dX12_isAsked_20 : decode cX12_isAsked 20 = .ok (.ifCond .ne 7, 3) := by decide +kernel
theorem dX12_isAsked_23 : decode cX12_isAsked 23 = .ok (.iconst 1, 1) := by decide +kernel
theorem dX12_isAsked_24 : decode cX12_isAsked 24 = .ok (.goto 4, 3) := by decide +kernel
theorem dX12_isAsked_27 : decode cX12_isAsked 27 = .ok (.iconst 0, 1) := by decide +kernel
theorem dX12_isAsked_28 : decode cX12_isAsked 28 = .ok (.ireturn, 1) := by decide +kernel
theorem dX12_noise_0 : decode cX12_noise 0 = .ok (.aload_n 0, 1) := by decide +kernel
theorem dX12_noise_1 : decode cX12_noise 1 = .ok (.iload_n 1, 1) := by decide +kernel
theorem dX12_noise_2 : decode cX12_noise 2 = .ok (.invokevirtual 182, 3) := by decide +kernel
theorem dX12_noise_5 : decode cX12_noise 5 = .ok (.ifCond .eq 15, 3) := by decide +kernel
theorem dX12_noise_8 : decode cX12_noise 8 = .ok (.aload_n 0, 1) := by decide +kernel
theorem dX12_noise_9 : decode cX12_noise 9 = .ok (.getfield 7, 3) := by decide +kernel
theorem dX12_noise_12 : decode cX12_noise 12 = .ok (.bipush 31, 2) := by decide +kernel
theorem dX12_noise_14 : decode cX12_noise 14 = .ok (.iload_n 1, 1) := by decide +kernel
theorem dX12_noise_15 : decode cX12_noise 15 = .ok (.iadd, 1) := by decide +kernel
theorem dX12_noise_16 : decode cX12_noise 16 = .ok (.iaload, 1) := by decide +kernel
theorem dX12_noise_17 : decode cX12_noise 17 = .ok (.goto 4, 3) := by decide +kernel
theorem dX12_noise_20 : decode cX12_noise 20 = .ok (.iconst 0, 1) := by decide +kernel
theorem dX12_noise_21 : decode cX12_noise 21 = .ok (.ireturn, 1) := by decide +kernel
theorem dX12_isGuarded_0 : decode cX12_isGuarded 0 = .ok (.aload_n 0, 1) := by decide +kernel
theorem dX12_isGuarded_1 : decode cX12_isGuarded 1 = .ok (.iload_n 1, 1) := by decide +kernel
theorem dX12_isGuarded_2 : decode cX12_isGuarded 2 = .ok (.invokevirtual 182, 3) := by decide +kernel
theorem dX12_isGuarded_5 : decode cX12_isGuarded 5 = .ok (.ifCond .eq 23, 3) := by decide +kernel
theorem dX12_isGuarded_8 : decode cX12_isGuarded 8 = .ok (.aload_n 0, 1) := by decide +kernel
theorem dX12_isGuarded_9 : decode cX12_isGuarded 9 = .ok (.iload_n 1, 1) := by decide +kernel
theorem dX12_isGuarded_10 : decode cX12_isGuarded 10 = .ok (.invokevirtual 87, 3) := by decide +kernel
theorem dX12_isGuarded_13 : decode cX12_isGuarded 13 = .ok (.ifCond .ne 11, 3) := by decide +kernel
theorem dX12_isGuarded_16 : decode cX12_isGuarded 16 = .ok (.aload_n 0, 1) := by decide +kernel
theorem dX12_isGuarded_17 : decode cX12_isGuarded 17 = .ok (.iload_n 1, 1) := by decide +kernel
theorem dX12_isGuarded_18 : decode cX12_isGuarded 18 = .ok (.invokevirtual 91, 3) := by decide +kernel
theorem dX12_isGuarded_21 : decode cX12_isGuarded 21 = .ok (.ifCond .eq 7, 3) := by decide +kernel
theorem dX12_isGuarded_24 : decode cX12_isGuarded 24 = .ok (.iconst 1, 1) := by decide +kernel
theorem dX12_isGuarded_25 : decode cX12_isGuarded 25 = .ok (.goto 4, 3) := by decide +kernel
theorem dX12_isGuarded_28 : decode cX12_isGuarded 28 = .ok (.iconst 0, 1) := by decide +kernel
theorem dX12_isGuarded_29 : decode cX12_isGuarded 29 = .ok (.ireturn, 1) := by decide +kernel
theorem dX12_hoursUntilVisit_0 : decode cX12_hoursUntilVisit 0 = .ok (.aload_n 0, 1) := by decide +kernel
theorem dX12_hoursUntilVisit_1 : decode cX12_hoursUntilVisit 1 = .ok (.iload_n 1, 1) := by decide +kernel
theorem dX12_hoursUntilVisit_2 : decode cX12_hoursUntilVisit 2 = .ok (.invokestatic 119, 3) := by decide +kernel
theorem dX12_hoursUntilVisit_5 : decode cX12_hoursUntilVisit 5 = .ok (.ifCond .ne 7, 3) := by decide +kernel
theorem dX12_hoursUntilVisit_8 : decode cX12_hoursUntilVisit 8 = .ok (.iconst 1, 1) := by decide +kernel
theorem dX12_hoursUntilVisit_9 : decode cX12_hoursUntilVisit 9 = .ok (.goto 18, 3) := by decide +kernel
theorem dX12_hoursUntilVisit_12 : decode cX12_hoursUntilVisit 12 = .ok (.aload_n 0, 1) := by decide +kernel
theorem dX12_hoursUntilVisit_13 : decode cX12_hoursUntilVisit 13 = .ok (.getfield 7, 3) := by decide +kernel
theorem dX12_hoursUntilVisit_16 : decode cX12_hoursUntilVisit 16 = .ok (.bipush 10, 2) := by decide +kernel
theorem dX12_hoursUntilVisit_18 : decode cX12_hoursUntilVisit 18 = .ok (.iaload, 1) := by decide +kernel
theorem dX12_hoursUntilVisit_19 : decode cX12_hoursUntilVisit 19 = .ok (.ifCond .ne 7, 3) := by decide +kernel
theorem dX12_hoursUntilVisit_22 : decode cX12_hoursUntilVisit 22 = .ok (.iconst 2, 1) := by decide +kernel
theorem dX12_hoursUntilVisit_23 : decode cX12_hoursUntilVisit 23 = .ok (.goto 4, 3) := by decide +kernel
theorem dX12_hoursUntilVisit_26 : decode cX12_hoursUntilVisit 26 = .ok (.iconst 0, 1) := by decide +kernel
theorem dX12_hoursUntilVisit_27 : decode cX12_hoursUntilVisit 27 = .ok (.putfield 41, 3) := by decide +kernel
theorem dX12_hoursUntilVisit_30 : decode cX12_hoursUntilVisit 30 = .ok (.aload_n 0, 1) := by decide +kernel
theorem dX12_hoursUntilVisit_31 : decode cX12_hoursUntilVisit 31 = .ok (.getfield 41, 3) := by decide +kernel
theorem dX12_hoursUntilVisit_34 : decode cX12_hoursUntilVisit 34 = .ok (.ifCond .le 5, 3) := by decide +kernel
theorem dX12_hoursUntilVisit_37 : decode cX12_hoursUntilVisit 37 = .ok (.iconst 0, 1) := by decide +kernel
theorem dX12_hoursUntilVisit_38 : decode cX12_hoursUntilVisit 38 = .ok (.ireturn, 1) := by decide +kernel
theorem dX12_hoursUntilVisit_39 : decode cX12_hoursUntilVisit 39 = .ok (.aload_n 0, 1) := by decide +kernel
theorem dX12_hoursUntilVisit_40 : decode cX12_hoursUntilVisit 40 = .ok (.invokevirtual 185, 3) := by decide +kernel
theorem dX12_hoursUntilVisit_43 : decode cX12_hoursUntilVisit 43 = .ok (.iconst 0, 1) := by decide +kernel
theorem dX12_hoursUntilVisit_44 : decode cX12_hoursUntilVisit 44 = .ok (.istore_n 2, 1) := by decide +kernel
theorem dX12_hoursUntilVisit_45 : decode cX12_hoursUntilVisit 45 = .ok (.aload_n 0, 1) := by decide +kernel
theorem dX12_hoursUntilVisit_46 : decode cX12_hoursUntilVisit 46 = .ok (.iload_n 1, 1) := by decide +kernel
theorem dX12_hoursUntilVisit_47 : decode cX12_hoursUntilVisit 47 = .ok (.invokevirtual 87, 3) := by decide +kernel
theorem dX12_hoursUntilVisit_50 : decode cX12_hoursUntilVisit 50 = .ok (.ifCond .ne 14, 3) := by decide +kernel
theorem dX12_hoursUntilVisit_53 : decode cX12_hoursUntilVisit 53 = .ok (.aload_n 0, 1) := by decide +kernel
theorem dX12_hoursUntilVisit_54 : decode cX12_hoursUntilVisit 54 = .ok (.invokevirtual 125, 3) := by decide +kernel
theorem dX12_hoursUntilVisit_57 : decode cX12_hoursUntilVisit 57 = .ok (.istore_n 3, 1) := by decide +kernel
theorem dX12_hoursUntilVisit_58 : decode cX12_hoursUntilVisit 58 = .ok (.iinc 2 1, 3) := by decide +kernel
theorem dX12_hoursUntilVisit_61 : decode cX12_hoursUntilVisit 61 = .ok (.goto (-16), 3) := by decide +kernel
theorem dX12_hoursUntilVisit_64 : decode cX12_hoursUntilVisit 64 = .ok (.aload_n 0, 1) := by decide +kernel
theorem dX12_hoursUntilVisit_65 : decode cX12_hoursUntilVisit 65 = .ok (.invokevirtual 188, 3) := by decide +kernel
theorem dX12_hoursUntilVisit_68 : decode cX12_hoursUntilVisit 68 = .ok (.iload_n 2, 1) := by decide +kernel
theorem dX12_hoursUntilVisit_69 : decode cX12_hoursUntilVisit 69 = .ok (.ireturn, 1) := by decide +kernel
theorem dX12_hoursUntilVisitByRemainders_0 : decode cX12_hoursUntilVisitByRemainders 0 = .ok (.aload_n 0, 1) := by decide +kernel
theorem dX12_hoursUntilVisitByRemainders_1 : decode cX12_hoursUntilVisitByRemainders 1 = .ok (.iload_n 1, 1) := by decide +kernel
theorem dX12_hoursUntilVisitByRemainders_2 : decode cX12_hoursUntilVisitByRemainders 2 = .ok (.invokevirtual 191, 3) := by decide +kernel
theorem dX12_hoursUntilVisitByRemainders_5 : decode cX12_hoursUntilVisitByRemainders 5 = .ok (.ireturn, 1) := by decide +kernel
theorem dX12_alarmsIn_0 : decode cX12_alarmsIn 0 = .ok (.aload_n 0, 1) := by decide +kernel
theorem dX12_alarmsIn_1 : decode cX12_alarmsIn 1 = .ok (.iload_n 1, 1) := by decide +kernel
theorem dX12_alarmsIn_2 : decode cX12_alarmsIn 2 = .ok (.iconst 0, 1) := by decide +kernel
theorem dX12_alarmsIn_3 : decode cX12_alarmsIn 3 = .ok (.bipush 24, 2) := by decide +kernel
theorem dX12_alarmsIn_5 : decode cX12_alarmsIn 5 = .ok (.invokestatic 66, 3) := by decide +kernel
theorem dX12_alarmsIn_8 : decode cX12_alarmsIn 8 = .ok (.ifCond .eq 7, 3) := by decide +kernel
theorem dX12_alarmsIn_11 : decode cX12_alarmsIn 11 = .ok (.iconst 0, 1) := by decide +kernel
theorem dX12_alarmsIn_12 : decode cX12_alarmsIn 12 = .ok (.goto 4, 3) := by decide +kernel
theorem dX12_alarmsIn_15 : decode cX12_alarmsIn 15 = .ok (.iconst 1, 1) := by decide +kernel
theorem dX12_alarmsIn_16 : decode cX12_alarmsIn 16 = .ok (.putfield 41, 3) := by decide +kernel
theorem dX12_alarmsIn_19 : decode cX12_alarmsIn 19 = .ok (.aload_n 0, 1) := by decide +kernel
theorem dX12_alarmsIn_20 : decode cX12_alarmsIn 20 = .ok (.getfield 41, 3) := by decide +kernel
theorem dX12_alarmsIn_23 : decode cX12_alarmsIn 23 = .ok (.ifCond .le 5, 3) := by decide +kernel
theorem dX12_alarmsIn_26 : decode cX12_alarmsIn 26 = .ok (.iconst 0, 1) := by decide +kernel
theorem dX12_alarmsIn_27 : decode cX12_alarmsIn 27 = .ok (.ireturn, 1) := by decide +kernel
theorem dX12_alarmsIn_28 : decode cX12_alarmsIn 28 = .ok (.aload_n 0, 1) := by decide +kernel
theorem dX12_alarmsIn_29 : decode cX12_alarmsIn 29 = .ok (.invokevirtual 185, 3) := by decide +kernel
theorem dX12_alarmsIn_32 : decode cX12_alarmsIn 32 = .ok (.iconst 0, 1) := by decide +kernel
theorem dX12_alarmsIn_33 : decode cX12_alarmsIn 33 = .ok (.istore_n 2, 1) := by decide +kernel
theorem dX12_alarmsIn_34 : decode cX12_alarmsIn 34 = .ok (.iconst 0, 1) := by decide +kernel
theorem dX12_alarmsIn_35 : decode cX12_alarmsIn 35 = .ok (.istore_n 3, 1) := by decide +kernel
theorem dX12_alarmsIn_36 : decode cX12_alarmsIn 36 = .ok (.iload_n 3, 1) := by decide +kernel
theorem dX12_alarmsIn_37 : decode cX12_alarmsIn 37 = .ok (.iload_n 1, 1) := by decide +kernel
theorem dX12_alarmsIn_38 : decode cX12_alarmsIn 38 = .ok (.if_icmp .ge 16, 3) := by decide +kernel
theorem dX12_alarmsIn_41 : decode cX12_alarmsIn 41 = .ok (.iload_n 2, 1) := by decide +kernel
theorem dX12_alarmsIn_42 : decode cX12_alarmsIn 42 = .ok (.aload_n 0, 1) := by decide +kernel
theorem dX12_alarmsIn_43 : decode cX12_alarmsIn 43 = .ok (.invokevirtual 125, 3) := by decide +kernel
theorem dX12_alarmsIn_46 : decode cX12_alarmsIn 46 = .ok (.iadd, 1) := by decide +kernel
theorem dX12_alarmsIn_47 : decode cX12_alarmsIn 47 = .ok (.istore_n 2, 1) := by decide +kernel
theorem dX12_alarmsIn_48 : decode cX12_alarmsIn 48 = .ok (.iinc 3 1, 3) := by decide +kernel
theorem dX12_alarmsIn_51 : decode cX12_alarmsIn 51 = .ok (.goto (-15), 3) := by decide +kernel
theorem dX12_alarmsIn_54 : decode cX12_alarmsIn 54 = .ok (.aload_n 0, 1) := by decide +kernel
theorem dX12_alarmsIn_55 : decode cX12_alarmsIn 55 = .ok (.invokevirtual 188, 3) := by decide +kernel
theorem dX12_alarmsIn_58 : decode cX12_alarmsIn 58 = .ok (.iload_n 2, 1) := by decide +kernel
theorem dX12_alarmsIn_59 : decode cX12_alarmsIn 59 = .ok (.ireturn, 1) := by decide +kernel
theorem dX12_isAhead_0 : decode cX12_isAhead 0 = .ok (.aload_n 0, 1) := by decide +kernel
theorem dX12_isAhead_1 : decode cX12_isAhead 1 = .ok (.getfield 7, 3) := by decide +kernel
theorem dX12_isAhead_4 : decode cX12_isAhead 4 = .ok (.bipush 31, 2) := by decide +kernel
theorem dX12_isAhead_6 : decode cX12_isAhead 6 = .ok (.iload_n 1, 1) := by decide +kernel
theorem dX12_isAhead_7 : decode cX12_isAhead 7 = .ok (.iadd, 1) := by decide +kernel
theorem dX12_isAhead_8 : decode cX12_isAhead 8 = .ok (.iaload, 1) := by decide +kernel
theorem dX12_isAhead_9 : decode cX12_isAhead 9 = .ok (.aload_n 0, 1) := by decide +kernel
theorem dX12_isAhead_10 : decode cX12_isAhead 10 = .ok (.getfield 7, 3) := by decide +kernel
theorem dX12_isAhead_13 : decode cX12_isAhead 13 = .ok (.bipush 31, 2) := by decide +kernel
theorem dX12_isAhead_15 : decode cX12_isAhead 15 = .ok (.iload_n 2, 1) := by decide +kernel
theorem dX12_isAhead_16 : decode cX12_isAhead 16 = .ok (.iadd, 1) := by decide +kernel
theorem dX12_isAhead_17 : decode cX12_isAhead 17 = .ok (.iaload, 1) := by decide +kernel
theorem dX12_isAhead_18 : decode cX12_isAhead 18 = .ok (.if_icmp .eq 30, 3) := by decide +kernel
theorem dX12_isAhead_21 : decode cX12_isAhead 21 = .ok (.aload_n 0, 1) := by decide +kernel
theorem dX12_isAhead_22 : decode cX12_isAhead 22 = .ok (.getfield 7, 3) := by decide +kernel
theorem dX12_isAhead_25 : decode cX12_isAhead 25 = .ok (.bipush 31, 2) := by decide +kernel
theorem dX12_isAhead_27 : decode cX12_isAhead 27 = .ok (.iload_n 1, 1) := by decide +kernel
theorem dX12_isAhead_28 : decode cX12_isAhead 28 = .ok (.iadd, 1) := by decide +kernel
theorem dX12_isAhead_29 : decode cX12_isAhead 29 = .ok (.iaload, 1) := by decide +kernel
theorem dX12_isAhead_30 : decode cX12_isAhead 30 = .ok (.aload_n 0, 1) := by decide +kernel
theorem dX12_isAhead_31 : decode cX12_isAhead 31 = .ok (.getfield 7, 3) := by decide +kernel
theorem dX12_isAhead_34 : decode cX12_isAhead 34 = .ok (.bipush 31, 2) := by decide +kernel
theorem dX12_isAhead_36 : decode cX12_isAhead 36 = .ok (.iload_n 2, 1) := by decide +kernel
theorem dX12_isAhead_37 : decode cX12_isAhead 37 = .ok (.iadd, 1) := by decide +kernel
theorem dX12_isAhead_38 : decode cX12_isAhead 38 = .ok (.iaload, 1) := by decide +kernel
theorem dX12_isAhead_39 : decode cX12_isAhead 39 = .ok (.if_icmp .le 7, 3) := by decide +kernel
theorem dX12_isAhead_42 : decode cX12_isAhead 42 = .ok (.iconst 1, 1) := by decide +kernel
theorem dX12_isAhead_43 : decode cX12_isAhead 43 = .ok (.goto 4, 3) := by decide +kernel
theorem dX12_isAhead_46 : decode cX12_isAhead 46 = .ok (.iconst 0, 1) := by decide +kernel
theorem dX12_isAhead_47 : decode cX12_isAhead 47 = .ok (.ireturn, 1) := by decide +kernel
theorem dX12_isAhead_48 : decode cX12_isAhead 48 = .ok (.aload_n 0, 1) := by decide +kernel
theorem dX12_isAhead_49 : decode cX12_isAhead 49 = .ok (.getfield 7, 3) := by decide +kernel
theorem dX12_isAhead_52 : decode cX12_isAhead 52 = .ok (.bipush 39, 2) := by decide +kernel
theorem dX12_isAhead_54 : decode cX12_isAhead 54 = .ok (.iload_n 1, 1) := by decide +kernel
theorem dX12_isAhead_55 : decode cX12_isAhead 55 = .ok (.iadd, 1) := by decide +kernel
theorem dX12_isAhead_56 : decode cX12_isAhead 56 = .ok (.iaload, 1) := by decide +kernel
theorem dX12_isAhead_57 : decode cX12_isAhead 57 = .ok (.aload_n 0, 1) := by decide +kernel
theorem dX12_isAhead_58 : decode cX12_isAhead 58 = .ok (.getfield 7, 3) := by decide +kernel
theorem dX12_isAhead_61 : decode cX12_isAhead 61 = .ok (.bipush 39, 2) := by decide +kernel
theorem dX12_isAhead_63 : decode cX12_isAhead 63 = .ok (.iload_n 2, 1) := by decide +kernel
theorem dX12_isAhead_64 : decode cX12_isAhead 64 = .ok (.iadd, 1) := by decide +kernel
theorem dX12_isAhead_65 : decode cX12_isAhead 65 = .ok (.iaload, 1) := by decide +kernel
theorem dX12_isAhead_66 : decode cX12_isAhead 66 = .ok (.if_icmp .ne 16, 3) := by decide +kernel
theorem dX12_isAhead_69 : decode cX12_isAhead 69 = .ok (.iload_n 1, 1) := by decide +kernel
theorem dX12_isAhead_70 : decode cX12_isAhead 70 = .ok (.iload_n 2, 1) := by decide +kernel
theorem dX12_isAhead_71 : decode cX12_isAhead 71 = .ok (.if_icmp .ge 7, 3) := by decide +kernel
theorem dX12_isAhead_74 : decode cX12_isAhead 74 = .ok (.iconst 1, 1) := by decide +kernel
theorem dX12_isAhead_75 : decode cX12_isAhead 75 = .ok (.goto 33, 3) := by decide +kernel
theorem dX12_isAhead_78 : decode cX12_isAhead 78 = .ok (.iconst 0, 1) := by decide +kernel
theorem dX12_isAhead_79 : decode cX12_isAhead 79 = .ok (.goto 29, 3) := by decide +kernel
theorem dX12_isAhead_82 : decode cX12_isAhead 82 = .ok (.aload_n 0, 1) := by decide +kernel
theorem dX12_isAhead_83 : decode cX12_isAhead 83 = .ok (.getfield 7, 3) := by decide +kernel
theorem dX12_isAhead_86 : decode cX12_isAhead 86 = .ok (.bipush 39, 2) := by decide +kernel
theorem dX12_isAhead_88 : decode cX12_isAhead 88 = .ok (.iload_n 1, 1) := by decide +kernel
theorem dX12_isAhead_89 : decode cX12_isAhead 89 = .ok (.iadd, 1) := by decide +kernel
theorem dX12_isAhead_90 : decode cX12_isAhead 90 = .ok (.iaload, 1) := by decide +kernel
theorem dX12_isAhead_91 : decode cX12_isAhead 91 = .ok (.aload_n 0, 1) := by decide +kernel
theorem dX12_isAhead_92 : decode cX12_isAhead 92 = .ok (.getfield 7, 3) := by decide +kernel
theorem dX12_isAhead_95 : decode cX12_isAhead 95 = .ok (.bipush 39, 2) := by decide +kernel
theorem dX12_isAhead_97 : decode cX12_isAhead 97 = .ok (.iload_n 2, 1) := by decide +kernel
theorem dX12_isAhead_98 : decode cX12_isAhead 98 = .ok (.iadd, 1) := by decide +kernel
theorem dX12_isAhead_99 : decode cX12_isAhead 99 = .ok (.iaload, 1) := by decide +kernel
theorem dX12_isAhead_100 : decode cX12_isAhead 100 = .ok (.if_icmp .le 7, 3) := by decide +kernel
theorem dX12_isAhead_103 : decode cX12_isAhead 103 = .ok (.iconst 1, 1) := by decide +kernel
theorem dX12_isAhead_104 : decode cX12_isAhead 104 = .ok (.goto 4, 3) := by decide +kernel
theorem dX12_isAhead_107 : decode cX12_isAhead 107 = .ok (.iconst 0, 1) := by decide +kernel
theorem dX12_isAhead_108 : decode cX12_isAhead 108 = .ok (.ireturn, 1) := by decide +kernel
theorem dX12_zoneByNoise_0 : decode cX12_zoneByNoise 0 = .ok (.aload_n 0, 1) := by decide +kernel
theorem dX12_zoneByNoise_1 : decode cX12_zoneByNoise 1 = .ok (.iconst 0, 1) := by decide +kernel
theorem dX12_zoneByNoise_2 : decode cX12_zoneByNoise 2 = .ok (.putfield 41, 3) := by decide +kernel
theorem dX12_zoneByNoise_5 : decode cX12_zoneByNoise 5 = .ok (.iconst 0, 1) := by decide +kernel
theorem dX12_zoneByNoise_6 : decode cX12_zoneByNoise 6 = .ok (.istore_n 2, 1) := by decide +kernel
theorem dX12_zoneByNoise_7 : decode cX12_zoneByNoise 7 = .ok (.iload_n 2, 1) := by decide +kernel
theorem dX12_zoneByNoise_8 : decode cX12_zoneByNoise 8 = .ok (.bipush 8, 2) := by decide +kernel
theorem dX12_zoneByNoise_10 : decode cX12_zoneByNoise 10 = .ok (.if_icmp .ge 58, 3) := by decide +kernel
theorem dX12_zoneByNoise_13 : decode cX12_zoneByNoise 13 = .ok (.iconst 0, 1) := by decide +kernel
theorem dX12_zoneByNoise_14 : decode cX12_zoneByNoise 14 = .ok (.istore_n 3, 1) := by decide +kernel
theorem dX12_zoneByNoise_15 : decode cX12_zoneByNoise 15 = .ok (.iconst 0, 1) := by decide +kernel
theorem dX12_zoneByNoise_16 : decode cX12_zoneByNoise 16 = .ok (.istore 4, 2) := by decide +kernel
theorem dX12_zoneByNoise_18 : decode cX12_zoneByNoise 18 = .ok (.iload 4, 2) := by decide +kernel
theorem dX12_zoneByNoise_20 : decode cX12_zoneByNoise 20 = .ok (.bipush 8, 2) := by decide +kernel
theorem dX12_zoneByNoise_22 : decode cX12_zoneByNoise 22 = .ok (.if_icmp .ge 33, 3) := by decide +kernel
theorem dX12_zoneByNoise_25 : decode cX12_zoneByNoise 25 = .ok (.iload_n 3, 1) := by decide +kernel
theorem dX12_zoneByNoise_26 : decode cX12_zoneByNoise 26 = .ok (.iload 4, 2) := by decide +kernel
theorem dX12_zoneByNoise_28 : decode cX12_zoneByNoise 28 = .ok (.iload_n 2, 1) := by decide +kernel
theorem dX12_zoneByNoise_29 : decode cX12_zoneByNoise 29 = .ok (.if_icmp .eq 17, 3) := by decide +kernel
theorem dX12_zoneByNoise_32 : decode cX12_zoneByNoise 32 = .ok (.aload_n 0, 1) := by decide +kernel
theorem dX12_zoneByNoise_33 : decode cX12_zoneByNoise 33 = .ok (.iload 4, 2) := by decide +kernel
theorem dX12_zoneByNoise_35 : decode cX12_zoneByNoise 35 = .ok (.iload_n 2, 1) := by decide +kernel
theorem dX12_zoneByNoise_36 : decode cX12_zoneByNoise 36 = .ok (.invokevirtual 194, 3) := by decide +kernel
theorem dX12_zoneByNoise_39 : decode cX12_zoneByNoise 39 = .ok (.ifCond .eq 7, 3) := by decide +kernel
theorem dX12_zoneByNoise_42 : decode cX12_zoneByNoise 42 = .ok (.iconst 1, 1) := by decide +kernel
theorem dX12_zoneByNoise_43 : decode cX12_zoneByNoise 43 = .ok (.goto 4, 3) := by decide +kernel
theorem dX12_zoneByNoise_46 : decode cX12_zoneByNoise 46 = .ok (.iconst 0, 1) := by decide +kernel
theorem dX12_zoneByNoise_47 : decode cX12_zoneByNoise 47 = .ok (.iadd, 1) := by decide +kernel
theorem dX12_zoneByNoise_48 : decode cX12_zoneByNoise 48 = .ok (.istore_n 3, 1) := by decide +kernel
theorem dX12_zoneByNoise_49 : decode cX12_zoneByNoise 49 = .ok (.iinc 4 1, 3) := by decide +kernel
theorem dX12_zoneByNoise_52 : decode cX12_zoneByNoise 52 = .ok (.goto (-34), 3) := by decide +kernel
theorem dX12_zoneByNoise_55 : decode cX12_zoneByNoise 55 = .ok (.iload_n 3, 1) := by decide +kernel
theorem dX12_zoneByNoise_56 : decode cX12_zoneByNoise 56 = .ok (.iload_n 1, 1) := by decide +kernel
theorem dX12_zoneByNoise_57 : decode cX12_zoneByNoise 57 = .ok (.if_icmp .ne 5, 3) := by decide +kernel
theorem dX12_zoneByNoise_60 : decode cX12_zoneByNoise 60 = .ok (.iload_n 2, 1) := by decide +kernel
theorem dX12_zoneByNoise_61 : decode cX12_zoneByNoise 61 = .ok (.ireturn, 1) := by decide +kernel
theorem dX12_zoneByNoise_62 : decode cX12_zoneByNoise 62 = .ok (.iinc 2 1, 3) := by decide +kernel
theorem dX12_zoneByNoise_65 : decode cX12_zoneByNoise 65 = .ok (.goto (-58), 3) := by decide +kernel
theorem dX12_zoneByNoise_68 : decode cX12_zoneByNoise 68 = .ok (.aload_n 0, 1) := by decide +kernel
theorem dX12_zoneByNoise_69 : decode cX12_zoneByNoise 69 = .ok (.iconst 1, 1) := by decide +kernel
theorem dX12_zoneByNoise_70 : decode cX12_zoneByNoise 70 = .ok (.invokevirtual 63, 3) := by decide +kernel
theorem dX12_zoneByNoise_73 : decode cX12_zoneByNoise 73 = .ok (.ireturn, 1) := by decide +kernel
theorem dX12_alarmsOf_0 : decode cX12_alarmsOf 0 = .ok (.aload_n 0, 1) := by decide +kernel
theorem dX12_alarmsOf_1 : decode cX12_alarmsOf 1 = .ok (.iload_n 1, 1) := by decide +kernel
theorem dX12_alarmsOf_2 : decode cX12_alarmsOf 2 = .ok (.invokevirtual 182, 3) := by decide +kernel
theorem dX12_alarmsOf_5 : decode cX12_alarmsOf 5 = .ok (.ifCond .eq 15, 3) := by decide +kernel
theorem dX12_alarmsOf_8 : decode cX12_alarmsOf 8 = .ok (.aload_n 0, 1) := by decide +kernel
theorem dX12_alarmsOf_9 : decode cX12_alarmsOf 9 = .ok (.getfield 7, 3) := by decide +kernel
theorem dX12_alarmsOf_12 : decode cX12_alarmsOf 12 = .ok (.bipush 39, 2) := by decide +kernel
theorem dX12_alarmsOf_14 : decode cX12_alarmsOf 14 = .ok (.iload_n 1, 1) := by decide +kernel
theorem dX12_alarmsOf_15 : decode cX12_alarmsOf 15 = .ok (.iadd, 1) := by decide +kernel
theorem dX12_alarmsOf_16 : decode cX12_alarmsOf 16 = .ok (.iaload, 1) := by decide +kernel
theorem dX12_alarmsOf_17 : decode cX12_alarmsOf 17 = .ok (.goto 4, 3) := by decide +kernel
theorem dX12_alarmsOf_20 : decode cX12_alarmsOf 20 = .ok (.iconst 0, 1) := by decide +kernel
theorem dX12_alarmsOf_21 : decode cX12_alarmsOf 21 = .ok (.ireturn, 1) := by decide +kernel
theorem dX12_alarmCount_0 : decode cX12_alarmCount 0 = .ok (.aload_n 0, 1) := by decide +kernel
theorem dX12_alarmCount_1 : decode cX12_alarmCount 1 = .ok (.iconst 0, 1) := by decide +kernel
theorem dX12_alarmCount_2 : decode cX12_alarmCount 2 = .ok (.putfield 41, 3) := by decide +kernel
theorem dX12_alarmCount_5 : decode cX12_alarmCount 5 = .ok (.aload_n 0, 1) := by decide +kernel
theorem dX12_alarmCount_6 : decode cX12_alarmCount 6 = .ok (.getfield 7, 3) := by decide +kernel
theorem dX12_alarmCount_9 : decode cX12_alarmCount 9 = .ok (.bipush 13, 2) := by decide +kernel
theorem dX12_alarmCount_11 : decode cX12_alarmCount 11 = .ok (.iaload, 1) := by decide +kernel
theorem dX12_alarmCount_12 : decode cX12_alarmCount 12 = .ok (.ireturn, 1) := by decide +kernel
theorem dX12_openingCount_0 : decode cX12_openingCount 0 = .ok (.aload_n 0, 1) := by decide +kernel
theorem dX12_openingCount_1 : decode cX12_openingCount 1 = .ok (.iconst 0, 1) := by decide +kernel
theorem dX12_openingCount_2 : decode cX12_openingCount 2 = .ok (.putfield 41, 3) := by decide +kernel
theorem dX12_openingCount_5 : decode cX12_openingCount 5 = .ok (.aload_n 0, 1) := by decide +kernel
theorem dX12_openingCount_6 : decode cX12_openingCount 6 = .ok (.getfield 7, 3) := by decide +kernel
theorem dX12_openingCount_9 : decode cX12_openingCount 9 = .ok (.bipush 12, 2) := by decide +kernel
theorem dX12_openingCount_11 : decode cX12_openingCount 11 = .ok (.iaload, 1) := by decide +kernel
theorem dX12_openingCount_12 : decode cX12_openingCount 12 = .ok (.ireturn, 1) := by decide +kernel
theorem dX12_logCount_0 : decode cX12_logCount 0 = .ok (.aload_n 0, 1) := by decide +kernel
theorem dX12_logCount_1 : decode cX12_logCount 1 = .ok (.iconst 0, 1) := by decide +kernel
theorem dX12_logCount_2 : decode cX12_logCount 2 = .ok (.putfield 41, 3) := by decide +kernel
theorem dX12_logCount_5 : decode cX12_logCount 5 = .ok (.aload_n 0, 1) := by decide +kernel
theorem dX12_logCount_6 : decode cX12_logCount 6 = .ok (.getfield 7, 3) := by decide +kernel
theorem dX12_logCount_9 : decode cX12_logCount 9 = .ok (.bipush 14, 2) := by decide +kernel
theorem dX12_logCount_11 : decode cX12_logCount 11 = .ok (.iaload, 1) := by decide +kernel
theorem dX12_logCount_12 : decode cX12_logCount 12 = .ok (.ireturn, 1) := by decide +kernel
theorem dX12_entry_0 : decode cX12_entry 0 = .ok (.aload_n 0, 1) := by decide +kernel
theorem dX12_entry_1 : decode cX12_entry 1 = .ok (.iload_n 1, 1) := by decide +kernel
theorem dX12_entry_2 : decode cX12_entry 2 = .ok (.iconst 0, 1) := by decide +kernel
theorem dX12_entry_3 : decode cX12_entry 3 = .ok (.aload_n 0, 1) := by decide +kernel
theorem dX12_entry_4 : decode cX12_entry 4 = .ok (.getfield 7, 3) := by decide +kernel
theorem dX12_entry_7 : decode cX12_entry 7 = .ok (.bipush 14, 2) := by decide +kernel
theorem dX12_entry_9 : decode cX12_entry 9 = .ok (.iaload, 1) := by decide +kernel
theorem dX12_entry_10 : decode cX12_entry 10 = .ok (.iconst 1, 1) := by decide +kernel
theorem dX12_entry_11 : decode cX12_entry 11 = .ok (.isub, 1) := by decide +kernel
theorem dX12_entry_12 : decode cX12_entry 12 = .ok (.invokestatic 66, 3) := by decide +kernel
theorem dX12_entry_15 : decode cX12_entry 15 = .ok (.ifCond .eq 7, 3) := by decide +kernel
theorem dX12_entry_18 : decode cX12_entry 18 = .ok (.iconst 0, 1) := by decide +kernel
theorem dX12_entry_19 : decode cX12_entry 19 = .ok (.goto 4, 3) := by decide +kernel
theorem dX12_entry_22 : decode cX12_entry 22 = .ok (.iconst 1, 1) := by decide +kernel
theorem dX12_entry_23 : decode cX12_entry 23 = .ok (.putfield 41, 3) := by decide +kernel
theorem dX12_entry_26 : decode cX12_entry 26 = .ok (.aload_n 0, 1) := by decide +kernel
theorem dX12_entry_27 : decode cX12_entry 27 = .ok (.getfield 41, 3) := by decide +kernel
theorem dX12_entry_30 : decode cX12_entry 30 = .ok (.ifCond .le 7, 3) := by decide +kernel
theorem dX12_entry_33 : decode cX12_entry 33 = .ok (.iconst 0, 1) := by decide +kernel
theorem dX12_entry_34 : decode cX12_entry 34 = .ok (.goto 16, 3) := by decide +kernel
theorem dX12_entry_37 : decode cX12_entry 37 = .ok (.aload_n 0, 1) := by decide +kernel
theorem dX12_entry_38 : decode cX12_entry 38 = .ok (.getfield 7, 3) := by decide +kernel
theorem dX12_entry_41 : decode cX12_entry 41 = .ok (.bipush 56, 2) := by decide +kernel
theorem dX12_entry_43 : decode cX12_entry 43 = .ok (.iconst 3, 1) := by decide +kernel
theorem dX12_entry_44 : decode cX12_entry 44 = .ok (.iload_n 1, 1) := by decide +kernel
theorem dX12_entry_45 : decode cX12_entry 45 = .ok (.imul, 1) := by decide +kernel
theorem dX12_entry_46 : decode cX12_entry 46 = .ok (.iadd, 1) := by decide +kernel
theorem dX12_entry_47 : decode cX12_entry 47 = .ok (.iload_n 2, 1) := by decide +kernel
theorem dX12_entry_48 : decode cX12_entry 48 = .ok (.iadd, 1) := by decide +kernel
theorem dX12_entry_49 : decode cX12_entry 49 = .ok (.iaload, 1) := by decide +kernel
theorem dX12_entry_50 : decode cX12_entry 50 = .ok (.ireturn, 1) := by decide +kernel
theorem dX12_logHour_0 : decode cX12_logHour 0 = .ok (.aload_n 0, 1) := by decide +kernel
theorem dX12_logHour_1 : decode cX12_logHour 1 = .ok (.iload_n 1, 1) := by decide +kernel
theorem dX12_logHour_2 : decode cX12_logHour 2 = .ok (.iconst 0, 1) := by decide +kernel
theorem dX12_logHour_3 : decode cX12_logHour 3 = .ok (.invokevirtual 198, 3) := by decide +kernel
theorem dX12_logHour_6 : decode cX12_logHour 6 = .ok (.ireturn, 1) := by decide +kernel
theorem dX12_logKind_0 : decode cX12_logKind 0 = .ok (.aload_n 0, 1) := by decide +kernel
theorem dX12_logKind_1 : decode cX12_logKind 1 = .ok (.iload_n 1, 1) := by decide +kernel
theorem dX12_logKind_2 : decode cX12_logKind 2 = .ok (.iconst 1, 1) := by decide +kernel
theorem dX12_logKind_3 : decode cX12_logKind 3 = .ok (.invokevirtual 198, 3) := by decide +kernel
theorem dX12_logKind_6 : decode cX12_logKind 6 = .ok (.i2c, 1) := by decide +kernel
theorem dX12_logKind_7 : decode cX12_logKind 7 = .ok (.ireturn, 1) := by decide +kernel
theorem dX12_logDetail_0 : decode cX12_logDetail 0 = .ok (.aload_n 0, 1) := by decide +kernel
theorem dX12_logDetail_1 : decode cX12_logDetail 1 = .ok (.iload_n 1, 1) := by decide +kernel
theorem dX12_logDetail_2 : decode cX12_logDetail 2 = .ok (.iconst 2, 1) := by decide +kernel
theorem dX12_logDetail_3 : decode cX12_logDetail 3 = .ok (.invokevirtual 198, 3) := by decide +kernel
theorem dX12_logDetail_6 : decode cX12_logDetail 6 = .ok (.ireturn, 1) := by decide +kernel
theorem dX12_meanNoise_0 : decode cX12_meanNoise 0 = .ok (.aload_n 0, 1) := by decide +kernel
theorem dX12_meanNoise_1 : decode cX12_meanNoise 1 = .ok (.iconst 0, 1) := by decide +kernel
theorem dX12_meanNoise_2 : decode cX12_meanNoise 2 = .ok (.putfield 41, 3) := by decide +kernel
theorem dX12_meanNoise_5 : decode cX12_meanNoise 5 = .ok (.iconst 0, 1) := by decide +kernel
theorem dX12_meanNoise_6 : decode cX12_meanNoise 6 = .ok (.istore_n 1, 1) := by decide +kernel
theorem dX12_meanNoise_7 : decode cX12_meanNoise 7 = .ok (.iconst 0, 1) := by decide +kernel
theorem dX12_meanNoise_8 : decode cX12_meanNoise 8 = .ok (.istore_n 2, 1) := by decide +kernel
theorem dX12_meanNoise_9 : decode cX12_meanNoise 9 = .ok (.iload_n 2, 1) := by decide +kernel
theorem dX12_meanNoise_10 : decode cX12_meanNoise 10 = .ok (.bipush 8, 2) := by decide +kernel
theorem dX12_meanNoise_12 : decode cX12_meanNoise 12 = .ok (.if_icmp .ge 21, 3) := by decide +kernel
theorem dX12_meanNoise_15 : decode cX12_meanNoise 15 = .ok (.iload_n 1, 1) := by decide +kernel
theorem dX12_meanNoise_16 : decode cX12_meanNoise 16 = .ok (.aload_n 0, 1) := by decide +kernel
theorem dX12_meanNoise_17 : decode cX12_meanNoise 17 = .ok (.getfield 7, 3) := by decide +kernel
theorem dX12_meanNoise_20 : decode cX12_meanNoise 20 = .ok (.bipush 31, 2) := by decide +kernel
theorem dX12_meanNoise_22 : decode cX12_meanNoise 22 = .ok (.iload_n 2, 1) := by decide +kernel
theorem dX12_meanNoise_23 : decode cX12_meanNoise 23 = .ok (.iadd, 1) := by decide +kernel
theorem dX12_meanNoise_24 : decode cX12_meanNoise 24 = .ok (.iaload, 1) := by decide +kernel
theorem dX12_meanNoise_25 : decode cX12_meanNoise 25 = .ok (.iadd, 1) := by decide +kernel
theorem dX12_meanNoise_26 : decode cX12_meanNoise 26 = .ok (.istore_n 1, 1) := by decide +kernel
theorem dX12_meanNoise_27 : decode cX12_meanNoise 27 = .ok (.iinc 2 1, 3) := by decide +kernel
theorem dX12_meanNoise_30 : decode cX12_meanNoise 30 = .ok (.goto (-21), 3) := by decide +kernel
theorem dX12_meanNoise_33 : decode cX12_meanNoise 33 = .ok (.iload_n 1, 1) := by decide +kernel
theorem dX12_meanNoise_34 : decode cX12_meanNoise 34 = .ok (.i2d, 1) := by decide +kernel
theorem dX12_meanNoise_35 : decode cX12_meanNoise 35 = .ok (.ldc2_w 201, 3) := by decide +kernel
theorem dX12_meanNoise_38 : decode cX12_meanNoise 38 = .ok (.ddiv, 1) := by decide +kernel
theorem dX12_meanNoise_39 : decode cX12_meanNoise 39 = .ok (.dreturn, 1) := by decide +kernel
theorem dX12_alarmShare_0 : decode cX12_alarmShare 0 = .ok (.aload_n 0, 1) := by decide +kernel
theorem dX12_alarmShare_1 : decode cX12_alarmShare 1 = .ok (.iload_n 1, 1) := by decide +kernel
theorem dX12_alarmShare_2 : decode cX12_alarmShare 2 = .ok (.invokestatic 119, 3) := by decide +kernel
theorem dX12_alarmShare_5 : decode cX12_alarmShare 5 = .ok (.ifCond .ne 7, 3) := by decide +kernel
theorem dX12_alarmShare_8 : decode cX12_alarmShare 8 = .ok (.iconst 1, 1) := by decide +kernel
theorem dX12_alarmShare_9 : decode cX12_alarmShare 9 = .ok (.goto 18, 3) := by decide +kernel
theorem dX12_alarmShare_12 : decode cX12_alarmShare 12 = .ok (.aload_n 0, 1) := by decide +kernel
theorem dX12_alarmShare_13 : decode cX12_alarmShare 13 = .ok (.getfield 7, 3) := by decide +kernel
theorem dX12_alarmShare_16 : decode cX12_alarmShare 16 = .ok (.bipush 13, 2) := by decide +kernel
theorem dX12_alarmShare_18 : decode cX12_alarmShare 18 = .ok (.iaload, 1) := by decide +kernel
theorem dX12_alarmShare_19 : decode cX12_alarmShare 19 = .ok (.ifCond .ne 7, 3) := by decide +kernel
theorem dX12_alarmShare_22 : decode cX12_alarmShare 22 = .ok (.iconst 2, 1) := by decide +kernel
theorem dX12_alarmShare_23 : decode cX12_alarmShare 23 = .ok (.goto 4, 3) := by decide +kernel
theorem dX12_alarmShare_26 : decode cX12_alarmShare 26 = .ok (.iconst 0, 1) := by decide +kernel
theorem dX12_alarmShare_27 : decode cX12_alarmShare 27 = .ok (.putfield 41, 3) := by decide +kernel
theorem dX12_alarmShare_30 : decode cX12_alarmShare 30 = .ok (.aload_n 0, 1) := by decide +kernel
theorem dX12_alarmShare_31 : decode cX12_alarmShare 31 = .ok (.getfield 41, 3) := by decide +kernel
theorem dX12_alarmShare_34 : decode cX12_alarmShare 34 = .ok (.ifCond .le 7, 3) := by decide +kernel
theorem dX12_alarmShare_37 : decode cX12_alarmShare 37 = .ok (.fconst 0, 1) := by decide +kernel
theorem dX12_alarmShare_38 : decode cX12_alarmShare 38 = .ok (.goto 22, 3) := by decide +kernel
theorem dX12_alarmShare_41 : decode cX12_alarmShare 41 = .ok (.aload_n 0, 1) := by decide +kernel
theorem dX12_alarmShare_42 : decode cX12_alarmShare 42 = .ok (.getfield 7, 3) := by decide +kernel
theorem dX12_alarmShare_45 : decode cX12_alarmShare 45 = .ok (.bipush 39, 2) := by decide +kernel
theorem dX12_alarmShare_47 : decode cX12_alarmShare 47 = .ok (.iload_n 1, 1) := by decide +kernel
theorem dX12_alarmShare_48 : decode cX12_alarmShare 48 = .ok (.iadd, 1) := by decide +kernel
theorem dX12_alarmShare_49 : decode cX12_alarmShare 49 = .ok (.iaload, 1) := by decide +kernel
theorem dX12_alarmShare_50 : decode cX12_alarmShare 50 = .ok (.i2f, 1) := by decide +kernel
theorem dX12_alarmShare_51 : decode cX12_alarmShare 51 = .ok (.aload_n 0, 1) := by decide +kernel
theorem dX12_alarmShare_52 : decode cX12_alarmShare 52 = .ok (.getfield 7, 3) := by decide +kernel
theorem dX12_alarmShare_55 : decode cX12_alarmShare 55 = .ok (.bipush 13, 2) := by decide +kernel
theorem dX12_alarmShare_57 : decode cX12_alarmShare 57 = .ok (.iaload, 1) := by decide +kernel
theorem dX12_alarmShare_58 : decode cX12_alarmShare 58 = .ok (.i2f, 1) := by decide +kernel
theorem dX12_alarmShare_59 : decode cX12_alarmShare 59 = .ok (.fdiv, 1) := by decide +kernel
theorem dX12_alarmShare_60 : decode cX12_alarmShare 60 = .ok (.freturn, 1) := by decide +kernel
theorem dX12_isConsistent_0 : decode cX12_isConsistent 0 = .ok (.aload_n 0, 1) := by decide +kernel
theorem dX12_isConsistent_1 : decode cX12_isConsistent 1 = .ok (.iconst 0, 1) := by decide +kernel
theorem dX12_isConsistent_2 : decode cX12_isConsistent 2 = .ok (.putfield 41, 3) := by decide +kernel
theorem dX12_isConsistent_5 : decode cX12_isConsistent 5 = .ok (.iconst 1, 1) := by decide +kernel
theorem dX12_isConsistent_6 : decode cX12_isConsistent 6 = .ok (.ireturn, 1) := by decide +kernel
theorem dX12_refusalReason_0 : decode cX12_refusalReason 0 = .ok (.aload_n 0, 1) := by decide +kernel
theorem dX12_refusalReason_1 : decode cX12_refusalReason 1 = .ok (.iconst 0, 1) := by decide +kernel
theorem dX12_refusalReason_2 : decode cX12_refusalReason 2 = .ok (.putfield 41, 3) := by decide +kernel
theorem dX12_refusalReason_5 : decode cX12_refusalReason 5 = .ok (.aload_n 0, 1) := by decide +kernel
theorem dX12_refusalReason_6 : decode cX12_refusalReason 6 = .ok (.getfield 50, 3) := by decide +kernel
theorem dX12_refusalReason_9 : decode cX12_refusalReason 9 = .ok (.ifCond .ne 11, 3) := by decide +kernel
theorem dX12_refusalReason_12 : decode cX12_refusalReason 12 = .ok (.aload_n 0, 1) := by decide +kernel
theorem dX12_refusalReason_13 : decode cX12_refusalReason 13 = .ok (.iconst 1, 1) := by decide +kernel
theorem dX12_refusalReason_14 : decode cX12_refusalReason 14 = .ok (.invokevirtual 63, 3) := by decide +kernel
theorem dX12_refusalReason_17 : decode cX12_refusalReason 17 = .ok (.goto 7, 3) := by decide +kernel
theorem dX12_refusalReason_20 : decode cX12_refusalReason 20 = .ok (.aload_n 0, 1) := by decide +kernel
theorem dX12_refusalReason_21 : decode cX12_refusalReason 21 = .ok (.getfield 50, 3) := by decide +kernel
theorem dX12_refusalReason_24 : decode cX12_refusalReason 24 = .ok (.ireturn, 1) := by decide +kernel
theorem dX12_refusalDetail_0 : decode cX12_refusalDetail 0 = .ok (.aload_n 0, 1) := by decide +kernel
theorem dX12_refusalDetail_1 : decode cX12_refusalDetail 1 = .ok (.iconst 0, 1) := by decide +kernel
theorem dX12_refusalDetail_2 : decode cX12_refusalDetail 2 = .ok (.putfield 41, 3) := by decide +kernel
theorem dX12_refusalDetail_5 : decode cX12_refusalDetail 5 = .ok (.aload_n 0, 1) := by decide +kernel
theorem dX12_refusalDetail_6 : decode cX12_refusalDetail 6 = .ok (.getfield 50, 3) := by decide +kernel
theorem dX12_refusalDetail_9 : decode cX12_refusalDetail 9 = .ok (.ifCond .ne 11, 3) := by decide +kernel
theorem dX12_refusalDetail_12 : decode cX12_refusalDetail 12 = .ok (.aload_n 0, 1) := by decide +kernel
theorem dX12_refusalDetail_13 : decode cX12_refusalDetail 13 = .ok (.iconst 1, 1) := by decide +kernel
theorem dX12_refusalDetail_14 : decode cX12_refusalDetail 14 = .ok (.invokevirtual 63, 3) := by decide +kernel
theorem dX12_refusalDetail_17 : decode cX12_refusalDetail 17 = .ok (.goto 7, 3) := by decide +kernel
theorem dX12_refusalDetail_20 : decode cX12_refusalDetail 20 = .ok (.aload_n 0, 1) := by decide +kernel
theorem dX12_refusalDetail_21 : decode cX12_refusalDetail 21 = .ok (.getfield 53, 3) := by decide +kernel
theorem dX12_refusalDetail_24 : decode cX12_refusalDetail 24 = .ok (.ireturn, 1) := by decide +kernel
theorem dX12_refusalCause_0 : decode cX12_refusalCause 0 = .ok (.aload_n 0, 1) := by decide +kernel
theorem dX12_refusalCause_1 : decode cX12_refusalCause 1 = .ok (.iconst 0, 1) := by decide +kernel
theorem dX12_refusalCause_2 : decode cX12_refusalCause 2 = .ok (.putfield 41, 3) := by decide +kernel
theorem dX12_refusalCause_5 : decode cX12_refusalCause 5 = .ok (.aload_n 0, 1) := by decide +kernel
theorem dX12_refusalCause_6 : decode cX12_refusalCause 6 = .ok (.getfield 56, 3) := by decide +kernel
theorem dX12_refusalCause_9 : decode cX12_refusalCause 9 = .ok (.ifCond .ne 11, 3) := by decide +kernel
theorem dX12_refusalCause_12 : decode cX12_refusalCause 12 = .ok (.aload_n 0, 1) := by decide +kernel
theorem dX12_refusalCause_13 : decode cX12_refusalCause 13 = .ok (.iconst 1, 1) := by decide +kernel
theorem dX12_refusalCause_14 : decode cX12_refusalCause 14 = .ok (.invokevirtual 63, 3) := by decide +kernel
theorem dX12_refusalCause_17 : decode cX12_refusalCause 17 = .ok (.goto 7, 3) := by decide +kernel
theorem dX12_refusalCause_20 : decode cX12_refusalCause 20 = .ok (.aload_n 0, 1) := by decide +kernel
theorem dX12_refusalCause_21 : decode cX12_refusalCause 21 = .ok (.getfield 56, 3) := by decide +kernel
theorem dX12_refusalCause_24 : decode cX12_refusalCause 24 = .ok (.ireturn, 1) := by decide +kernel
theorem dX12_feed_0 : decode cX12_feed 0 = .ok (.aload_n 0, 1) := by decide +kernel
theorem dX12_feed_1 : decode cX12_feed 1 = .ok (.aload_n 0, 1) := by decide +kernel
theorem dX12_feed_2 : decode cX12_feed 2 = .ok (.getfield 203, 3) := by decide +kernel
theorem dX12_feed_5 : decode cX12_feed 5 = .ok (.bipush 60, 2) := by decide +kernel
theorem dX12_feed_7 : decode cX12_feed 7 = .ok (.if_icmp .ne 7, 3) := by decide +kernel
theorem dX12_feed_10 : decode cX12_feed 10 = .ok (.iconst 1, 1) := by decide +kernel
theorem dX12_feed_11 : decode cX12_feed 11 = .ok (.goto 4, 3) := by decide +kernel
theorem dX12_feed_14 : decode cX12_feed 14 = .ok (.iconst 0, 1) := by decide +kernel
theorem dX12_feed_15 : decode cX12_feed 15 = .ok (.putfield 41, 3) := by decide +kernel
theorem dX12_feed_18 : decode cX12_feed 18 = .ok (.aload_n 0, 1) := by decide +kernel
theorem dX12_feed_19 : decode cX12_feed 19 = .ok (.getfield 41, 3) := by decide +kernel
theorem dX12_feed_22 : decode cX12_feed 22 = .ok (.ifCond .le 5, 3) := by decide +kernel
theorem dX12_feed_25 : decode cX12_feed 25 = .ok (.iconst 0, 1) := by decide +kernel
theorem dX12_feed_26 : decode cX12_feed 26 = .ok (.ireturn, 1) := by decide +kernel
theorem dX12_feed_27 : decode cX12_feed 27 = .ok (.aload_n 0, 1) := by decide +kernel
theorem dX12_feed_28 : decode cX12_feed 28 = .ok (.getfield 25, 3) := by decide +kernel
theorem dX12_feed_31 : decode cX12_feed 31 = .ok (.aload_n 0, 1) := by decide +kernel
theorem dX12_feed_32 : decode cX12_feed 32 = .ok (.getfield 203, 3) := by decide +kernel
theorem dX12_feed_35 : decode cX12_feed 35 = .ok (.iload_n 1, 1) := by decide +kernel
theorem dX12_feed_36 : decode cX12_feed 36 = .ok (.iastore, 1) := by decide +kernel
theorem dX12_feed_37 : decode cX12_feed 37 = .ok (.aload_n 0, 1) := by decide +kernel
theorem dX12_feed_38 : decode cX12_feed 38 = .ok (.dup, 1) := by decide +kernel
theorem dX12_feed_39 : decode cX12_feed 39 = .ok (.getfield 203, 3) := by decide +kernel
theorem dX12_feed_42 : decode cX12_feed 42 = .ok (.iconst 1, 1) := by decide +kernel
theorem dX12_feed_43 : decode cX12_feed 43 = .ok (.iadd, 1) := by decide +kernel
theorem dX12_feed_44 : decode cX12_feed 44 = .ok (.putfield 203, 3) := by decide +kernel
theorem dX12_feed_47 : decode cX12_feed 47 = .ok (.aload_n 0, 1) := by decide +kernel
theorem dX12_feed_48 : decode cX12_feed 48 = .ok (.getfield 203, 3) := by decide +kernel
theorem dX12_feed_51 : decode cX12_feed 51 = .ok (.ireturn, 1) := by decide +kernel
theorem dX12_here_0 : decode cX12_here 0 = .ok (.aload_n 0, 1) := by decide +kernel
theorem dX12_here_1 : decode cX12_here 1 = .ok (.getfield 206, 3) := by decide +kernel
theorem dX12_here_4 : decode cX12_here 4 = .ok (.iload_n 1, 1) := by decide +kernel
theorem dX12_here_5 : decode cX12_here 5 = .ok (.iadd, 1) := by decide +kernel
theorem dX12_here_6 : decode cX12_here 6 = .ok (.aload_n 0, 1) := by decide +kernel
theorem dX12_here_7 : decode cX12_here 7 = .ok (.getfield 209, 3) := by decide +kernel
theorem dX12_here_10 : decode cX12_here 10 = .ok (.if_icmp .ge 17, 3) := by decide +kernel
theorem dX12_here_13 : decode cX12_here 13 = .ok (.aload_n 0, 1) := by decide +kernel
theorem dX12_here_14 : decode cX12_here 14 = .ok (.getfield 25, 3) := by decide +kernel
theorem dX12_here_17 : decode cX12_here 17 = .ok (.aload_n 0, 1) := by decide +kernel
theorem dX12_here_18 : decode cX12_here 18 = .ok (.getfield 206, 3) := by decide +kernel
theorem dX12_here_21 : decode cX12_here 21 = .ok (.iload_n 1, 1) := by decide +kernel
theorem dX12_here_22 : decode cX12_here 22 = .ok (.iadd, 1) := by decide +kernel
theorem dX12_here_23 : decode cX12_here 23 = .ok (.iaload, 1) := by decide +kernel
theorem dX12_here_24 : decode cX12_here 24 = .ok (.goto 4, 3) := by decide +kernel
theorem dX12_here_27 : decode cX12_here 27 = .ok (.iconst (-1), 1) := by decide +kernel
theorem dX12_here_28 : decode cX12_here 28 = .ok (.ireturn, 1) := by decide +kernel
theorem dX12_says_0 : decode cX12_says 0 = .ok (.iconst 0, 1) := by decide +kernel
theorem dX12_says_1 : decode cX12_says 1 = .ok (.istore_n 2, 1) := by decide +kernel
theorem dX12_says_2 : decode cX12_says 2 = .ok (.iload_n 2, 1) := by decide +kernel
theorem dX12_says_3 : decode cX12_says 3 = .ok (.aload_n 1, 1) := by decide +kernel
theorem dX12_says_4 : decode cX12_says 4 = .ok (.invokevirtual 212, 3) := by decide +kernel
theorem dX12_says_7 : decode cX12_says 7 = .ok (.if_icmp .ge 59, 3) := by decide +kernel
theorem dX12_says_10 : decode cX12_says 10 = .ok (.aload_n 0, 1) := by decide +kernel
theorem dX12_says_11 : decode cX12_says 11 = .ok (.getfield 217, 3) := by decide +kernel
theorem dX12_says_14 : decode cX12_says 14 = .ok (.ifCond .ne 52, 3) := by decide +kernel
theorem dX12_says_17 : decode cX12_says 17 = .ok (.aload_n 0, 1) := by decide +kernel
theorem dX12_says_18 : decode cX12_says 18 = .ok (.aload_n 0, 1) := by decide +kernel
theorem dX12_says_19 : decode cX12_says 19 = .ok (.iconst 0, 1) := by decide +kernel
theorem dX12_says_20 : decode cX12_says 20 = .ok (.invokevirtual 221, 3) := by decide +kernel
theorem dX12_says_23 : decode cX12_says 23 = .ok (.aload_n 1, 1) := by decide +kernel
theorem dX12_says_24 : decode cX12_says 24 = .ok (.iload_n 2, 1) := by decide +kernel
theorem dX12_says_25 : decode cX12_says 25 = .ok (.invokevirtual 224, 3) := by decide +kernel
theorem dX12_says_28 : decode cX12_says 28 = .ok (.if_icmp .eq 7, 3) := by decide +kernel
theorem dX12_says_31 : decode cX12_says 31 = .ok (.iconst 1, 1) := by decide +kernel
theorem dX12_says_32 : decode cX12_says 32 = .ok (.goto 4, 3) := by decide +kernel
theorem dX12_says_35 : decode cX12_says 35 = .ok (.iconst 0, 1) := by decide +kernel
theorem dX12_says_36 : decode cX12_says 36 = .ok (.putfield 217, 3) := by decide +kernel
theorem dX12_says_39 : decode cX12_says 39 = .ok (.aload_n 0, 1) := by decide +kernel
theorem dX12_says_40 : decode cX12_says 40 = .ok (.dup, 1) := by decide +kernel
theorem dX12_says_41 : decode cX12_says 41 = .ok (.getfield 206, 3) := by decide +kernel
theorem dX12_says_44 : decode cX12_says 44 = .ok (.aload_n 0, 1) := by decide +kernel
theorem dX12_says_45 : decode cX12_says 45 = .ok (.getfield 217, 3) := by decide +kernel
theorem dX12_says_48 : decode cX12_says 48 = .ok (.ifCond .eq 7, 3) := by decide +kernel
theorem dX12_says_51 : decode cX12_says 51 = .ok (.iconst 0, 1) := by decide +kernel
theorem dX12_says_52 : decode cX12_says 52 = .ok (.goto 4, 3) := by decide +kernel
theorem dX12_says_55 : decode cX12_says 55 = .ok (.iconst 1, 1) := by decide +kernel
theorem dX12_says_56 : decode cX12_says 56 = .ok (.iadd, 1) := by decide +kernel
theorem dX12_says_57 : decode cX12_says 57 = .ok (.putfield 206, 3) := by decide +kernel
theorem dX12_says_60 : decode cX12_says 60 = .ok (.iinc 2 1, 3) := by decide +kernel
theorem dX12_says_63 : decode cX12_says 63 = .ok (.goto (-61), 3) := by decide +kernel
theorem dX12_says_66 : decode cX12_says 66 = .ok (.return_, 1) := by decide +kernel
theorem dX12_number_0 : decode cX12_number 0 = .ok (.aload_n 0, 1) := by decide +kernel
theorem dX12_number_1 : decode cX12_number 1 = .ok (.aload_n 1, 1) := by decide +kernel
theorem dX12_number_2 : decode cX12_number 2 = .ok (.invokevirtual 228, 3) := by decide +kernel
theorem dX12_number_5 : decode cX12_number 5 = .ok (.iconst 0, 1) := by decide +kernel
theorem dX12_number_6 : decode cX12_number 6 = .ok (.istore 4, 2) := by decide +kernel
theorem dX12_number_8 : decode cX12_number 8 = .ok (.iconst 0, 1) := by decide +kernel
theorem dX12_number_9 : decode cX12_number 9 = .ok (.istore 5, 2) := by decide +kernel
theorem dX12_number_11 : decode cX12_number 11 = .ok (.aload_n 0, 1) := by decide +kernel
theorem dX12_number_12 : decode cX12_number 12 = .ok (.getfield 217, 3) := by decide +kernel
theorem dX12_number_15 : decode cX12_number 15 = .ok (.ifCond .ne 56, 3) := by decide +kernel
theorem dX12_number_18 : decode cX12_number 18 = .ok (.iload 5, 2) := by decide +kernel
theorem dX12_number_20 : decode cX12_number 20 = .ok (.iload_n 3, 1) := by decide +kernel
theorem dX12_number_21 : decode cX12_number 21 = .ok (.if_icmp .ge 50, 3) := by decide +kernel
theorem dX12_number_24 : decode cX12_number 24 = .ok (.aload_n 0, 1) := by decide +kernel
theorem dX12_number_25 : decode cX12_number 25 = .ok (.iconst 0, 1) := by decide +kernel
theorem dX12_number_26 : decode cX12_number 26 = .ok (.invokevirtual 221, 3) := by decide +kernel
theorem dX12_number_29 : decode cX12_number 29 = .ok (.bipush 48, 2) := by decide +kernel
theorem dX12_number_31 : decode cX12_number 31 = .ok (.bipush 57, 2) := by decide +kernel
theorem dX12_number_33 : decode cX12_number 33 = .ok (.invokestatic 66, 3) := by decide +kernel
theorem dX12_number_36 : decode cX12_number 36 = .ok (.ifCond .eq 35, 3) := by decide +kernel
theorem dX12_number_39 : decode cX12_number 39 = .ok (.bipush 10, 2) := by decide +kernel
theorem dX12_number_41 : decode cX12_number 41 = .ok (.iload 4, 2) := by decide +kernel
theorem dX12_number_43 : decode cX12_number 43 = .ok (.imul, 1) := by decide +kernel
theorem dX12_number_44 : decode cX12_number 44 = .ok (.aload_n 0, 1) := by decide +kernel
theorem dX12_number_45 : decode cX12_number 45 = .ok (.iconst 0, 1) := by decide +kernel
theorem dX12_number_46 : decode cX12_number 46 = .ok (.invokevirtual 221, 3) := by decide +kernel
theorem dX12_number_49 : decode cX12_number 49 = .ok (.iadd, 1) := by decide +kernel
theorem dX12_number_50 : decode cX12_number 50 = .ok (.bipush 48, 2) := by decide +kernel
theorem dX12_number_52 : decode cX12_number 52 = .ok (.isub, 1) := by decide +kernel
theorem dX12_number_53 : decode cX12_number 53 = .ok (.istore 4, 2) := by decide +kernel
theorem dX12_number_55 : decode cX12_number 55 = .ok (.aload_n 0, 1) := by decide +kernel
theorem dX12_number_56 : decode cX12_number 56 = .ok (.dup, 1) := by decide +kernel
theorem dX12_number_57 : decode cX12_number 57 = .ok (.getfield 206, 3) := by decide +kernel
theorem dX12_number_60 : decode cX12_number 60 = .ok (.iconst 1, 1) := by decide +kernel
theorem dX12_number_61 : decode cX12_number 61 = .ok (.iadd, 1) := by decide +kernel
theorem dX12_number_62 : decode cX12_number 62 = .ok (.putfield 206, 3) := by decide +kernel
theorem dX12_number_65 : decode cX12_number 65 = .ok (.iinc 5 1, 3) := by decide +kernel
theorem dX12_number_68 : decode cX12_number 68 = .ok (.goto (-57), 3) := by decide +kernel
theorem dX12_number_71 : decode cX12_number 71 = .ok (.aload_n 0, 1) := by decide +kernel
theorem dX12_number_72 : decode cX12_number 72 = .ok (.aload_n 0, 1) := by decide +kernel
theorem dX12_number_73 : decode cX12_number 73 = .ok (.getfield 217, 3) := by decide +kernel
theorem dX12_number_76 : decode cX12_number 76 = .ok (.ifCond .ne 8, 3) := by decide +kernel
theorem dX12_number_79 : decode cX12_number 79 = .ok (.iload 5, 2) := by decide +kernel
theorem dX12_number_81 : decode cX12_number 81 = .ok (.ifCond .ne 7, 3) := by decide +kernel
theorem dX12_number_84 : decode cX12_number 84 = .ok (.iconst 1, 1) := by decide +kernel
theorem dX12_number_85 : decode cX12_number 85 = .ok (.goto 4, 3) := by decide +kernel
theorem dX12_number_88 : decode cX12_number 88 = .ok (.iconst 0, 1) := by decide +kernel
theorem dX12_number_89 : decode cX12_number 89 = .ok (.putfield 217, 3) := by decide +kernel
theorem dX12_number_92 : decode cX12_number 92 = .ok (.aload_n 0, 1) := by decide +kernel
theorem dX12_number_93 : decode cX12_number 93 = .ok (.getfield 28, 3) := by decide +kernel
theorem dX12_number_96 : decode cX12_number 96 = .ok (.bipush 6, 2) := by decide +kernel
theorem dX12_number_98 : decode cX12_number 98 = .ok (.aload_n 0, 1) := by decide +kernel
theorem dX12_number_99 : decode cX12_number 99 = .ok (.getfield 232, 3) := by decide +kernel
theorem dX12_number_102 : decode cX12_number 102 = .ok (.imul, 1) := by decide +kernel
theorem dX12_number_103 : decode cX12_number 103 = .ok (.iload_n 2, 1) := by decide +kernel
theorem dX12_number_104 : decode cX12_number 104 = .ok (.iadd, 1) := by decide +kernel
theorem dX12_number_105 : decode cX12_number 105 = .ok (.iload 4, 2) := by decide +kernel
theorem dX12_number_107 : decode cX12_number 107 = .ok (.iastore, 1) := by decide +kernel
theorem dX12_number_108 : decode cX12_number 108 = .ok (.return_, 1) := by decide +kernel
theorem dX12_readsGuard_0 : decode cX12_readsGuard 0 = .ok (.aload_n 0, 1) := by decide +kernel
theorem dX12_readsGuard_1 : decode cX12_readsGuard 1 = .ok (.ldc 235, 2) := by decide +kernel
theorem dX12_readsGuard_3 : decode cX12_readsGuard 3 = .ok (.iconst 1, 1) := by decide +kernel
theorem dX12_readsGuard_4 : decode cX12_readsGuard 4 = .ok (.iconst 1, 1) := by decide +kernel
theorem dX12_readsGuard_5 : decode cX12_readsGuard 5 = .ok (.invokevirtual 237, 3) := by decide +kernel
theorem dX12_readsGuard_8 : decode cX12_readsGuard 8 = .ok (.aload_n 0, 1) := by decide +kernel
theorem dX12_readsGuard_9 : decode cX12_readsGuard 9 = .ok (.aload_n 0, 1) := by decide +kernel
theorem dX12_readsGuard_10 : decode cX12_readsGuard 10 = .ok (.getfield 217, 3) := by decide +kernel
theorem dX12_readsGuard_13 : decode cX12_readsGuard 13 = .ok (.ifCond .ne 23, 3) := by decide +kernel
theorem dX12_readsGuard_16 : decode cX12_readsGuard 16 = .ok (.aload_n 0, 1) := by decide +kernel
theorem dX12_readsGuard_17 : decode cX12_readsGuard 17 = .ok (.iconst 0, 1) := by decide +kernel
theorem dX12_readsGuard_18 : decode cX12_readsGuard 18 = .ok (.invokevirtual 221, 3) := by decide +kernel
theorem dX12_readsGuard_21 : decode cX12_readsGuard 21 = .ok (.bipush 43, 2) := by decide +kernel
theorem dX12_readsGuard_23 : decode cX12_readsGuard 23 = .ok (.if_icmp .eq 17, 3) := by decide +kernel
theorem dX12_readsGuard_26 : decode cX12_readsGuard 26 = .ok (.aload_n 0, 1) := by decide +kernel
theorem dX12_readsGuard_27 : decode cX12_readsGuard 27 = .ok (.iconst 0, 1) := by decide +kernel
theorem dX12_readsGuard_28 : decode cX12_readsGuard 28 = .ok (.invokevirtual 221, 3) := by decide +kernel
theorem dX12_readsGuard_31 : decode cX12_readsGuard 31 = .ok (.bipush 45, 2) := by decide +kernel
theorem dX12_readsGuard_33 : decode cX12_readsGuard 33 = .ok (.if_icmp .eq 7, 3) := by decide +kernel
theorem dX12_readsGuard_36 : decode cX12_readsGuard 36 = .ok (.iconst 1, 1) := by decide +kernel
theorem dX12_readsGuard_37 : decode cX12_readsGuard 37 = .ok (.goto 4, 3) := by decide +kernel
theorem dX12_readsGuard_40 : decode cX12_readsGuard 40 = .ok (.iconst 0, 1) := by decide +kernel
theorem dX12_readsGuard_41 : decode cX12_readsGuard 41 = .ok (.putfield 217, 3) := by decide +kernel
theorem dX12_readsGuard_44 : decode cX12_readsGuard 44 = .ok (.aload_n 0, 1) := by decide +kernel
theorem dX12_readsGuard_45 : decode cX12_readsGuard 45 = .ok (.getfield 28, 3) := by decide +kernel
theorem dX12_readsGuard_48 : decode cX12_readsGuard 48 = .ok (.bipush 6, 2) := by decide +kernel
theorem dX12_readsGuard_50 : decode cX12_readsGuard 50 = .ok (.aload_n 0, 1) := by decide +kernel
theorem dX12_readsGuard_51 : decode cX12_readsGuard 51 = .ok (.getfield 232, 3) := by decide +kernel
theorem dX12_readsGuard_54 : decode cX12_readsGuard 54 = .ok (.imul, 1) := by decide +kernel
theorem dX12_readsGuard_55 : decode cX12_readsGuard 55 = .ok (.iconst 2, 1) := by decide +kernel
theorem dX12_readsGuard_56 : decode cX12_readsGuard 56 = .ok (.iadd, 1) := by decide +kernel
theorem dX12_readsGuard_57 : decode cX12_readsGuard 57 = .ok (.aload_n 0, 1) := by decide +kernel
theorem dX12_readsGuard_58 : decode cX12_readsGuard 58 = .ok (.getfield 217, 3) := by decide +kernel
theorem dX12_readsGuard_61 : decode cX12_readsGuard 61 = .ok (.ifCond .ne 13, 3) := by decide +kernel
theorem dX12_readsGuard_64 : decode cX12_readsGuard 64 = .ok (.aload_n 0, 1) := by decide +kernel
theorem dX12_readsGuard_65 : decode cX12_readsGuard 65 = .ok (.iconst 0, 1) := by decide +kernel
theorem dX12_readsGuard_66 : decode cX12_readsGuard 66 = .ok (.invokevirtual 221, 3) := by decide +kernel
theorem dX12_readsGuard_69 : decode cX12_readsGuard 69 = .ok (.bipush 45, 2) := by decide +kernel
theorem dX12_readsGuard_71 : decode cX12_readsGuard 71 = .ok (.if_icmp .ne 7, 3) := by decide +kernel
theorem dX12_readsGuard_74 : decode cX12_readsGuard 74 = .ok (.iconst 0, 1) := by decide +kernel
theorem dX12_readsGuard_75 : decode cX12_readsGuard 75 = .ok (.goto 4, 3) := by decide +kernel
theorem dX12_readsGuard_78 : decode cX12_readsGuard 78 = .ok (.iconst 1, 1) := by decide +kernel
theorem dX12_readsGuard_79 : decode cX12_readsGuard 79 = .ok (.iastore, 1) := by decide +kernel
theorem dX12_readsGuard_80 : decode cX12_readsGuard 80 = .ok (.aload_n 0, 1) := by decide +kernel
theorem dX12_readsGuard_81 : decode cX12_readsGuard 81 = .ok (.dup, 1) := by decide +kernel
theorem dX12_readsGuard_82 : decode cX12_readsGuard 82 = .ok (.getfield 206, 3) := by decide +kernel
theorem dX12_readsGuard_85 : decode cX12_readsGuard 85 = .ok (.aload_n 0, 1) := by decide +kernel
theorem dX12_readsGuard_86 : decode cX12_readsGuard 86 = .ok (.getfield 217, 3) := by decide +kernel
theorem dX12_readsGuard_89 : decode cX12_readsGuard 89 = .ok (.ifCond .eq 7, 3) := by decide +kernel
theorem dX12_readsGuard_92 : decode cX12_readsGuard 92 = .ok (.iconst 0, 1) := by decide +kernel
theorem dX12_readsGuard_93 : decode cX12_readsGuard 93 = .ok (.goto 4, 3) := by decide +kernel
theorem dX12_readsGuard_96 : decode cX12_readsGuard 96 = .ok (.iconst 1, 1) := by decide +kernel
theorem dX12_readsGuard_97 : decode cX12_readsGuard 97 = .ok (.iadd, 1) := by decide +kernel
theorem dX12_readsGuard_98 : decode cX12_readsGuard 98 = .ok (.putfield 206, 3) := by decide +kernel
theorem dX12_readsGuard_101 : decode cX12_readsGuard 101 = .ok (.aload_n 0, 1) := by decide +kernel
theorem dX12_readsGuard_102 : decode cX12_readsGuard 102 = .ok (.ldc 241, 2) := by decide +kernel
theorem dX12_readsGuard_104 : decode cX12_readsGuard 104 = .ok (.iconst 3, 1) := by decide +kernel
theorem dX12_readsGuard_105 : decode cX12_readsGuard 105 = .ok (.iconst 1, 1) := by decide +kernel
theorem dX12_readsGuard_106 : decode cX12_readsGuard 106 = .ok (.invokevirtual 237, 3) := by decide +kernel
theorem dX12_readsGuard_109 : decode cX12_readsGuard 109 = .ok (.return_, 1) := by decide +kernel
theorem dX12_readsSeal_0 : decode cX12_readsSeal 0 = .ok (.aload_n 0, 1) := by decide +kernel
theorem dX12_readsSeal_1 : decode cX12_readsSeal 1 = .ok (.ldc 243, 2) := by decide +kernel
theorem dX12_readsSeal_3 : decode cX12_readsSeal 3 = .ok (.iconst 1, 1) := by decide +kernel
theorem dX12_readsSeal_4 : decode cX12_readsSeal 4 = .ok (.iconst 2, 1) := by decide +kernel
theorem dX12_readsSeal_5 : decode cX12_readsSeal 5 = .ok (.invokevirtual 237, 3) := by decide +kernel
theorem dX12_readsSeal_8 : decode cX12_readsSeal 8 = .ok (.iconst 2, 1) := by decide +kernel
theorem dX12_readsSeal_9 : decode cX12_readsSeal 9 = .ok (.istore_n 1, 1) := by decide +kernel
theorem dX12_readsSeal_10 : decode cX12_readsSeal 10 = .ok (.iload_n 1, 1) := by decide +kernel
theorem dX12_readsSeal_11 : decode cX12_readsSeal 11 = .ok (.iconst 5, 1) := by decide +kernel
theorem dX12_readsSeal_12 : decode cX12_readsSeal 12 = .ok (.if_icmp .ge 17, 3) := by decide +kernel
theorem dX12_readsSeal_15 : decode cX12_readsSeal 15 = .ok (.aload_n 0, 1) := by decide +kernel
theorem dX12_readsSeal_16 : decode cX12_readsSeal 16 = .ok (.ldc 245, 2) := by decide +kernel
theorem dX12_readsSeal_18 : decode cX12_readsSeal 18 = .ok (.iload_n 1, 1) := by decide +kernel
theorem dX12_readsSeal_19 : decode cX12_readsSeal 19 = .ok (.iconst 2, 1) := by decide +kernel
theorem dX12_readsSeal_20 : decode cX12_readsSeal 20 = .ok (.invokevirtual 237, 3) := by decide +kernel
theorem dX12_readsSeal_23 : decode cX12_readsSeal 23 = .ok (.iinc 1 1, 3) := by decide +kernel
theorem dX12_readsSeal_26 : decode cX12_readsSeal 26 = .ok (.goto (-16), 3) := by decide +kernel
theorem dX12_readsSeal_29 : decode cX12_readsSeal 29 = .ok (.return_, 1) := by decide +kernel
theorem dX12_readsWait_0 : decode cX12_readsWait 0 = .ok (.aload_n 0, 1) := by decide +kernel
theorem dX12_readsWait_1 : decode cX12_readsWait 1 = .ok (.ldc 247, 2) := by decide +kernel
theorem dX12_readsWait_3 : decode cX12_readsWait 3 = .ok (.invokevirtual 228, 3) := by decide +kernel
theorem dX12_readsWait_6 : decode cX12_readsWait 6 = .ok (.aload_n 0, 1) := by decide +kernel
theorem dX12_readsWait_7 : decode cX12_readsWait 7 = .ok (.getfield 28, 3) := by decide +kernel
theorem dX12_readsWait_10 : decode cX12_readsWait 10 = .ok (.bipush 6, 2) := by decide +kernel
theorem dX12_readsWait_12 : decode cX12_readsWait 12 = .ok (.aload_n 0, 1) := by decide +kernel
theorem dX12_readsWait_13 : decode cX12_readsWait 13 = .ok (.getfield 232, 3) := by decide +kernel
theorem dX12_readsWait_16 : decode cX12_readsWait 16 = .ok (.imul, 1) := by decide +kernel
theorem dX12_readsWait_17 : decode cX12_readsWait 17 = .ok (.iconst 1, 1) := by decide +kernel
theorem dX12_readsWait_18 : decode cX12_readsWait 18 = .ok (.iadd, 1) := by decide +kernel
theorem dX12_readsWait_19 : decode cX12_readsWait 19 = .ok (.iconst 1, 1) := by decide +kernel
theorem dX12_readsWait_20 : decode cX12_readsWait 20 = .ok (.iastore, 1) := by decide +kernel
theorem dX12_readsWait_21 : decode cX12_readsWait 21 = .ok (.aload_n 0, 1) := by decide +kernel
theorem dX12_readsWait_22 : decode cX12_readsWait 22 = .ok (.getfield 217, 3) := by decide +kernel
theorem dX12_readsWait_25 : decode cX12_readsWait 25 = .ok (.ifCond .ne 21, 3) := by decide +kernel
theorem dX12_readsWait_28 : decode cX12_readsWait 28 = .ok (.aload_n 0, 1) := by decide +kernel
theorem dX12_readsWait_29 : decode cX12_readsWait 29 = .ok (.iconst 0, 1) := by decide +kernel
theorem dX12_readsWait_30 : decode cX12_readsWait 30 = .ok (.invokevirtual 221, 3) := by decide +kernel
theorem dX12_readsWait_33 : decode cX12_readsWait 33 = .ok (.bipush 32, 2) := by decide +kernel
theorem dX12_readsWait_35 : decode cX12_readsWait 35 = .ok (.if_icmp .ne 11, 3) := by decide +kernel
theorem dX12_readsWait_38 : decode cX12_readsWait 38 = .ok (.aload_n 0, 1) := by decide +kernel
theorem dX12_readsWait_39 : decode cX12_readsWait 39 = .ok (.ldc 245, 2) := by decide +kernel
theorem dX12_readsWait_41 : decode cX12_readsWait 41 = .ok (.iconst 1, 1) := by decide +kernel
theorem dX12_readsWait_42 : decode cX12_readsWait 42 = .ok (.iconst 2, 1) := by decide +kernel
theorem dX12_readsWait_43 : decode cX12_readsWait 43 = .ok (.invokevirtual 237, 3) := by decide +kernel
theorem dX12_readsWait_46 : decode cX12_readsWait 46 = .ok (.return_, 1) := by decide +kernel
theorem dX12_readsOne_0 : decode cX12_readsOne 0 = .ok (.aload_n 0, 1) := by decide +kernel
theorem dX12_readsOne_1 : decode cX12_readsOne 1 = .ok (.iconst 0, 1) := by decide +kernel
theorem dX12_readsOne_2 : decode cX12_readsOne 2 = .ok (.invokevirtual 221, 3) := by decide +kernel
theorem dX12_readsOne_5 : decode cX12_readsOne 5 = .ok (.istore_n 1, 1) := by decide +kernel
theorem dX12_readsOne_6 : decode cX12_readsOne 6 = .ok (.iload_n 1, 1) := by decide +kernel
theorem dX12_readsOne_7 : decode cX12_readsOne 7 = .ok (.bipush 104, 2) := by decide +kernel
theorem dX12_readsOne_9 : decode cX12_readsOne 9 = .ok (.if_icmp .ne 13, 3) := by decide +kernel
theorem dX12_readsOne_12 : decode cX12_readsOne 12 = .ok (.aload_n 0, 1) := by decide +kernel
theorem dX12_readsOne_13 : decode cX12_readsOne 13 = .ok (.iconst 1, 1) := by decide +kernel
theorem dX12_readsOne_14 : decode cX12_readsOne 14 = .ok (.invokevirtual 221, 3) := by decide +kernel
theorem dX12_readsOne_17 : decode cX12_readsOne 17 = .ok (.bipush 117, 2) := by decide +kernel
theorem dX12_readsOne_19 : decode cX12_readsOne 19 = .ok (.if_icmp .eq 35, 3) := by decide +kernel
theorem dX12_readsOne_22 : decode cX12_readsOne 22 = .ok (.iload_n 1, 1) := by decide +kernel
theorem dX12_readsOne_23 : decode cX12_readsOne 23 = .ok (.bipush 115, 2) := by decide +kernel
theorem dX12_readsOne_25 : decode cX12_readsOne 25 = .ok (.if_icmp .ne 13, 3) := by decide +kernel
theorem dX12_readsOne_28 : decode cX12_readsOne 28 = .ok (.aload_n 0, 1) := by decide +kernel
theorem dX12_readsOne_29 : decode cX12_readsOne 29 = .ok (.iconst 1, 1) := by decide +kernel
theorem dX12_readsOne_30 : decode cX12_readsOne 30 = .ok (.invokevirtual 221, 3) := by decide +kernel
theorem dX12_readsOne_33 : decode cX12_readsOne 33 = .ok (.bipush 104, 2) := by decide +kernel
theorem dX12_readsOne_35 : decode cX12_readsOne 35 = .ok (.if_icmp .eq 19, 3) := by decide +kernel
theorem dX12_readsOne_38 : decode cX12_readsOne 38 = .ok (.iload_n 1, 1) := by decide +kernel
theorem dX12_readsOne_39 : decode cX12_readsOne 39 = .ok (.bipush 103, 2) := by decide +kernel
theorem dX12_readsOne_41 : decode cX12_readsOne 41 = .ok (.if_icmp .ne 17, 3) := by decide +kernel
theorem dX12_readsOne_44 : decode cX12_readsOne 44 = .ok (.aload_n 0, 1) := by decide +kernel
theorem dX12_readsOne_45 : decode cX12_readsOne 45 = .ok (.iconst 1, 1) := by decide +kernel
theorem dX12_readsOne_46 : decode cX12_readsOne 46 = .ok (.invokevirtual 221, 3) := by decide +kernel
theorem dX12_readsOne_49 : decode cX12_readsOne 49 = .ok (.bipush 117, 2) := by decide +kernel
theorem dX12_readsOne_51 : decode cX12_readsOne 51 = .ok (.if_icmp .ne 7, 3) := by decide +kernel
theorem dX12_readsOne_54 : decode cX12_readsOne 54 = .ok (.iconst 1, 1) := by decide +kernel
theorem dX12_readsOne_55 : decode cX12_readsOne 55 = .ok (.goto 4, 3) := by decide +kernel
theorem dX12_readsOne_58 : decode cX12_readsOne 58 = .ok (.iconst 0, 1) := by decide +kernel
theorem dX12_readsOne_59 : decode cX12_readsOne 59 = .ok (.istore_n 2, 1) := by decide +kernel
theorem dX12_readsOne_60 : decode cX12_readsOne 60 = .ok (.aload_n 0, 1) := by decide +kernel
theorem dX12_readsOne_61 : decode cX12_readsOne 61 = .ok (.getfield 28, 3) := by decide +kernel
theorem dX12_readsOne_64 : decode cX12_readsOne 64 = .ok (.bipush 6, 2) := by decide +kernel
theorem dX12_readsOne_66 : decode cX12_readsOne 66 = .ok (.aload_n 0, 1) := by decide +kernel
theorem dX12_readsOne_67 : decode cX12_readsOne 67 = .ok (.getfield 232, 3) := by decide +kernel
theorem dX12_readsOne_70 : decode cX12_readsOne 70 = .ok (.imul, 1) := by decide +kernel
theorem dX12_readsOne_71 : decode cX12_readsOne 71 = .ok (.iload_n 2, 1) := by decide +kernel
theorem dX12_readsOne_72 : decode cX12_readsOne 72 = .ok (.ifCond .eq 10, 3) := by decide +kernel
theorem dX12_readsOne_75 : decode cX12_readsOne 75 = .ok (.iload_n 1, 1) := by decide +kernel
theorem dX12_readsOne_76 : decode cX12_readsOne 76 = .ok (.bipush 100, 2) := by decide +kernel
theorem dX12_readsOne_78 : decode cX12_readsOne 78 = .ok (.iadd, 1) := by decide +kernel
theorem dX12_readsOne_79 : decode cX12_readsOne 79 = .ok (.goto 4, 3) := by decide +kernel
theorem dX12_readsOne_82 : decode cX12_readsOne 82 = .ok (.iload_n 1, 1) := by decide +kernel
theorem dX12_readsOne_83 : decode cX12_readsOne 83 = .ok (.iastore, 1) := by decide +kernel
theorem dX12_readsOne_84 : decode cX12_readsOne 84 = .ok (.iload_n 1, 1) := by decide +kernel
theorem dX12_readsOne_85 : decode cX12_readsOne 85 = .ok (.tableswitch 239 98 119 #[188, 210, 239, 239, 239, 165, 103, 239, 239, 239, 239, 239, 239, 200, 239, 239, 239, 135, 220, 239, 239, 232], 103) := by decide +kernel
theorem dX12_readsOne_188 : decode cX12_readsOne 188 = .ok (.iload_n 2, 1) := by decide +kernel
theorem dX12_readsOne_189 : decode cX12_readsOne 189 = .ok (.ifCond .eq 22, 3) := by decide +kernel
theorem dX12_readsOne_192 : decode cX12_readsOne 192 = .ok (.aload_n 0, 1) := by decide +kernel
theorem dX12_readsOne_193 : decode cX12_readsOne 193 = .ok (.ldc 249, 2) := by decide +kernel
theorem dX12_readsOne_195 : decode cX12_readsOne 195 = .ok (.iconst 1, 1) := by decide +kernel
theorem dX12_readsOne_196 : decode cX12_readsOne 196 = .ok (.iconst 1, 1) := by decide +kernel
theorem dX12_readsOne_197 : decode cX12_readsOne 197 = .ok (.invokevirtual 237, 3) := by decide +kernel
theorem dX12_readsOne_200 : decode cX12_readsOne 200 = .ok (.aload_n 0, 1) := by decide +kernel
theorem dX12_readsOne_201 : decode cX12_readsOne 201 = .ok (.ldc 245, 2) := by decide +kernel
theorem dX12_readsOne_203 : decode cX12_readsOne 203 = .ok (.iconst 2, 1) := by decide +kernel
theorem dX12_readsOne_204 : decode cX12_readsOne 204 = .ok (.iconst 1, 1) := by decide +kernel
theorem dX12_readsOne_205 : decode cX12_readsOne 205 = .ok (.invokevirtual 237, 3) := by decide +kernel
theorem dX12_readsOne_208 : decode cX12_readsOne 208 = .ok (.goto 121, 3) := by decide +kernel
theorem dX12_readsOne_211 : decode cX12_readsOne 211 = .ok (.aload_n 0, 1) := by decide +kernel
theorem dX12_readsOne_212 : decode cX12_readsOne 212 = .ok (.ldc 251, 2) := by decide +kernel
theorem dX12_readsOne_214 : decode cX12_readsOne 214 = .ok (.invokevirtual 228, 3) := by decide +kernel
theorem dX12_readsOne_217 : decode cX12_readsOne 217 = .ok (.goto 112, 3) := by decide +kernel
theorem dX12_readsOne_220 : decode cX12_readsOne 220 = .ok (.iload_n 2, 1) := by decide +kernel
theorem dX12_readsOne_221 : decode cX12_readsOne 221 = .ok (.ifCond .eq 22, 3) := by decide +kernel
theorem dX12_readsOne_224 : decode cX12_readsOne 224 = .ok (.aload_n 0, 1) := by decide +kernel
theorem dX12_readsOne_225 : decode cX12_readsOne 225 = .ok (.ldc 253, 2) := by decide +kernel
theorem dX12_readsOne_227 : decode cX12_readsOne 227 = .ok (.iconst 1, 1) := by decide +kernel
theorem dX12_readsOne_228 : decode cX12_readsOne 228 = .ok (.iconst 1, 1) := by decide +kernel
theorem dX12_readsOne_229 : decode cX12_readsOne 229 = .ok (.invokevirtual 237, 3) := by decide +kernel
theorem dX12_readsOne_232 : decode cX12_readsOne 232 = .ok (.aload_n 0, 1) := by decide +kernel
theorem dX12_readsOne_233 : decode cX12_readsOne 233 = .ok (.ldc 245, 2) := by decide +kernel
theorem dX12_readsOne_235 : decode cX12_readsOne 235 = .ok (.iconst 2, 1) := by decide +kernel
theorem dX12_readsOne_236 : decode cX12_readsOne 236 = .ok (.iconst 2, 1) := by decide +kernel
theorem dX12_readsOne_237 : decode cX12_readsOne 237 = .ok (.invokevirtual 237, 3) := by decide +kernel
theorem dX12_readsOne_240 : decode cX12_readsOne 240 = .ok (.goto 89, 3) := by decide +kernel
theorem dX12_readsOne_243 : decode cX12_readsOne 243 = .ok (.aload_n 0, 1) := by decide +kernel
theorem dX12_readsOne_244 : decode cX12_readsOne 244 = .ok (.invokevirtual 255, 3) := by decide +kernel
theorem dX12_readsOne_247 : decode cX12_readsOne 247 = .ok (.goto 82, 3) := by decide +kernel
theorem dX12_readsOne_250 : decode cX12_readsOne 250 = .ok (.iload_n 2, 1) := by decide +kernel
theorem dX12_readsOne_251 : decode cX12_readsOne 251 = .ok (.ifCond .eq 10, 3) := by decide +kernel
theorem dX12_readsOne_254 : decode cX12_readsOne 254 = .ok (.aload_n 0, 1) := by decide +kernel
theorem dX12_readsOne_255 : decode cX12_readsOne 255 = .ok (.invokevirtual 258, 3) := by decide +kernel
theorem dX12_readsOne_258 : decode cX12_readsOne 258 = .ok (.goto 71, 3) := by decide +kernel
theorem dX12_readsOne_261 : decode cX12_readsOne 261 = .ok (.aload_n 0, 1) := by decide +kernel
theorem dX12_readsOne_262 : decode cX12_readsOne 262 = .ok (.ldc_w 261, 3) := by decide +kernel
theorem dX12_readsOne_265 : decode cX12_readsOne 265 = .ok (.iconst 1, 1) := by decide +kernel
theorem dX12_readsOne_266 : decode cX12_readsOne 266 = .ok (.iconst 1, 1) := by decide +kernel
theorem dX12_readsOne_267 : decode cX12_readsOne 267 = .ok (.invokevirtual 237, 3) := by decide +kernel
theorem dX12_readsOne_270 : decode cX12_readsOne 270 = .ok (.goto 59, 3) := by decide +kernel
theorem dX12_readsOne_273 : decode cX12_readsOne 273 = .ok (.aload_n 0, 1) := by decide +kernel
theorem dX12_readsOne_274 : decode cX12_readsOne 274 = .ok (.ldc_w 263, 3) := by decide +kernel
theorem dX12_readsOne_277 : decode cX12_readsOne 277 = .ok (.iconst 1, 1) := by decide +kernel
theorem dX12_readsOne_278 : decode cX12_readsOne 278 = .ok (.iconst 1, 1) := by decide +kernel
theorem dX12_readsOne_279 : decode cX12_readsOne 279 = .ok (.invokevirtual 237, 3) := by decide +kernel
theorem dX12_readsOne_282 : decode cX12_readsOne 282 = .ok (.goto 47, 3) := by decide +kernel
theorem dX12_readsOne_285 : decode cX12_readsOne 285 = .ok (.aload_n 0, 1) := by decide +kernel
theorem dX12_readsOne_286 : decode cX12_readsOne 286 = .ok (.ldc_w 265, 3) := by decide +kernel
theorem dX12_readsOne_289 : decode cX12_readsOne 289 = .ok (.invokevirtual 228, 3) := by decide +kernel
theorem dX12_readsOne_292 : decode cX12_readsOne 292 = .ok (.goto 37, 3) := by decide +kernel
theorem dX12_readsOne_295 : decode cX12_readsOne 295 = .ok (.aload_n 0, 1) := by decide +kernel
theorem dX12_readsOne_296 : decode cX12_readsOne 296 = .ok (.ldc_w 267, 3) := by decide +kernel
theorem dX12_readsOne_299 : decode cX12_readsOne 299 = .ok (.invokevirtual 228, 3) := by decide +kernel
theorem dX12_readsOne_302 : decode cX12_readsOne 302 = .ok (.goto 27, 3) := by decide +kernel
theorem dX12_readsOne_305 : decode cX12_readsOne 305 = .ok (.aload_n 0, 1) := by decide +kernel
theorem dX12_readsOne_306 : decode cX12_readsOne 306 = .ok (.ldc_w 269, 3) := by decide +kernel
theorem dX12_readsOne_309 : decode cX12_readsOne 309 = .ok (.iconst 1, 1) := by decide +kernel
theorem dX12_readsOne_310 : decode cX12_readsOne 310 = .ok (.iconst 1, 1) := by decide +kernel
theorem dX12_readsOne_311 : decode cX12_readsOne 311 = .ok (.invokevirtual 237, 3) := by decide +kernel
theorem dX12_readsOne_314 : decode cX12_readsOne 314 = .ok (.goto 15, 3) := by decide +kernel
theorem dX12_readsOne_317 : decode cX12_readsOne 317 = .ok (.aload_n 0, 1) := by decide +kernel
theorem dX12_readsOne_318 : decode cX12_readsOne 318 = .ok (.invokevirtual 271, 3) := by decide +kernel
theorem dX12_readsOne_321 : decode cX12_readsOne 321 = .ok (.goto 8, 3) := by decide +kernel
theorem dX12_readsOne_324 : decode cX12_readsOne 324 = .ok (.aload_n 0, 1) := by decide +kernel
theorem dX12_readsOne_325 : decode cX12_readsOne 325 = .ok (.iconst 1, 1) := by decide +kernel
theorem dX12_readsOne_326 : decode cX12_readsOne 326 = .ok (.putfield 217, 3) := by decide +kernel
theorem dX12_readsOne_329 : decode cX12_readsOne 329 = .ok (.aload_n 0, 1) := by decide +kernel
theorem dX12_readsOne_330 : decode cX12_readsOne 330 = .ok (.dup, 1) := by decide +kernel
theorem dX12_readsOne_331 : decode cX12_readsOne 331 = .ok (.getfield 232, 3) := by decide +kernel
theorem dX12_readsOne_334 : decode cX12_readsOne 334 = .ok (.iconst 1, 1) := by decide +kernel
theorem dX12_readsOne_335 : decode cX12_readsOne 335 = .ok (.iadd, 1) := by decide +kernel
theorem dX12_readsOne_336 : decode cX12_readsOne 336 = .ok (.putfield 232, 3) := by decide +kernel
theorem dX12_readsOne_339 : decode cX12_readsOne 339 = .ok (.return_, 1) := by decide +kernel
theorem dX12_does_0 : decode cX12_does 0 = .ok (.aload_n 0, 1) := by decide +kernel
theorem dX12_does_1 : decode cX12_does 1 = .ok (.getfield 28, 3) := by decide +kernel
theorem dX12_does_4 : decode cX12_does 4 = .ok (.bipush 6, 2) := by decide +kernel
theorem dX12_does_6 : decode cX12_does 6 = .ok (.iload_n 1, 1) := by decide +kernel
theorem dX12_does_7 : decode cX12_does 7 = .ok (.imul, 1) := by decide +kernel
theorem dX12_does_8 : decode cX12_does 8 = .ok (.iconst 1, 1) := by decide +kernel
theorem dX12_does_9 : decode cX12_does 9 = .ok (.iadd, 1) := by decide +kernel
theorem dX12_does_10 : decode cX12_does 10 = .ok (.iaload, 1) := by decide +kernel
theorem dX12_does_11 : decode cX12_does 11 = .ok (.istore_n 2, 1) := by decide +kernel
theorem dX12_does_12 : decode cX12_does 12 = .ok (.aload_n 0, 1) := by decide +kernel
theorem dX12_does_13 : decode cX12_does 13 = .ok (.getfield 28, 3) := by decide +kernel
theorem dX12_does_16 : decode cX12_does 16 = .ok (.bipush 6, 2) := by decide +kernel
theorem dX12_does_18 : decode cX12_does 18 = .ok (.iload_n 1, 1) := by decide +kernel
theorem dX12_does_19 : decode cX12_does 19 = .ok (.imul, 1) := by decide +kernel
theorem dX12_does_20 : decode cX12_does 20 = .ok (.iconst 2, 1) := by decide +kernel
theorem dX12_does_21 : decode cX12_does 21 = .ok (.iadd, 1) := by decide +kernel
theorem dX12_does_22 : decode cX12_does 22 = .ok (.iaload, 1) := by decide +kernel
theorem dX12_does_23 : decode cX12_does 23 = .ok (.istore_n 3, 1) := by decide +kernel
theorem dX12_does_24 : decode cX12_does 24 = .ok (.aload_n 0, 1) := by decide +kernel
theorem dX12_does_25 : decode cX12_does 25 = .ok (.getfield 28, 3) := by decide +kernel
theorem dX12_does_28 : decode cX12_does 28 = .ok (.bipush 6, 2) := by decide +kernel
theorem dX12_does_30 : decode cX12_does 30 = .ok (.iload_n 1, 1) := by decide +kernel
theorem dX12_does_31 : decode cX12_does 31 = .ok (.imul, 1) := by decide +kernel
theorem dX12_does_32 : decode cX12_does 32 = .ok (.iaload, 1) := by decide +kernel
theorem dX12_does_33 : decode cX12_does 33 = .ok (.lookupswitch 194 #[(98, 172), (99, 183), (103, 139), (104, 91), (111, 178), (115, 103), (116, 188), (203, 145), (204, 96), (215, 132)], 91) := by decide +kernel
theorem dX12_does_124 : decode cX12_does 124 = .ok (.aload_n 0, 1) := by decide +kernel
theorem dX12_does_125 : decode cX12_does 125 = .ok (.invokevirtual 131, 3) := by decide +kernel
theorem dX12_does_128 : decode cX12_does 128 = .ok (.ireturn, 1) := by decide +kernel
theorem dX12_does_129 : decode cX12_does 129 = .ok (.aload_n 0, 1) := by decide +kernel
theorem dX12_does_130 : decode cX12_does 130 = .ok (.iload_n 2, 1) := by decide +kernel
theorem dX12_does_131 : decode cX12_does 131 = .ok (.iload_n 3, 1) := by decide +kernel
theorem dX12_does_132 : decode cX12_does 132 = .ok (.invokevirtual 163, 3) := by decide +kernel
theorem dX12_does_135 : decode cX12_does 135 = .ok (.ireturn, 1) := by decide +kernel
theorem dX12_does_136 : decode cX12_does 136 = .ok (.aload_n 0, 1) := by decide +kernel
theorem dX12_does_137 : decode cX12_does 137 = .ok (.iload_n 2, 1) := by decide +kernel
theorem dX12_does_138 : decode cX12_does 138 = .ok (.iload_n 3, 1) := by decide +kernel
theorem dX12_does_139 : decode cX12_does 139 = .ok (.aload_n 0, 1) := by decide +kernel
theorem dX12_does_140 : decode cX12_does 140 = .ok (.getfield 28, 3) := by decide +kernel
theorem dX12_does_143 : decode cX12_does 143 = .ok (.bipush 6, 2) := by decide +kernel
theorem dX12_does_145 : decode cX12_does 145 = .ok (.iload_n 1, 1) := by decide +kernel
theorem dX12_does_146 : decode cX12_does 146 = .ok (.imul, 1) := by decide +kernel
theorem dX12_does_147 : decode cX12_does 147 = .ok (.iconst 3, 1) := by decide +kernel
theorem dX12_does_148 : decode cX12_does 148 = .ok (.iadd, 1) := by decide +kernel
theorem dX12_does_149 : decode cX12_does 149 = .ok (.iaload, 1) := by decide +kernel
theorem dX12_does_150 : decode cX12_does 150 = .ok (.aload_n 0, 1) := by decide +kernel
theorem dX12_does_151 : decode cX12_does 151 = .ok (.getfield 28, 3) := by decide +kernel
theorem dX12_does_154 : decode cX12_does 154 = .ok (.bipush 6, 2) := by decide +kernel
theorem dX12_does_156 : decode cX12_does 156 = .ok (.iload_n 1, 1) := by decide +kernel
theorem dX12_does_157 : decode cX12_does 157 = .ok (.imul, 1) := by decide +kernel
theorem dX12_does_158 : decode cX12_does 158 = .ok (.iconst 4, 1) := by decide +kernel
theorem dX12_does_159 : decode cX12_does 159 = .ok (.iadd, 1) := by decide +kernel
theorem dX12_does_160 : decode cX12_does 160 = .ok (.iaload, 1) := by decide +kernel
theorem dX12_does_161 : decode cX12_does 161 = .ok (.invokevirtual 137, 3) := by decide +kernel
theorem dX12_does_164 : decode cX12_does 164 = .ok (.ireturn, 1) := by decide +kernel
theorem dX12_does_165 : decode cX12_does 165 = .ok (.aload_n 0, 1) := by decide +kernel
theorem dX12_does_166 : decode cX12_does 166 = .ok (.iload_n 2, 1) := by decide +kernel
theorem dX12_does_167 : decode cX12_does 167 = .ok (.iload_n 3, 1) := by decide +kernel
theorem dX12_does_168 : decode cX12_does 168 = .ok (.invokevirtual 141, 3) := by decide +kernel
theorem dX12_does_171 : decode cX12_does 171 = .ok (.ireturn, 1) := by decide +kernel
theorem dX12_does_172 : decode cX12_does 172 = .ok (.aload_n 0, 1) := by decide +kernel
theorem dX12_does_173 : decode cX12_does 173 = .ok (.iload_n 2, 1) := by decide +kernel
theorem dX12_does_174 : decode cX12_does 174 = .ok (.invokevirtual 144, 3) := by decide +kernel
theorem dX12_does_177 : decode cX12_does 177 = .ok (.ireturn, 1) := by decide +kernel
theorem dX12_does_178 : decode cX12_does 178 = .ok (.aload_n 0, 1) := by decide +kernel
theorem dX12_does_179 : decode cX12_does 179 = .ok (.iload_n 2, 1) := by decide +kernel
theorem dX12_does_180 : decode cX12_does 180 = .ok (.iload_n 3, 1) := by decide +kernel
theorem dX12_does_181 : decode cX12_does 181 = .ok (.iconst 1, 1) := by decide +kernel
theorem dX12_does_182 : decode cX12_does 182 = .ok (.if_icmp .ne 7, 3) := by decide +kernel
theorem dX12_does_185 : decode cX12_does 185 = .ok (.iconst 1, 1) := by decide +kernel
theorem dX12_does_186 : decode cX12_does 186 = .ok (.goto 4, 3) := by decide +kernel
theorem dX12_does_189 : decode cX12_does 189 = .ok (.iconst 0, 1) := by decide +kernel
theorem dX12_does_190 : decode cX12_does 190 = .ok (.aload_n 0, 1) := by decide +kernel
theorem dX12_does_191 : decode cX12_does 191 = .ok (.getfield 28, 3) := by decide +kernel
theorem dX12_does_194 : decode cX12_does 194 = .ok (.bipush 6, 2) := by decide +kernel
theorem dX12_does_196 : decode cX12_does 196 = .ok (.iload_n 1, 1) := by decide +kernel
theorem dX12_does_197 : decode cX12_does 197 = .ok (.imul, 1) := by decide +kernel
theorem dX12_does_198 : decode cX12_does 198 = .ok (.iconst 3, 1) := by decide +kernel
theorem dX12_does_199 : decode cX12_does 199 = .ok (.iadd, 1) := by decide +kernel
theorem dX12_does_200 : decode cX12_does 200 = .ok (.iaload, 1) := by decide +kernel
theorem dX12_does_201 : decode cX12_does 201 = .ok (.invokevirtual 156, 3) := by decide +kernel
theorem dX12_does_204 : decode cX12_does 204 = .ok (.ireturn, 1) := by decide +kernel
theorem dX12_does_205 : decode cX12_does 205 = .ok (.aload_n 0, 1) := by decide +kernel
theorem dX12_does_206 : decode cX12_does 206 = .ok (.iload_n 2, 1) := by decide +kernel
theorem dX12_does_207 : decode cX12_does 207 = .ok (.invokevirtual 147, 3) := by decide +kernel
theorem dX12_does_210 : decode cX12_does 210 = .ok (.ireturn, 1) := by decide +kernel
theorem dX12_does_211 : decode cX12_does 211 = .ok (.aload_n 0, 1) := by decide +kernel
theorem dX12_does_212 : decode cX12_does 212 = .ok (.invokevirtual 274, 3) := by decide +kernel
theorem dX12_does_215 : decode cX12_does 215 = .ok (.ireturn, 1) := by decide +kernel
theorem dX12_does_216 : decode cX12_does 216 = .ok (.aload_n 0, 1) := by decide +kernel
theorem dX12_does_217 : decode cX12_does 217 = .ok (.invokevirtual 153, 3) := by decide +kernel
theorem dX12_does_220 : decode cX12_does 220 = .ok (.ireturn, 1) := by decide +kernel
theorem dX12_does_221 : decode cX12_does 221 = .ok (.aload_n 0, 1) := by decide +kernel
theorem dX12_does_222 : decode cX12_does 222 = .ok (.iload_n 2, 1) := by decide +kernel
theorem dX12_does_223 : decode cX12_does 223 = .ok (.invokevirtual 160, 3) := by decide +kernel
theorem dX12_does_226 : decode cX12_does 226 = .ok (.ireturn, 1) := by decide +kernel
theorem dX12_does_227 : decode cX12_does 227 = .ok (.aload_n 0, 1) := by decide +kernel
theorem dX12_does_228 : decode cX12_does 228 = .ok (.iload_n 2, 1) := by decide +kernel
theorem dX12_does_229 : decode cX12_does 229 = .ok (.invokevirtual 166, 3) := by decide +kernel
theorem dX12_does_232 : decode cX12_does 232 = .ok (.ireturn, 1) := by decide +kernel
theorem dX12_opens_0 : decode cX12_opens 0 = .ok (.aload_n 0, 1) := by decide +kernel
theorem dX12_opens_1 : decode cX12_opens 1 = .ok (.invokevirtual 150, 3) := by decide +kernel
theorem dX12_opens_4 : decode cX12_opens 4 = .ok (.istore_n 1, 1) := by decide +kernel
theorem dX12_opens_5 : decode cX12_opens 5 = .ok (.iload_n 1, 1) := by decide +kernel
theorem dX12_opens_6 : decode cX12_opens 6 = .ok (.ifCond .ne 14, 3) := by decide +kernel
theorem dX12_opens_9 : decode cX12_opens 9 = .ok (.aload_n 0, 1) := by decide +kernel
theorem dX12_opens_10 : decode cX12_opens 10 = .ok (.getfield 47, 3) := by decide +kernel
theorem dX12_opens_13 : decode cX12_opens 13 = .ok (.ifCond .ne 7, 3) := by decide +kernel
theorem dX12_opens_16 : decode cX12_opens 16 = .ok (.iconst 1, 1) := by decide +kernel
theorem dX12_opens_17 : decode cX12_opens 17 = .ok (.goto 4, 3) := by decide +kernel
theorem dX12_opens_20 : decode cX12_opens 20 = .ok (.iload_n 1, 1) := by decide +kernel
theorem dX12_opens_21 : decode cX12_opens 21 = .ok (.ireturn, 1) := by decide +kernel
theorem dX12_runCommands_0 : decode cX12_runCommands 0 = .ok (.aload_n 0, 1) := by decide +kernel
theorem dX12_runCommands_1 : decode cX12_runCommands 1 = .ok (.invokevirtual 128, 3) := by decide +kernel
theorem dX12_runCommands_4 : decode cX12_runCommands 4 = .ok (.aload_n 0, 1) := by decide +kernel
theorem dX12_runCommands_5 : decode cX12_runCommands 5 = .ok (.iconst 0, 1) := by decide +kernel
theorem dX12_runCommands_6 : decode cX12_runCommands 6 = .ok (.putfield 206, 3) := by decide +kernel
theorem dX12_runCommands_9 : decode cX12_runCommands 9 = .ok (.aload_n 0, 1) := by decide +kernel
theorem dX12_runCommands_10 : decode cX12_runCommands 10 = .ok (.aload_n 0, 1) := by decide +kernel
theorem dX12_runCommands_11 : decode cX12_runCommands 11 = .ok (.getfield 203, 3) := by decide +kernel
theorem dX12_runCommands_14 : decode cX12_runCommands 14 = .ok (.putfield 209, 3) := by decide +kernel
theorem dX12_runCommands_17 : decode cX12_runCommands 17 = .ok (.aload_n 0, 1) := by decide +kernel
theorem dX12_runCommands_18 : decode cX12_runCommands 18 = .ok (.iconst 0, 1) := by decide +kernel
theorem dX12_runCommands_19 : decode cX12_runCommands 19 = .ok (.putfield 203, 3) := by decide +kernel
theorem dX12_runCommands_22 : decode cX12_runCommands 22 = .ok (.aload_n 0, 1) := by decide +kernel
theorem dX12_runCommands_23 : decode cX12_runCommands 23 = .ok (.iconst 0, 1) := by decide +kernel
theorem dX12_runCommands_24 : decode cX12_runCommands 24 = .ok (.putfield 232, 3) := by decide +kernel
theorem dX12_runCommands_27 : decode cX12_runCommands 27 = .ok (.aload_n 0, 1) := by decide +kernel
theorem dX12_runCommands_28 : decode cX12_runCommands 28 = .ok (.iconst 0, 1) := by decide +kernel
theorem dX12_runCommands_29 : decode cX12_runCommands 29 = .ok (.putfield 217, 3) := by decide +kernel
theorem dX12_runCommands_32 : decode cX12_runCommands 32 = .ok (.aload_n 0, 1) := by decide +kernel
theorem dX12_runCommands_33 : decode cX12_runCommands 33 = .ok (.invokevirtual 277, 3) := by decide +kernel
theorem dX12_runCommands_36 : decode cX12_runCommands 36 = .ok (.aload_n 0, 1) := by decide +kernel
theorem dX12_runCommands_37 : decode cX12_runCommands 37 = .ok (.getfield 217, 3) := by decide +kernel
theorem dX12_runCommands_40 : decode cX12_runCommands 40 = .ok (.ifCond .ne 30, 3) := by decide +kernel
theorem dX12_runCommands_43 : decode cX12_runCommands 43 = .ok (.aload_n 0, 1) := by decide +kernel
theorem dX12_runCommands_44 : decode cX12_runCommands 44 = .ok (.iconst 0, 1) := by decide +kernel
theorem dX12_runCommands_45 : decode cX12_runCommands 45 = .ok (.invokevirtual 221, 3) := by decide +kernel
theorem dX12_runCommands_48 : decode cX12_runCommands 48 = .ok (.bipush 59, 2) := by decide +kernel
theorem dX12_runCommands_50 : decode cX12_runCommands 50 = .ok (.if_icmp .ne 20, 3) := by decide +kernel
theorem dX12_runCommands_53 : decode cX12_runCommands 53 = .ok (.aload_n 0, 1) := by decide +kernel
theorem dX12_runCommands_54 : decode cX12_runCommands 54 = .ok (.dup, 1) := by decide +kernel
theorem dX12_runCommands_55 : decode cX12_runCommands 55 = .ok (.getfield 206, 3) := by decide +kernel
theorem dX12_runCommands_58 : decode cX12_runCommands 58 = .ok (.iconst 1, 1) := by decide +kernel
theorem dX12_runCommands_59 : decode cX12_runCommands 59 = .ok (.iadd, 1) := by decide +kernel
theorem dX12_runCommands_60 : decode cX12_runCommands 60 = .ok (.putfield 206, 3) := by decide +kernel
theorem dX12_runCommands_63 : decode cX12_runCommands 63 = .ok (.aload_n 0, 1) := by decide +kernel
theorem dX12_runCommands_64 : decode cX12_runCommands 64 = .ok (.invokevirtual 277, 3) := by decide +kernel
theorem dX12_runCommands_67 : decode cX12_runCommands 67 = .ok (.goto (-31), 3) := by decide +kernel
theorem dX12_runCommands_70 : decode cX12_runCommands 70 = .ok (.aload_n 0, 1) := by decide +kernel
theorem dX12_runCommands_71 : decode cX12_runCommands 71 = .ok (.getfield 217, 3) := by decide +kernel
theorem dX12_runCommands_74 : decode cX12_runCommands 74 = .ok (.ifCond .ne 14, 3) := by decide +kernel
theorem dX12_runCommands_77 : decode cX12_runCommands 77 = .ok (.aload_n 0, 1) := by decide +kernel
theorem dX12_runCommands_78 : decode cX12_runCommands 78 = .ok (.getfield 206, 3) := by decide +kernel
theorem dX12_runCommands_81 : decode cX12_runCommands 81 = .ok (.aload_n 0, 1) := by decide +kernel
theorem dX12_runCommands_82 : decode cX12_runCommands 82 = .ok (.getfield 209, 3) := by decide +kernel
theorem dX12_runCommands_85 : decode cX12_runCommands 85 = .ok (.if_icmp .ge 17, 3) := by decide +kernel
theorem dX12_runCommands_88 : decode cX12_runCommands 88 = .ok (.aload_n 0, 1) := by decide +kernel
theorem dX12_runCommands_89 : decode cX12_runCommands 89 = .ok (.aload_n 0, 1) := by decide +kernel
theorem dX12_runCommands_90 : decode cX12_runCommands 90 = .ok (.getfield 206, 3) := by decide +kernel
theorem dX12_runCommands_93 : decode cX12_runCommands 93 = .ok (.putfield 37, 3) := by decide +kernel
theorem dX12_runCommands_96 : decode cX12_runCommands 96 = .ok (.aload_n 0, 1) := by decide +kernel
theorem dX12_runCommands_97 : decode cX12_runCommands 97 = .ok (.iconst 1, 1) := by decide +kernel
theorem dX12_runCommands_98 : decode cX12_runCommands 98 = .ok (.invokevirtual 63, 3) := by decide +kernel
theorem dX12_runCommands_101 : decode cX12_runCommands 101 = .ok (.ireturn, 1) := by decide +kernel
theorem dX12_runCommands_102 : decode cX12_runCommands 102 = .ok (.iconst 0, 1) := by decide +kernel
theorem dX12_runCommands_103 : decode cX12_runCommands 103 = .ok (.istore_n 1, 1) := by decide +kernel
theorem dX12_runCommands_104 : decode cX12_runCommands 104 = .ok (.iload_n 1, 1) := by decide +kernel
theorem dX12_runCommands_105 : decode cX12_runCommands 105 = .ok (.aload_n 0, 1) := by decide +kernel
theorem dX12_runCommands_106 : decode cX12_runCommands 106 = .ok (.getfield 232, 3) := by decide +kernel
theorem dX12_runCommands_109 : decode cX12_runCommands 109 = .ok (.if_icmp .ge 77, 3) := by decide +kernel
theorem dX12_runCommands_112 : decode cX12_runCommands 112 = .ok (.aload_n 0, 1) := by decide +kernel
theorem dX12_runCommands_113 : decode cX12_runCommands 113 = .ok (.iload_n 1, 1) := by decide +kernel
theorem dX12_runCommands_114 : decode cX12_runCommands 114 = .ok (.invokevirtual 280, 3) := by decide +kernel
theorem dX12_runCommands_117 : decode cX12_runCommands 117 = .ok (.istore_n 2, 1) := by decide +kernel
theorem dX12_runCommands_118 : decode cX12_runCommands 118 = .ok (.iload_n 2, 1) := by decide +kernel
theorem dX12_runCommands_119 : decode cX12_runCommands 119 = .ok (.ifCond .ne 6, 3) := by decide +kernel
theorem dX12_runCommands_122 : decode cX12_runCommands 122 = .ok (.goto 58, 3) := by decide +kernel
theorem dX12_runCommands_125 : decode cX12_runCommands 125 = .ok (.iconst 0, 1) := by decide +kernel
theorem dX12_runCommands_126 : decode cX12_runCommands 126 = .ok (.istore_n 3, 1) := by decide +kernel
theorem dX12_runCommands_127 : decode cX12_runCommands 127 = .ok (.iload_n 3, 1) := by decide +kernel
theorem dX12_runCommands_128 : decode cX12_runCommands 128 = .ok (.bipush 92, 2) := by decide +kernel
theorem dX12_runCommands_130 : decode cX12_runCommands 130 = .ok (.if_icmp .ge 21, 3) := by decide +kernel
theorem dX12_runCommands_133 : decode cX12_runCommands 133 = .ok (.aload_n 0, 1) := by decide +kernel
theorem dX12_runCommands_134 : decode cX12_runCommands 134 = .ok (.getfield 7, 3) := by decide +kernel
theorem dX12_runCommands_137 : decode cX12_runCommands 137 = .ok (.iload_n 3, 1) := by decide +kernel
theorem dX12_runCommands_138 : decode cX12_runCommands 138 = .ok (.aload_n 0, 1) := by decide +kernel
theorem dX12_runCommands_139 : decode cX12_runCommands 139 = .ok (.getfield 13, 3) := by decide +kernel
theorem dX12_runCommands_142 : decode cX12_runCommands 142 = .ok (.iload_n 3, 1) := by decide +kernel
theorem dX12_runCommands_143 : decode cX12_runCommands 143 = .ok (.iaload, 1) := by decide +kernel
theorem dX12_runCommands_144 : decode cX12_runCommands 144 = .ok (.iastore, 1) := by decide +kernel
theorem dX12_runCommands_145 : decode cX12_runCommands 145 = .ok (.iinc 3 1, 3) := by decide +kernel
theorem dX12_runCommands_148 : decode cX12_runCommands 148 = .ok (.goto (-21), 3) := by decide +kernel
theorem dX12_runCommands_151 : decode cX12_runCommands 151 = .ok (.aload_n 0, 1) := by decide +kernel
theorem dX12_runCommands_152 : decode cX12_runCommands 152 = .ok (.bipush 11, 2) := by decide +kernel
theorem dX12_runCommands_154 : decode cX12_runCommands 154 = .ok (.iload_n 1, 1) := by decide +kernel
theorem dX12_runCommands_155 : decode cX12_runCommands 155 = .ok (.invokevirtual 98, 3) := by decide +kernel
theorem dX12_runCommands_158 : decode cX12_runCommands 158 = .ok (.istore_n 3, 1) := by decide +kernel
theorem dX12_runCommands_159 : decode cX12_runCommands 159 = .ok (.aload_n 0, 1) := by decide +kernel
theorem dX12_runCommands_160 : decode cX12_runCommands 160 = .ok (.iload_n 2, 1) := by decide +kernel
theorem dX12_runCommands_161 : decode cX12_runCommands 161 = .ok (.ifCond .ge 8, 3) := by decide +kernel
theorem dX12_runCommands_164 : decode cX12_runCommands 164 = .ok (.iload_n 2, 1) := by decide +kernel
theorem dX12_runCommands_165 : decode cX12_runCommands 165 = .ok (.ineg, 1) := by decide +kernel
theorem dX12_runCommands_166 : decode cX12_runCommands 166 = .ok (.goto 5, 3) := by decide +kernel
theorem dX12_runCommands_169 : decode cX12_runCommands 169 = .ok (.bipush 12, 2) := by decide +kernel
theorem dX12_runCommands_171 : decode cX12_runCommands 171 = .ok (.putfield 56, 3) := by decide +kernel
theorem dX12_runCommands_174 : decode cX12_runCommands 174 = .ok (.aload_n 0, 1) := by decide +kernel
theorem dX12_runCommands_175 : decode cX12_runCommands 175 = .ok (.iconst 2, 1) := by decide +kernel
theorem dX12_runCommands_176 : decode cX12_runCommands 176 = .ok (.invokevirtual 63, 3) := by decide +kernel
theorem dX12_runCommands_179 : decode cX12_runCommands 179 = .ok (.ireturn, 1) := by decide +kernel
theorem dX12_runCommands_180 : decode cX12_runCommands 180 = .ok (.iinc 1 1, 3) := by decide +kernel
theorem dX12_runCommands_183 : decode cX12_runCommands 183 = .ok (.goto (-79), 3) := by decide +kernel
theorem dX12_runCommands_186 : decode cX12_runCommands 186 = .ok (.aload_n 0, 1) := by decide +kernel
theorem dX12_runCommands_187 : decode cX12_runCommands 187 = .ok (.aload_n 0, 1) := by decide +kernel
theorem dX12_runCommands_188 : decode cX12_runCommands 188 = .ok (.getfield 232, 3) := by decide +kernel
theorem dX12_runCommands_191 : decode cX12_runCommands 191 = .ok (.invokevirtual 59, 3) := by decide +kernel
theorem dX12_runCommands_194 : decode cX12_runCommands 194 = .ok (.ireturn, 1) := by decide +kernel
theorem dX12_errorPosition_0 : decode cX12_errorPosition 0 = .ok (.aload_n 0, 1) := by decide +kernel
theorem dX12_errorPosition_1 : decode cX12_errorPosition 1 = .ok (.iconst 0, 1) := by decide +kernel
theorem dX12_errorPosition_2 : decode cX12_errorPosition 2 = .ok (.putfield 41, 3) := by decide +kernel
theorem dX12_errorPosition_5 : decode cX12_errorPosition 5 = .ok (.aload_n 0, 1) := by decide +kernel
theorem dX12_errorPosition_6 : decode cX12_errorPosition 6 = .ok (.getfield 37, 3) := by decide +kernel
theorem dX12_errorPosition_9 : decode cX12_errorPosition 9 = .ok (.iconst (-1), 1) := by decide +kernel
theorem dX12_errorPosition_10 : decode cX12_errorPosition 10 = .ok (.if_icmp .ne 11, 3) := by decide +kernel
theorem dX12_errorPosition_13 : decode cX12_errorPosition 13 = .ok (.aload_n 0, 1) := by decide +kernel
theorem dX12_errorPosition_14 : decode cX12_errorPosition 14 = .ok (.iconst 1, 1) := by decide +kernel
theorem dX12_errorPosition_15 : decode cX12_errorPosition 15 = .ok (.invokevirtual 63, 3) := by decide +kernel
theorem dX12_errorPosition_18 : decode cX12_errorPosition 18 = .ok (.goto 7, 3) := by decide +kernel
theorem dX12_errorPosition_21 : decode cX12_errorPosition 21 = .ok (.aload_n 0, 1) := by decide +kernel
theorem dX12_errorPosition_22 : decode cX12_errorPosition 22 = .ok (.getfield 37, 3) := by decide +kernel
theorem dX12_errorPosition_25 : decode cX12_errorPosition 25 = .ok (.ireturn, 1) := by decide +kernel
theorem dX12_writes_0 : decode cX12_writes 0 = .ok (.aload_n 0, 1) := by decide +kernel
theorem dX12_writes_1 : decode cX12_writes 1 = .ok (.getfield 31, 3) := by decide +kernel
theorem dX12_writes_4 : decode cX12_writes 4 = .ok (.aload_n 0, 1) := by decide +kernel
theorem dX12_writes_5 : decode cX12_writes 5 = .ok (.getfield 283, 3) := by decide +kernel
theorem dX12_writes_8 : decode cX12_writes 8 = .ok (.iload_n 1, 1) := by decide +kernel
theorem dX12_writes_9 : decode cX12_writes 9 = .ok (.iastore, 1) := by decide +kernel
theorem dX12_writes_10 : decode cX12_writes 10 = .ok (.aload_n 0, 1) := by decide +kernel
theorem dX12_writes_11 : decode cX12_writes 11 = .ok (.dup, 1) := by decide +kernel
theorem dX12_writes_12 : decode cX12_writes 12 = .ok (.getfield 283, 3) := by decide +kernel
theorem dX12_writes_15 : decode cX12_writes 15 = .ok (.iconst 1, 1) := by decide +kernel
theorem dX12_writes_16 : decode cX12_writes 16 = .ok (.iadd, 1) := by decide +kernel
theorem dX12_writes_17 : decode cX12_writes 17 = .ok (.putfield 283, 3) := by decide +kernel
theorem dX12_writes_20 : decode cX12_writes 20 = .ok (.return_, 1) := by decide +kernel
theorem dX12_writesNumber_0 : decode cX12_writesNumber 0 = .ok (.iload_n 1, 1) := by decide +kernel
theorem dX12_writesNumber_1 : decode cX12_writesNumber 1 = .ok (.sipush 9999, 3) := by decide +kernel
theorem dX12_writesNumber_4 : decode cX12_writesNumber 4 = .ok (.if_icmp .le 18, 3) := by decide +kernel
theorem dX12_writesNumber_7 : decode cX12_writesNumber 7 = .ok (.aload_n 0, 1) := by decide +kernel
theorem dX12_writesNumber_8 : decode cX12_writesNumber 8 = .ok (.bipush 48, 2) := by decide +kernel
theorem dX12_writesNumber_10 : decode cX12_writesNumber 10 = .ok (.iload_n 1, 1) := by decide +kernel
theorem dX12_writesNumber_11 : decode cX12_writesNumber 11 = .ok (.sipush 10000, 3) := by decide +kernel
theorem dX12_writesNumber_14 : decode cX12_writesNumber 14 = .ok (.idiv, 1) := by decide +kernel
theorem dX12_writesNumber_15 : decode cX12_writesNumber 15 = .ok (.bipush 10, 2) := by decide +kernel
theorem dX12_writesNumber_17 : decode cX12_writesNumber 17 = .ok (.irem, 1) := by decide +kernel
theorem dX12_writesNumber_18 : decode cX12_writesNumber 18 = .ok (.iadd, 1) := by decide +kernel
theorem dX12_writesNumber_19 : decode cX12_writesNumber 19 = .ok (.invokevirtual 286, 3) := by decide +kernel
theorem dX12_writesNumber_22 : decode cX12_writesNumber 22 = .ok (.iload_n 1, 1) := by decide +kernel
theorem dX12_writesNumber_23 : decode cX12_writesNumber 23 = .ok (.sipush 999, 3) := by decide +kernel
theorem dX12_writesNumber_26 : decode cX12_writesNumber 26 = .ok (.if_icmp .le 18, 3) := by decide +kernel
theorem dX12_writesNumber_29 : decode cX12_writesNumber 29 = .ok (.aload_n 0, 1) := by decide +kernel
theorem dX12_writesNumber_30 : decode cX12_writesNumber 30 = .ok (.bipush 48, 2) := by decide +kernel
theorem dX12_writesNumber_32 : decode cX12_writesNumber 32 = .ok (.iload_n 1, 1) := by decide +kernel
theorem dX12_writesNumber_33 : decode cX12_writesNumber 33 = .ok (.sipush 1000, 3) := by decide +kernel
theorem dX12_writesNumber_36 : decode cX12_writesNumber 36 = .ok (.idiv, 1) := by decide +kernel
theorem dX12_writesNumber_37 : decode cX12_writesNumber 37 = .ok (.bipush 10, 2) := by decide +kernel
theorem dX12_writesNumber_39 : decode cX12_writesNumber 39 = .ok (.irem, 1) := by decide +kernel
theorem dX12_writesNumber_40 : decode cX12_writesNumber 40 = .ok (.iadd, 1) := by decide +kernel
theorem dX12_writesNumber_41 : decode cX12_writesNumber 41 = .ok (.invokevirtual 286, 3) := by decide +kernel
theorem dX12_writesNumber_44 : decode cX12_writesNumber 44 = .ok (.iload_n 1, 1) := by decide +kernel
theorem dX12_writesNumber_45 : decode cX12_writesNumber 45 = .ok (.bipush 99, 2) := by decide +kernel
theorem dX12_writesNumber_47 : decode cX12_writesNumber 47 = .ok (.if_icmp .le 17, 3) := by decide +kernel
theorem dX12_writesNumber_50 : decode cX12_writesNumber 50 = .ok (.aload_n 0, 1) := by decide +kernel
theorem dX12_writesNumber_51 : decode cX12_writesNumber 51 = .ok (.bipush 48, 2) := by decide +kernel
theorem dX12_writesNumber_53 : decode cX12_writesNumber 53 = .ok (.iload_n 1, 1) := by decide +kernel
theorem dX12_writesNumber_54 : decode cX12_writesNumber 54 = .ok (.bipush 100, 2) := by decide +kernel
theorem dX12_writesNumber_56 : decode cX12_writesNumber 56 = .ok (.idiv, 1) := by decide +kernel
theorem dX12_writesNumber_57 : decode cX12_writesNumber 57 = .ok (.bipush 10, 2) := by decide +kernel
theorem dX12_writesNumber_59 : decode cX12_writesNumber 59 = .ok (.irem, 1) := by decide +kernel
theorem dX12_writesNumber_60 : decode cX12_writesNumber 60 = .ok (.iadd, 1) := by decide +kernel
theorem dX12_writesNumber_61 : decode cX12_writesNumber 61 = .ok (.invokevirtual 286, 3) := by decide +kernel
theorem dX12_writesNumber_64 : decode cX12_writesNumber 64 = .ok (.iload_n 1, 1) := by decide +kernel
theorem dX12_writesNumber_65 : decode cX12_writesNumber 65 = .ok (.bipush 9, 2) := by decide +kernel
theorem dX12_writesNumber_67 : decode cX12_writesNumber 67 = .ok (.if_icmp .le 17, 3) := by decide +kernel
theorem dX12_writesNumber_70 : decode cX12_writesNumber 70 = .ok (.aload_n 0, 1) := by decide +kernel
theorem dX12_writesNumber_71 : decode cX12_writesNumber 71 = .ok (.bipush 48, 2) := by decide +kernel
theorem dX12_writesNumber_73 : decode cX12_writesNumber 73 = .ok (.iload_n 1, 1) := by decide +kernel
theorem dX12_writesNumber_74 : decode cX12_writesNumber 74 = .ok (.bipush 10, 2) := by decide +kernel
theorem dX12_writesNumber_76 : decode cX12_writesNumber 76 = .ok (.idiv, 1) := by decide +kernel
theorem dX12_writesNumber_77 : decode cX12_writesNumber 77 = .ok (.bipush 10, 2) := by decide +kernel
theorem dX12_writesNumber_79 : decode cX12_writesNumber 79 = .ok (.irem, 1) := by decide +kernel
theorem dX12_writesNumber_80 : decode cX12_writesNumber 80 = .ok (.iadd, 1) := by decide +kernel
theorem dX12_writesNumber_81 : decode cX12_writesNumber 81 = .ok (.invokevirtual 286, 3) := by decide +kernel
theorem dX12_writesNumber_84 : decode cX12_writesNumber 84 = .ok (.aload_n 0, 1) := by decide +kernel
theorem dX12_writesNumber_85 : decode cX12_writesNumber 85 = .ok (.bipush 48, 2) := by decide +kernel
theorem dX12_writesNumber_87 : decode cX12_writesNumber 87 = .ok (.iload_n 1, 1) := by decide +kernel
theorem dX12_writesNumber_88 : decode cX12_writesNumber 88 = .ok (.bipush 10, 2) := by decide +kernel
theorem dX12_writesNumber_90 : decode cX12_writesNumber 90 = .ok (.irem, 1) := by decide +kernel
theorem dX12_writesNumber_91 : decode cX12_writesNumber 91 = .ok (.iadd, 1) := by decide +kernel
theorem dX12_writesNumber_92 : decode cX12_writesNumber 92 = .ok (.invokevirtual 286, 3) := by decide +kernel
theorem dX12_writesNumber_95 : decode cX12_writesNumber 95 = .ok (.return_, 1) := by decide +kernel
theorem dX12_writeZones_0 : decode cX12_writeZones 0 = .ok (.aload_n 0, 1) := by decide +kernel
theorem dX12_writeZones_1 : decode cX12_writeZones 1 = .ok (.iconst 0, 1) := by decide +kernel
theorem dX12_writeZones_2 : decode cX12_writeZones 2 = .ok (.putfield 41, 3) := by decide +kernel
theorem dX12_writeZones_5 : decode cX12_writeZones 5 = .ok (.aload_n 0, 1) := by decide +kernel
theorem dX12_writeZones_6 : decode cX12_writeZones 6 = .ok (.iconst 0, 1) := by decide +kernel
theorem dX12_writeZones_7 : decode cX12_writeZones 7 = .ok (.putfield 283, 3) := by decide +kernel
theorem dX12_writeZones_10 : decode cX12_writeZones 10 = .ok (.iconst 0, 1) := by decide +kernel
theorem dX12_writeZones_11 : decode cX12_writeZones 11 = .ok (.istore_n 1, 1) := by decide +kernel
theorem dX12_writeZones_12 : decode cX12_writeZones 12 = .ok (.iload_n 1, 1) := by decide +kernel
theorem dX12_writeZones_13 : decode cX12_writeZones 13 = .ok (.bipush 8, 2) := by decide +kernel
theorem dX12_writeZones_15 : decode cX12_writeZones 15 = .ok (.if_icmp .ge 82, 3) := by decide +kernel
theorem dX12_writeZones_18 : decode cX12_writeZones 18 = .ok (.iload_n 1, 1) := by decide +kernel
theorem dX12_writeZones_19 : decode cX12_writeZones 19 = .ok (.ifCond .le 9, 3) := by decide +kernel
theorem dX12_writeZones_22 : decode cX12_writeZones 22 = .ok (.aload_n 0, 1) := by decide +kernel
theorem dX12_writeZones_23 : decode cX12_writeZones 23 = .ok (.bipush 32, 2) := by decide +kernel
theorem dX12_writeZones_25 : decode cX12_writeZones 25 = .ok (.invokevirtual 286, 3) := by decide +kernel
theorem dX12_writeZones_28 : decode cX12_writeZones 28 = .ok (.aload_n 0, 1) := by decide +kernel
theorem dX12_writeZones_29 : decode cX12_writeZones 29 = .ok (.aload_n 0, 1) := by decide +kernel
theorem dX12_writeZones_30 : decode cX12_writeZones 30 = .ok (.getfield 7, 3) := by decide +kernel
theorem dX12_writeZones_33 : decode cX12_writeZones 33 = .ok (.bipush 31, 2) := by decide +kernel
theorem dX12_writeZones_35 : decode cX12_writeZones 35 = .ok (.iload_n 1, 1) := by decide +kernel
theorem dX12_writeZones_36 : decode cX12_writeZones 36 = .ok (.iadd, 1) := by decide +kernel
theorem dX12_writeZones_37 : decode cX12_writeZones 37 = .ok (.iaload, 1) := by decide +kernel
theorem dX12_writeZones_38 : decode cX12_writeZones 38 = .ok (.invokevirtual 290, 3) := by decide +kernel
theorem dX12_writeZones_41 : decode cX12_writeZones 41 = .ok (.iconst 0, 1) := by decide +kernel
theorem dX12_writeZones_42 : decode cX12_writeZones 42 = .ok (.istore_n 2, 1) := by decide +kernel
theorem dX12_writeZones_43 : decode cX12_writeZones 43 = .ok (.iload_n 2, 1) := by decide +kernel
theorem dX12_writeZones_44 : decode cX12_writeZones 44 = .ok (.aload_n 0, 1) := by decide +kernel
theorem dX12_writeZones_45 : decode cX12_writeZones 45 = .ok (.getfield 7, 3) := by decide +kernel
theorem dX12_writeZones_48 : decode cX12_writeZones 48 = .ok (.bipush 10, 2) := by decide +kernel
theorem dX12_writeZones_50 : decode cX12_writeZones 50 = .ok (.iaload, 1) := by decide +kernel
theorem dX12_writeZones_51 : decode cX12_writeZones 51 = .ok (.if_icmp .ge 40, 3) := by decide +kernel
theorem dX12_writeZones_54 : decode cX12_writeZones 54 = .ok (.aload_n 0, 1) := by decide +kernel
theorem dX12_writeZones_55 : decode cX12_writeZones 55 = .ok (.iload_n 2, 1) := by decide +kernel
theorem dX12_writeZones_56 : decode cX12_writeZones 56 = .ok (.iconst 0, 1) := by decide +kernel
theorem dX12_writeZones_57 : decode cX12_writeZones 57 = .ok (.invokevirtual 84, 3) := by decide +kernel
theorem dX12_writeZones_60 : decode cX12_writeZones 60 = .ok (.iload_n 1, 1) := by decide +kernel
theorem dX12_writeZones_61 : decode cX12_writeZones 61 = .ok (.if_icmp .ne 24, 3) := by decide +kernel
theorem dX12_writeZones_64 : decode cX12_writeZones 64 = .ok (.aload_n 0, 1) := by decide +kernel
theorem dX12_writeZones_65 : decode cX12_writeZones 65 = .ok (.aload_n 0, 1) := by decide +kernel
theorem dX12_writeZones_66 : decode cX12_writeZones 66 = .ok (.iload_n 2, 1) := by decide +kernel
theorem dX12_writeZones_67 : decode cX12_writeZones 67 = .ok (.iconst 1, 1) := by decide +kernel
theorem dX12_writeZones_68 : decode cX12_writeZones 68 = .ok (.invokevirtual 84, 3) := by decide +kernel
theorem dX12_writeZones_71 : decode cX12_writeZones 71 = .ok (.iconst 1, 1) := by decide +kernel
theorem dX12_writeZones_72 : decode cX12_writeZones 72 = .ok (.if_icmp .ne 8, 3) := by decide +kernel
theorem dX12_writeZones_75 : decode cX12_writeZones 75 = .ok (.bipush 62, 2) := by decide +kernel
theorem dX12_writeZones_77 : decode cX12_writeZones 77 = .ok (.goto 5, 3) := by decide +kernel
theorem dX12_writeZones_80 : decode cX12_writeZones 80 = .ok (.bipush 60, 2) := by decide +kernel
theorem dX12_writeZones_82 : decode cX12_writeZones 82 = .ok (.invokevirtual 286, 3) := by decide +kernel
theorem dX12_writeZones_85 : decode cX12_writeZones 85 = .ok (.iinc 2 1, 3) := by decide +kernel
theorem dX12_writeZones_88 : decode cX12_writeZones 88 = .ok (.goto (-45), 3) := by decide +kernel
theorem dX12_writeZones_91 : decode cX12_writeZones 91 = .ok (.iinc 1 1, 3) := by decide +kernel
theorem dX12_writeZones_94 : decode cX12_writeZones 94 = .ok (.goto (-82), 3) := by decide +kernel
theorem dX12_writeZones_97 : decode cX12_writeZones 97 = .ok (.aload_n 0, 1) := by decide +kernel
theorem dX12_writeZones_98 : decode cX12_writeZones 98 = .ok (.getfield 283, 3) := by decide +kernel
theorem dX12_writeZones_101 : decode cX12_writeZones 101 = .ok (.ireturn, 1) := by decide +kernel
theorem dX12_writeLog_0 : decode cX12_writeLog 0 = .ok (.aload_n 0, 1) := by decide +kernel
theorem dX12_writeLog_1 : decode cX12_writeLog 1 = .ok (.iconst 0, 1) := by decide +kernel
theorem dX12_writeLog_2 : decode cX12_writeLog 2 = .ok (.putfield 41, 3) := by decide +kernel
theorem dX12_writeLog_5 : decode cX12_writeLog 5 = .ok (.aload_n 0, 1) := by decide +kernel
theorem dX12_writeLog_6 : decode cX12_writeLog 6 = .ok (.iconst 0, 1) := by decide +kernel
theorem dX12_writeLog_7 : decode cX12_writeLog 7 = .ok (.putfield 283, 3) := by decide +kernel
theorem dX12_writeLog_10 : decode cX12_writeLog 10 = .ok (.iconst 0, 1) := by decide +kernel
theorem dX12_writeLog_11 : decode cX12_writeLog 11 = .ok (.istore_n 1, 1) := by decide +kernel
theorem dX12_writeLog_12 : decode cX12_writeLog 12 = .ok (.iload_n 1, 1) := by decide +kernel
theorem dX12_writeLog_13 : decode cX12_writeLog 13 = .ok (.aload_n 0, 1) := by decide +kernel
theorem dX12_writeLog_14 : decode cX12_writeLog 14 = .ok (.getfield 7, 3) := by decide +kernel
theorem dX12_writeLog_17 : decode cX12_writeLog 17 = .ok (.bipush 14, 2) := by decide +kernel
theorem dX12_writeLog_19 : decode cX12_writeLog 19 = .ok (.iaload, 1) := by decide +kernel
theorem dX12_writeLog_20 : decode cX12_writeLog 20 = .ok (.if_icmp .ge 68, 3) := by decide +kernel
theorem dX12_writeLog_23 : decode cX12_writeLog 23 = .ok (.iload_n 1, 1) := by decide +kernel
theorem dX12_writeLog_24 : decode cX12_writeLog 24 = .ok (.ifCond .le 9, 3) := by decide +kernel
theorem dX12_writeLog_27 : decode cX12_writeLog 27 = .ok (.aload_n 0, 1) := by decide +kernel
theorem dX12_writeLog_28 : decode cX12_writeLog 28 = .ok (.bipush 32, 2) := by decide +kernel
theorem dX12_writeLog_30 : decode cX12_writeLog 30 = .ok (.invokevirtual 286, 3) := by decide +kernel
theorem dX12_writeLog_33 : decode cX12_writeLog 33 = .ok (.aload_n 0, 1) := by decide +kernel
theorem dX12_writeLog_34 : decode cX12_writeLog 34 = .ok (.aload_n 0, 1) := by decide +kernel
theorem dX12_writeLog_35 : decode cX12_writeLog 35 = .ok (.getfield 7, 3) := by decide +kernel
theorem dX12_writeLog_38 : decode cX12_writeLog 38 = .ok (.bipush 56, 2) := by decide +kernel
theorem dX12_writeLog_40 : decode cX12_writeLog 40 = .ok (.iconst 3, 1) := by decide +kernel
theorem dX12_writeLog_41 : decode cX12_writeLog 41 = .ok (.iload_n 1, 1) := by decide +kernel
theorem dX12_writeLog_42 : decode cX12_writeLog 42 = .ok (.imul, 1) := by decide +kernel
theorem dX12_writeLog_43 : decode cX12_writeLog 43 = .ok (.iadd, 1) := by decide +kernel
theorem dX12_writeLog_44 : decode cX12_writeLog 44 = .ok (.iaload, 1) := by decide +kernel
theorem dX12_writeLog_45 : decode cX12_writeLog 45 = .ok (.invokevirtual 290, 3) := by decide +kernel
theorem dX12_writeLog_48 : decode cX12_writeLog 48 = .ok (.aload_n 0, 1) := by decide +kernel
theorem dX12_writeLog_49 : decode cX12_writeLog 49 = .ok (.aload_n 0, 1) := by decide +kernel
theorem dX12_writeLog_50 : decode cX12_writeLog 50 = .ok (.getfield 7, 3) := by decide +kernel
theorem dX12_writeLog_53 : decode cX12_writeLog 53 = .ok (.bipush 56, 2) := by decide +kernel
theorem dX12_writeLog_55 : decode cX12_writeLog 55 = .ok (.iconst 3, 1) := by decide +kernel
theorem dX12_writeLog_56 : decode cX12_writeLog 56 = .ok (.iload_n 1, 1) := by decide +kernel
theorem dX12_writeLog_57 : decode cX12_writeLog 57 = .ok (.imul, 1) := by decide +kernel
theorem dX12_writeLog_58 : decode cX12_writeLog 58 = .ok (.iadd, 1) := by decide +kernel
theorem dX12_writeLog_59 : decode cX12_writeLog 59 = .ok (.iconst 1, 1) := by decide +kernel
theorem dX12_writeLog_60 : decode cX12_writeLog 60 = .ok (.iadd, 1) := by decide +kernel
theorem dX12_writeLog_61 : decode cX12_writeLog 61 = .ok (.iaload, 1) := by decide +kernel
theorem dX12_writeLog_62 : decode cX12_writeLog 62 = .ok (.invokevirtual 286, 3) := by decide +kernel
theorem dX12_writeLog_65 : decode cX12_writeLog 65 = .ok (.aload_n 0, 1) := by decide +kernel
theorem dX12_writeLog_66 : decode cX12_writeLog 66 = .ok (.aload_n 0, 1) := by decide +kernel
theorem dX12_writeLog_67 : decode cX12_writeLog 67 = .ok (.getfield 7, 3) := by decide +kernel
theorem dX12_writeLog_70 : decode cX12_writeLog 70 = .ok (.bipush 56, 2) := by decide +kernel
theorem dX12_writeLog_72 : decode cX12_writeLog 72 = .ok (.iconst 3, 1) := by decide +kernel
theorem dX12_writeLog_73 : decode cX12_writeLog 73 = .ok (.iload_n 1, 1) := by decide +kernel
theorem dX12_writeLog_74 : decode cX12_writeLog 74 = .ok (.imul, 1) := by decide +kernel
theorem dX12_writeLog_75 : decode cX12_writeLog 75 = .ok (.iadd, 1) := by decide +kernel
theorem dX12_writeLog_76 : decode cX12_writeLog 76 = .ok (.iconst 2, 1) := by decide +kernel
theorem dX12_writeLog_77 : decode cX12_writeLog 77 = .ok (.iadd, 1) := by decide +kernel
theorem dX12_writeLog_78 : decode cX12_writeLog 78 = .ok (.iaload, 1) := by decide +kernel
theorem dX12_writeLog_79 : decode cX12_writeLog 79 = .ok (.invokevirtual 290, 3) := by decide +kernel
theorem dX12_writeLog_82 : decode cX12_writeLog 82 = .ok (.iinc 1 1, 3) := by decide +kernel
theorem dX12_writeLog_85 : decode cX12_writeLog 85 = .ok (.goto (-73), 3) := by decide +kernel
theorem dX12_writeLog_88 : decode cX12_writeLog 88 = .ok (.aload_n 0, 1) := by decide +kernel
theorem dX12_writeLog_89 : decode cX12_writeLog 89 = .ok (.getfield 283, 3) := by decide +kernel
theorem dX12_writeLog_92 : decode cX12_writeLog 92 = .ok (.ireturn, 1) := by decide +kernel
theorem dX12_outputChar_0 : decode cX12_outputChar 0 = .ok (.aload_n 0, 1) := by decide +kernel
theorem dX12_outputChar_1 : decode cX12_outputChar 1 = .ok (.iload_n 1, 1) := by decide +kernel
theorem dX12_outputChar_2 : decode cX12_outputChar 2 = .ok (.iconst 0, 1) := by decide +kernel
theorem dX12_outputChar_3 : decode cX12_outputChar 3 = .ok (.aload_n 0, 1) := by decide +kernel
theorem dX12_outputChar_4 : decode cX12_outputChar 4 = .ok (.getfield 283, 3) := by decide +kernel
theorem dX12_outputChar_7 : decode cX12_outputChar 7 = .ok (.iconst 1, 1) := by decide +kernel
theorem dX12_outputChar_8 : decode cX12_outputChar 8 = .ok (.isub, 1) := by decide +kernel
theorem dX12_outputChar_9 : decode cX12_outputChar 9 = .ok (.invokestatic 66, 3) := by decide +kernel
theorem dX12_outputChar_12 : decode cX12_outputChar 12 = .ok (.ifCond .eq 7, 3) := by decide +kernel
theorem dX12_outputChar_15 : decode cX12_outputChar 15 = .ok (.iconst 0, 1) := by decide +kernel
theorem dX12_outputChar_16 : decode cX12_outputChar 16 = .ok (.goto 4, 3) := by decide +kernel
theorem dX12_outputChar_19 : decode cX12_outputChar 19 = .ok (.iconst 1, 1) := by decide +kernel
theorem dX12_outputChar_20 : decode cX12_outputChar 20 = .ok (.putfield 41, 3) := by decide +kernel
theorem dX12_outputChar_23 : decode cX12_outputChar 23 = .ok (.aload_n 0, 1) := by decide +kernel
theorem dX12_outputChar_24 : decode cX12_outputChar 24 = .ok (.getfield 41, 3) := by decide +kernel
theorem dX12_outputChar_27 : decode cX12_outputChar 27 = .ok (.ifCond .le 7, 3) := by decide +kernel
theorem dX12_outputChar_30 : decode cX12_outputChar 30 = .ok (.iconst 0, 1) := by decide +kernel
theorem dX12_outputChar_31 : decode cX12_outputChar 31 = .ok (.goto 10, 3) := by decide +kernel
theorem dX12_outputChar_34 : decode cX12_outputChar 34 = .ok (.aload_n 0, 1) := by decide +kernel
theorem dX12_outputChar_35 : decode cX12_outputChar 35 = .ok (.getfield 31, 3) := by decide +kernel
theorem dX12_outputChar_38 : decode cX12_outputChar 38 = .ok (.iload_n 1, 1) := by decide +kernel
theorem dX12_outputChar_39 : decode cX12_outputChar 39 = .ok (.iaload, 1) := by decide +kernel
theorem dX12_outputChar_40 : decode cX12_outputChar 40 = .ok (.i2c, 1) := by decide +kernel
theorem dX12_outputChar_41 : decode cX12_outputChar 41 = .ok (.ireturn, 1) := by decide +kernel
theorem dX12_undoCount_0 : decode cX12_undoCount 0 = .ok (.aload_n 0, 1) := by decide +kernel
theorem dX12_undoCount_1 : decode cX12_undoCount 1 = .ok (.iconst 0, 1) := by decide +kernel
theorem dX12_undoCount_2 : decode cX12_undoCount 2 = .ok (.putfield 41, 3) := by decide +kernel
theorem dX12_undoCount_5 : decode cX12_undoCount 5 = .ok (.aload_n 0, 1) := by decide +kernel
theorem dX12_undoCount_6 : decode cX12_undoCount 6 = .ok (.getfield 44, 3) := by decide +kernel
theorem dX12_undoCount_9 : decode cX12_undoCount 9 = .ok (.ireturn, 1) := by decide +kernel
theorem dX12_undo_0 : decode cX12_undo 0 = .ok (.aload_n 0, 1) := by decide +kernel
theorem dX12_undo_1 : decode cX12_undo 1 = .ok (.iconst 0, 1) := by decide +kernel
theorem dX12_undo_2 : decode cX12_undo 2 = .ok (.putfield 41, 3) := by decide +kernel
theorem dX12_undo_5 : decode cX12_undo 5 = .ok (.aload_n 0, 1) := by decide +kernel
theorem dX12_undo_6 : decode cX12_undo 6 = .ok (.getfield 44, 3) := by decide +kernel
theorem dX12_undo_9 : decode cX12_undo 9 = .ok (.ifCond .ne 9, 3) := by decide +kernel
theorem dX12_undo_12 : decode cX12_undo 12 = .ok (.aload_n 0, 1) := by decide +kernel
theorem dX12_undo_13 : decode cX12_undo 13 = .ok (.iconst 1, 1) := by decide +kernel
theorem dX12_undo_14 : decode cX12_undo 14 = .ok (.invokevirtual 63, 3) := by decide +kernel
theorem dX12_undo_17 : decode cX12_undo 17 = .ok (.ireturn, 1) := by decide +kernel
theorem dX12_undo_18 : decode cX12_undo 18 = .ok (.aload_n 0, 1) := by decide +kernel
theorem dX12_undo_19 : decode cX12_undo 19 = .ok (.dup, 1) := by decide +kernel
theorem dX12_undo_20 : decode cX12_undo 20 = .ok (.getfield 44, 3) := by decide +kernel
theorem dX12_undo_23 : decode cX12_undo 23 = .ok (.iconst 1, 1) := by decide +kernel
theorem dX12_undo_24 : decode cX12_undo 24 = .ok (.isub, 1) := by decide +kernel
theorem dX12_undo_25 : decode cX12_undo 25 = .ok (.putfield 44, 3) := by decide +kernel
theorem dX12_undo_28 : decode cX12_undo 28 = .ok (.iconst 0, 1) := by decide +kernel
theorem dX12_undo_29 : decode cX12_undo 29 = .ok (.istore_n 1, 1) := by decide +kernel
theorem dX12_undo_30 : decode cX12_undo 30 = .ok (.iload_n 1, 1) := by decide +kernel
theorem dX12_undo_31 : decode cX12_undo 31 = .ok (.bipush 92, 2) := by decide +kernel
theorem dX12_undo_33 : decode cX12_undo 33 = .ok (.if_icmp .ge 29, 3) := by decide +kernel
theorem dX12_undo_36 : decode cX12_undo 36 = .ok (.aload_n 0, 1) := by decide +kernel
theorem dX12_undo_37 : decode cX12_undo 37 = .ok (.getfield 7, 3) := by decide +kernel
theorem dX12_undo_40 : decode cX12_undo 40 = .ok (.iload_n 1, 1) := by decide +kernel
theorem dX12_undo_41 : decode cX12_undo 41 = .ok (.aload_n 0, 1) := by decide +kernel
theorem dX12_undo_42 : decode cX12_undo 42 = .ok (.getfield 19, 3) := by decide +kernel
theorem dX12_undo_45 : decode cX12_undo 45 = .ok (.bipush 92, 2) := by decide +kernel
theorem dX12_undo_47 : decode cX12_undo 47 = .ok (.aload_n 0, 1) := by decide +kernel
theorem dX12_undo_48 : decode cX12_undo 48 = .ok (.getfield 44, 3) := by decide +kernel
theorem dX12_undo_51 : decode cX12_undo 51 = .ok (.imul, 1) := by decide +kernel
theorem dX12_undo_52 : decode cX12_undo 52 = .ok (.iload_n 1, 1) := by decide +kernel
theorem dX12_undo_53 : decode cX12_undo 53 = .ok (.iadd, 1) := by decide +kernel
theorem dX12_undo_54 : decode cX12_undo 54 = .ok (.iaload, 1) := by decide +kernel
theorem dX12_undo_55 : decode cX12_undo 55 = .ok (.iastore, 1) := by decide +kernel
theorem dX12_undo_56 : decode cX12_undo 56 = .ok (.iinc 1 1, 3) := by decide +kernel
theorem dX12_undo_59 : decode cX12_undo 59 = .ok (.goto (-29), 3) := by decide +kernel
theorem dX12_undo_62 : decode cX12_undo 62 = .ok (.aload_n 0, 1) := by decide +kernel
theorem dX12_undo_63 : decode cX12_undo 63 = .ok (.getfield 44, 3) := by decide +kernel
theorem dX12_undo_66 : decode cX12_undo 66 = .ok (.ireturn, 1) := by decide +kernel
theorem dX12_save_0 : decode cX12_save 0 = .ok (.aload_n 0, 1) := by decide +kernel
theorem dX12_save_1 : decode cX12_save 1 = .ok (.iconst 0, 1) := by decide +kernel
theorem dX12_save_2 : decode cX12_save 2 = .ok (.putfield 41, 3) := by decide +kernel
theorem dX12_save_5 : decode cX12_save 5 = .ok (.iconst 0, 1) := by decide +kernel
theorem dX12_save_6 : decode cX12_save 6 = .ok (.istore_n 1, 1) := by decide +kernel
theorem dX12_save_7 : decode cX12_save 7 = .ok (.iload_n 1, 1) := by decide +kernel
theorem dX12_save_8 : decode cX12_save 8 = .ok (.bipush 92, 2) := by decide +kernel
theorem dX12_save_10 : decode cX12_save 10 = .ok (.if_icmp .ge 21, 3) := by decide +kernel
theorem dX12_save_13 : decode cX12_save 13 = .ok (.aload_n 0, 1) := by decide +kernel
theorem dX12_save_14 : decode cX12_save 14 = .ok (.getfield 16, 3) := by decide +kernel
theorem dX12_save_17 : decode cX12_save 17 = .ok (.iload_n 1, 1) := by decide +kernel
theorem dX12_save_18 : decode cX12_save 18 = .ok (.aload_n 0, 1) := by decide +kernel
theorem dX12_save_19 : decode cX12_save 19 = .ok (.getfield 7, 3) := by decide +kernel
theorem dX12_save_22 : decode cX12_save 22 = .ok (.iload_n 1, 1) := by decide +kernel
theorem dX12_save_23 : decode cX12_save 23 = .ok (.iaload, 1) := by decide +kernel
theorem dX12_save_24 : decode cX12_save 24 = .ok (.iastore, 1) := by decide +kernel
theorem dX12_save_25 : decode cX12_save 25 = .ok (.iinc 1 1, 3) := by decide +kernel
theorem dX12_save_28 : decode cX12_save 28 = .ok (.goto (-21), 3) := by decide +kernel
theorem dX12_save_31 : decode cX12_save 31 = .ok (.aload_n 0, 1) := by decide +kernel
theorem dX12_save_32 : decode cX12_save 32 = .ok (.iconst 1, 1) := by decide +kernel
theorem dX12_save_33 : decode cX12_save 33 = .ok (.putfield 293, 3) := by decide +kernel
theorem dX12_save_36 : decode cX12_save 36 = .ok (.aload_n 0, 1) := by decide +kernel
theorem dX12_save_37 : decode cX12_save 37 = .ok (.getfield 7, 3) := by decide +kernel
theorem dX12_save_40 : decode cX12_save 40 = .ok (.iconst 0, 1) := by decide +kernel
theorem dX12_save_41 : decode cX12_save 41 = .ok (.iaload, 1) := by decide +kernel
theorem dX12_save_42 : decode cX12_save 42 = .ok (.ireturn, 1) := by decide +kernel
theorem dX12_restore_0 : decode cX12_restore 0 = .ok (.aload_n 0, 1) := by decide +kernel
theorem dX12_restore_1 : decode cX12_restore 1 = .ok (.iconst 0, 1) := by decide +kernel
theorem dX12_restore_2 : decode cX12_restore 2 = .ok (.putfield 41, 3) := by decide +kernel
theorem dX12_restore_5 : decode cX12_restore 5 = .ok (.aload_n 0, 1) := by decide +kernel
theorem dX12_restore_6 : decode cX12_restore 6 = .ok (.getfield 293, 3) := by decide +kernel
theorem dX12_restore_9 : decode cX12_restore 9 = .ok (.ifCond .ne 9, 3) := by decide +kernel
theorem dX12_restore_12 : decode cX12_restore 12 = .ok (.aload_n 0, 1) := by decide +kernel
theorem dX12_restore_13 : decode cX12_restore 13 = .ok (.iconst 1, 1) := by decide +kernel
theorem dX12_restore_14 : decode cX12_restore 14 = .ok (.invokevirtual 63, 3) := by decide +kernel
theorem dX12_restore_17 : decode cX12_restore 17 = .ok (.ireturn, 1) := by decide +kernel
theorem dX12_restore_18 : decode cX12_restore 18 = .ok (.iconst 0, 1) := by decide +kernel
theorem dX12_restore_19 : decode cX12_restore 19 = .ok (.istore_n 1, 1) := by decide +kernel
theorem dX12_restore_20 : decode cX12_restore 20 = .ok (.iload_n 1, 1) := by decide +kernel
theorem dX12_restore_21 : decode cX12_restore 21 = .ok (.bipush 92, 2) := by decide +kernel
theorem dX12_restore_23 : decode cX12_restore 23 = .ok (.if_icmp .ge 21, 3) := by decide +kernel
theorem dX12_restore_26 : decode cX12_restore 26 = .ok (.aload_n 0, 1) := by decide +kernel
theorem dX12_restore_27 : decode cX12_restore 27 = .ok (.getfield 7, 3) := by decide +kernel
theorem dX12_restore_30 : decode cX12_restore 30 = .ok (.iload_n 1, 1) := by decide +kernel
theorem dX12_restore_31 : decode cX12_restore 31 = .ok (.aload_n 0, 1) := by decide +kernel
theorem dX12_restore_32 : decode cX12_restore 32 = .ok (.getfield 16, 3) := by decide +kernel
theorem dX12_restore_35 : decode cX12_restore 35 = .ok (.iload_n 1, 1) := by decide +kernel
theorem dX12_restore_36 : decode cX12_restore 36 = .ok (.iaload, 1) := by decide +kernel
theorem dX12_restore_37 : decode cX12_restore 37 = .ok (.iastore, 1) := by decide +kernel
theorem dX12_restore_38 : decode cX12_restore 38 = .ok (.iinc 1 1, 3) := by decide +kernel
theorem dX12_restore_41 : decode cX12_restore 41 = .ok (.goto (-21), 3) := by decide +kernel
theorem dX12_restore_44 : decode cX12_restore 44 = .ok (.aload_n 0, 1) := by decide +kernel
theorem dX12_restore_45 : decode cX12_restore 45 = .ok (.iconst 0, 1) := by decide +kernel
theorem dX12_restore_46 : decode cX12_restore 46 = .ok (.putfield 44, 3) := by decide +kernel
theorem dX12_restore_49 : decode cX12_restore 49 = .ok (.aload_n 0, 1) := by decide +kernel
theorem dX12_restore_50 : decode cX12_restore 50 = .ok (.getfield 7, 3) := by decide +kernel
theorem dX12_restore_53 : decode cX12_restore 53 = .ok (.iconst 0, 1) := by decide +kernel
theorem dX12_restore_54 : decode cX12_restore 54 = .ok (.iaload, 1) := by decide +kernel
theorem dX12_restore_55 : decode cX12_restore 55 = .ok (.ireturn, 1) := by decide +kernel
theorem dJx00060_init_a7421_0 : decode cJx00060_init_a7421 0 = .ok (.aload_n 0, 1) := by decide +kernel
theorem dJx00060_init_a7421_1 : decode cJx00060_init_a7421 1 = .ok (.aload_n 1, 1) := by decide +kernel
theorem dJx00060_init_a7421_2 : decode cJx00060_init_a7421 2 = .ok (.invokespecial 7, 3) := by decide +kernel
theorem dJx00060_init_a7421_5 : decode cJx00060_init_a7421 5 = .ok (.return_, 1) := by decide +kernel
theorem dJx29ce0_ordinal_8abf5_0 : decode cJx29ce0_ordinal_8abf5 0 = .ok (.aload_n 0, 1) := by decide +kernel
theorem dJx29ce0_ordinal_8abf5_1 : decode cJx29ce0_ordinal_8abf5 1 = .ok (.getfield 7, 3) := by decide +kernel
theorem dJx29ce0_ordinal_8abf5_4 : decode cJx29ce0_ordinal_8abf5 4 = .ok (.ireturn, 1) := by decide +kernel
theorem dJ6_bitCount_0f7a4_0 : decode cJ6_bitCount_0f7a4 0 = .ok (.iload_n 0, 1) := by decide +kernel
theorem dJ6_bitCount_0f7a4_1 : decode cJ6_bitCount_0f7a4 1 = .ok (.iload_n 0, 1) := by decide +kernel
theorem dJ6_bitCount_0f7a4_2 : decode cJ6_bitCount_0f7a4 2 = .ok (.iconst 1, 1) := by decide +kernel
theorem dJ6_bitCount_0f7a4_3 : decode cJ6_bitCount_0f7a4 3 = .ok (.iushr, 1) := by decide +kernel
theorem dJ6_bitCount_0f7a4_4 : decode cJ6_bitCount_0f7a4 4 = .ok (.ldc_w 265, 3) := by decide +kernel
theorem dJ6_bitCount_0f7a4_7 : decode cJ6_bitCount_0f7a4 7 = .ok (.iand, 1) := by decide +kernel
theorem dJ6_bitCount_0f7a4_8 : decode cJ6_bitCount_0f7a4 8 = .ok (.isub, 1) := by decide +kernel
theorem dJ6_bitCount_0f7a4_9 : decode cJ6_bitCount_0f7a4 9 = .ok (.istore_n 0, 1) := by decide +kernel
theorem dJ6_bitCount_0f7a4_10 : decode cJ6_bitCount_0f7a4 10 = .ok (.iload_n 0, 1) := by decide +kernel
theorem dJ6_bitCount_0f7a4_11 : decode cJ6_bitCount_0f7a4 11 = .ok (.ldc_w 266, 3) := by decide +kernel
theorem dJ6_bitCount_0f7a4_14 : decode cJ6_bitCount_0f7a4 14 = .ok (.iand, 1) := by decide +kernel
theorem dJ6_bitCount_0f7a4_15 : decode cJ6_bitCount_0f7a4 15 = .ok (.iload_n 0, 1) := by decide +kernel
theorem dJ6_bitCount_0f7a4_16 : decode cJ6_bitCount_0f7a4 16 = .ok (.iconst 2, 1) := by decide +kernel
theorem dJ6_bitCount_0f7a4_17 : decode cJ6_bitCount_0f7a4 17 = .ok (.iushr, 1) := by decide +kernel
theorem dJ6_bitCount_0f7a4_18 : decode cJ6_bitCount_0f7a4 18 = .ok (.ldc_w 266, 3) := by decide +kernel
theorem dJ6_bitCount_0f7a4_21 : decode cJ6_bitCount_0f7a4 21 = .ok (.iand, 1) := by decide +kernel
theorem dJ6_bitCount_0f7a4_22 : decode cJ6_bitCount_0f7a4 22 = .ok (.iadd, 1) := by decide +kernel
theorem dJ6_bitCount_0f7a4_23 : decode cJ6_bitCount_0f7a4 23 = .ok (.istore_n 0, 1) := by decide +kernel
theorem dJ6_bitCount_0f7a4_24 : decode cJ6_bitCount_0f7a4 24 = .ok (.iload_n 0, 1) := by decide +kernel
theorem dJ6_bitCount_0f7a4_25 : decode cJ6_bitCount_0f7a4 25 = .ok (.iload_n 0, 1) := by decide +kernel
theorem dJ6_bitCount_0f7a4_26 : decode cJ6_bitCount_0f7a4 26 = .ok (.iconst 4, 1) := by decide +kernel
theorem dJ6_bitCount_0f7a4_27 : decode cJ6_bitCount_0f7a4 27 = .ok (.iushr, 1) := by decide +kernel
theorem dJ6_bitCount_0f7a4_28 : decode cJ6_bitCount_0f7a4 28 = .ok (.iadd, 1) := by decide +kernel
theorem dJ6_bitCount_0f7a4_29 : decode cJ6_bitCount_0f7a4 29 = .ok (.ldc_w 267, 3) := by decide +kernel
theorem dJ6_bitCount_0f7a4_32 : decode cJ6_bitCount_0f7a4 32 = .ok (.iand, 1) := by decide +kernel
theorem dJ6_bitCount_0f7a4_33 : decode cJ6_bitCount_0f7a4 33 = .ok (.istore_n 0, 1) := by decide +kernel
theorem dJ6_bitCount_0f7a4_34 : decode cJ6_bitCount_0f7a4 34 = .ok (.iload_n 0, 1) := by decide +kernel
theorem dJ6_bitCount_0f7a4_35 : decode cJ6_bitCount_0f7a4 35 = .ok (.iload_n 0, 1) := by decide +kernel
theorem dJ6_bitCount_0f7a4_36 : decode cJ6_bitCount_0f7a4 36 = .ok (.bipush 8, 2) := by decide +kernel
theorem dJ6_bitCount_0f7a4_38 : decode cJ6_bitCount_0f7a4 38 = .ok (.iushr, 1) := by decide +kernel
theorem dJ6_bitCount_0f7a4_39 : decode cJ6_bitCount_0f7a4 39 = .ok (.iadd, 1) := by decide +kernel
theorem dJ6_bitCount_0f7a4_40 : decode cJ6_bitCount_0f7a4 40 = .ok (.istore_n 0, 1) := by decide +kernel
theorem dJ6_bitCount_0f7a4_41 : decode cJ6_bitCount_0f7a4 41 = .ok (.iload_n 0, 1) := by decide +kernel
theorem dJ6_bitCount_0f7a4_42 : decode cJ6_bitCount_0f7a4 42 = .ok (.iload_n 0, 1) := by decide +kernel
theorem dJ6_bitCount_0f7a4_43 : decode cJ6_bitCount_0f7a4 43 = .ok (.bipush 16, 2) := by decide +kernel
theorem dJ6_bitCount_0f7a4_45 : decode cJ6_bitCount_0f7a4 45 = .ok (.iushr, 1) := by decide +kernel
theorem dJ6_bitCount_0f7a4_46 : decode cJ6_bitCount_0f7a4 46 = .ok (.iadd, 1) := by decide +kernel
theorem dJ6_bitCount_0f7a4_47 : decode cJ6_bitCount_0f7a4 47 = .ok (.istore_n 0, 1) := by decide +kernel
theorem dJ6_bitCount_0f7a4_48 : decode cJ6_bitCount_0f7a4 48 = .ok (.iload_n 0, 1) := by decide +kernel
theorem dJ6_bitCount_0f7a4_49 : decode cJ6_bitCount_0f7a4 49 = .ok (.bipush 63, 2) := by decide +kernel
theorem dJ6_bitCount_0f7a4_51 : decode cJ6_bitCount_0f7a4 51 = .ok (.iand, 1) := by decide +kernel
theorem dJ6_bitCount_0f7a4_52 : decode cJ6_bitCount_0f7a4 52 = .ok (.ireturn, 1) := by decide +kernel
theorem dJ9_floorMod_7cf53_0 : decode cJ9_floorMod_7cf53 0 = .ok (.iload_n 0, 1) := by decide +kernel
theorem dJ9_floorMod_7cf53_1 : decode cJ9_floorMod_7cf53 1 = .ok (.iload_n 1, 1) := by decide +kernel
theorem dJ9_floorMod_7cf53_2 : decode cJ9_floorMod_7cf53 2 = .ok (.irem, 1) := by decide +kernel
theorem dJ9_floorMod_7cf53_3 : decode cJ9_floorMod_7cf53 3 = .ok (.istore_n 2, 1) := by decide +kernel
theorem dJ9_floorMod_7cf53_4 : decode cJ9_floorMod_7cf53 4 = .ok (.iload_n 0, 1) := by decide +kernel
theorem dJ9_floorMod_7cf53_5 : decode cJ9_floorMod_7cf53 5 = .ok (.iload_n 1, 1) := by decide +kernel
theorem dJ9_floorMod_7cf53_6 : decode cJ9_floorMod_7cf53 6 = .ok (.ixor, 1) := by decide +kernel
theorem dJ9_floorMod_7cf53_7 : decode cJ9_floorMod_7cf53 7 = .ok (.ifCond .ge 11, 3) := by decide +kernel
theorem dJ9_floorMod_7cf53_10 : decode cJ9_floorMod_7cf53 10 = .ok (.iload_n 2, 1) := by decide +kernel
theorem dJ9_floorMod_7cf53_11 : decode cJ9_floorMod_7cf53 11 = .ok (.ifCond .eq 7, 3) := by decide +kernel
theorem dJ9_floorMod_7cf53_14 : decode cJ9_floorMod_7cf53 14 = .ok (.iload_n 2, 1) := by decide +kernel
theorem dJ9_floorMod_7cf53_15 : decode cJ9_floorMod_7cf53 15 = .ok (.iload_n 1, 1) := by decide +kernel
theorem dJ9_floorMod_7cf53_16 : decode cJ9_floorMod_7cf53 16 = .ok (.iadd, 1) := by decide +kernel
theorem dJ9_floorMod_7cf53_17 : decode cJ9_floorMod_7cf53 17 = .ok (.ireturn, 1) := by decide +kernel
theorem dJ9_floorMod_7cf53_18 : decode cJ9_floorMod_7cf53 18 = .ok (.iload_n 2, 1) := by decide +kernel
theorem dJ9_floorMod_7cf53_19 : decode cJ9_floorMod_7cf53 19 = .ok (.ireturn, 1) := by decide +kernel
theorem dJ9_max_7cf53_0 : decode cJ9_max_7cf53 0 = .ok (.iload_n 0, 1) := by decide +kernel
theorem dJ9_max_7cf53_1 : decode cJ9_max_7cf53 1 = .ok (.iload_n 1, 1) := by decide +kernel
theorem dJ9_max_7cf53_2 : decode cJ9_max_7cf53 2 = .ok (.if_icmp .lt 7, 3) := by decide +kernel
theorem dJ9_max_7cf53_5 : decode cJ9_max_7cf53 5 = .ok (.iload_n 0, 1) := by decide +kernel
theorem dJ9_max_7cf53_6 : decode cJ9_max_7cf53 6 = .ok (.goto 4, 3) := by decide +kernel
theorem dJ9_max_7cf53_9 : decode cJ9_max_7cf53 9 = .ok (.iload_n 1, 1) := by decide +kernel
theorem dJ9_max_7cf53_10 : decode cJ9_max_7cf53 10 = .ok (.ireturn, 1) := by decide +kernel
theorem dJ9_min_7cf53_0 : decode cJ9_min_7cf53 0 = .ok (.iload_n 0, 1) := by decide +kernel
theorem dJ9_min_7cf53_1 : decode cJ9_min_7cf53 1 = .ok (.iload_n 1, 1) := by decide +kernel
theorem dJ9_min_7cf53_2 : decode cJ9_min_7cf53 2 = .ok (.if_icmp .gt 7, 3) := by decide +kernel
theorem dJ9_min_7cf53_5 : decode cJ9_min_7cf53 5 = .ok (.iload_n 0, 1) := by decide +kernel
theorem dJ9_min_7cf53_6 : decode cJ9_min_7cf53 6 = .ok (.goto 4, 3) := by decide +kernel
theorem dJ9_min_7cf53_9 : decode cJ9_min_7cf53 9 = .ok (.iload_n 1, 1) := by decide +kernel
theorem dJ9_min_7cf53_10 : decode cJ9_min_7cf53 10 = .ok (.ireturn, 1) := by decide +kernel
theorem dJ0_length_8abf5_0 : decode cJ0_length_8abf5 0 = .ok (.aload_n 0, 1) := by decide +kernel
theorem dJ0_length_8abf5_1 : decode cJ0_length_8abf5 1 = .ok (.getfield 9, 3) := by decide +kernel
theorem dJ0_length_8abf5_4 : decode cJ0_length_8abf5 4 = .ok (.arraylength, 1) := by decide +kernel
theorem dJ0_length_8abf5_5 : decode cJ0_length_8abf5 5 = .ok (.aload_n 0, 1) := by decide +kernel
theorem dJ0_length_8abf5_6 : decode cJ0_length_8abf5 6 = .ok (.invokevirtual 335, 3) := by decide +kernel
theorem dJ0_length_8abf5_9 : decode cJ0_length_8abf5 9 = .ok (.ishr, 1) := by decide +kernel
theorem dJ0_length_8abf5_10 : decode cJ0_length_8abf5 10 = .ok (.ireturn, 1) := by decide +kernel
theorem dJ0_charAt_5068e_0 : decode cJ0_charAt_5068e 0 = .ok (.aload_n 0, 1) := by decide +kernel
theorem dJ0_charAt_5068e_1 : decode cJ0_charAt_5068e 1 = .ok (.invokevirtual 492, 3) := by decide +kernel
theorem dJ0_charAt_5068e_4 : decode cJ0_charAt_5068e 4 = .ok (.ifCond .eq 12, 3) := by decide +kernel
theorem dJ0_charAt_5068e_7 : decode cJ0_charAt_5068e 7 = .ok (.aload_n 0, 1) := by decide +kernel
theorem dJ0_charAt_5068e_8 : decode cJ0_charAt_5068e 8 = .ok (.getfield 9, 3) := by decide +kernel
theorem dJ0_charAt_5068e_11 : decode cJ0_charAt_5068e 11 = .ok (.iload_n 1, 1) := by decide +kernel
theorem dJ0_charAt_5068e_12 : decode cJ0_charAt_5068e 12 = .ok (.invokestatic 495, 3) := by decide +kernel
theorem dJ0_charAt_5068e_15 : decode cJ0_charAt_5068e 15 = .ok (.ireturn, 1) := by decide +kernel
theorem dJ0_charAt_5068e_16 : decode cJ0_charAt_5068e 16 = .ok (.aload_n 0, 1) := by decide +kernel
theorem dJ0_charAt_5068e_17 : decode cJ0_charAt_5068e 17 = .ok (.getfield 9, 3) := by decide +kernel
theorem dJ0_charAt_5068e_20 : decode cJ0_charAt_5068e 20 = .ok (.iload_n 1, 1) := by decide +kernel
theorem dJ0_charAt_5068e_21 : decode cJ0_charAt_5068e 21 = .ok (.invokestatic 498, 3) := by decide +kernel
theorem dJ0_charAt_5068e_24 : decode cJ0_charAt_5068e 24 = .ok (.ireturn, 1) := by decide +kernel
theorem dJ0_coder_7d493_0 : decode cJ0_coder_7d493 0 = .ok (.getstatic 38, 3) := by decide +kernel
theorem dJ0_coder_7d493_3 : decode cJ0_coder_7d493 3 = .ok (.ifCond .eq 10, 3) := by decide +kernel
theorem dJ0_coder_7d493_6 : decode cJ0_coder_7d493 6 = .ok (.aload_n 0, 1) := by decide +kernel
theorem dJ0_coder_7d493_7 : decode cJ0_coder_7d493 7 = .ok (.getfield 15, 3) := by decide +kernel
theorem dJ0_coder_7d493_10 : decode cJ0_coder_7d493 10 = .ok (.goto 4, 3) := by decide +kernel
theorem dJ0_coder_7d493_13 : decode cJ0_coder_7d493 13 = .ok (.iconst 1, 1) := by decide +kernel
theorem dJ0_coder_7d493_14 : decode cJ0_coder_7d493 14 = .ok (.ireturn, 1) := by decide +kernel
theorem dJ0_isLatin1_aae02_0 : decode cJ0_isLatin1_aae02 0 = .ok (.getstatic 38, 3) := by decide +kernel
theorem dJ0_isLatin1_aae02_3 : decode cJ0_isLatin1_aae02 3 = .ok (.ifCond .eq 14, 3) := by decide +kernel
theorem dJ0_isLatin1_aae02_6 : decode cJ0_isLatin1_aae02 6 = .ok (.aload_n 0, 1) := by decide +kernel
theorem dJ0_isLatin1_aae02_7 : decode cJ0_isLatin1_aae02 7 = .ok (.getfield 15, 3) := by decide +kernel
theorem dJ0_isLatin1_aae02_10 : decode cJ0_isLatin1_aae02 10 = .ok (.ifCond .ne 7, 3) := by decide +kernel
theorem dJ0_isLatin1_aae02_13 : decode cJ0_isLatin1_aae02 13 = .ok (.iconst 1, 1) := by decide +kernel
theorem dJ0_isLatin1_aae02_14 : decode cJ0_isLatin1_aae02 14 = .ok (.goto 4, 3) := by decide +kernel
theorem dJ0_isLatin1_aae02_17 : decode cJ0_isLatin1_aae02 17 = .ok (.iconst 0, 1) := by decide +kernel
theorem dJ0_isLatin1_aae02_18 : decode cJ0_isLatin1_aae02 18 = .ok (.ireturn, 1) := by decide +kernel
theorem dJ0_checkIndex_df160_0 : decode cJ0_checkIndex_df160 0 = .ok (.iload_n 0, 1) := by decide +kernel
theorem dJ0_checkIndex_df160_1 : decode cJ0_checkIndex_df160 1 = .ok (.iload_n 1, 1) := by decide +kernel
theorem dJ0_checkIndex_df160_2 : decode cJ0_checkIndex_df160 2 = .ok (.getstatic 1053, 3) := by decide +kernel
theorem dJ0_checkIndex_df160_5 : decode cJ0_checkIndex_df160 5 = .ok (.invokestatic 1059, 3) := by decide +kernel
theorem dJ0_checkIndex_df160_8 : decode cJ0_checkIndex_df160 8 = .ok (.pop, 1) := by decide +kernel
theorem dJ0_checkIndex_df160_9 : decode cJ0_checkIndex_df160 9 = .ok (.return_, 1) := by decide +kernel
theorem dJ1_charAt_3b067_0 : decode cJ1_charAt_3b067 0 = .ok (.iload_n 1, 1) := by decide +kernel
theorem dJ1_charAt_3b067_1 : decode cJ1_charAt_3b067 1 = .ok (.aload_n 0, 1) := by decide +kernel
theorem dJ1_charAt_3b067_2 : decode cJ1_charAt_3b067 2 = .ok (.arraylength, 1) := by decide +kernel
theorem dJ1_charAt_3b067_3 : decode cJ1_charAt_3b067 3 = .ok (.invokestatic 9, 3) := by decide +kernel
theorem dJ1_charAt_3b067_6 : decode cJ1_charAt_3b067 6 = .ok (.aload_n 0, 1) := by decide +kernel
theorem dJ1_charAt_3b067_7 : decode cJ1_charAt_3b067 7 = .ok (.iload_n 1, 1) := by decide +kernel
theorem dJ1_charAt_3b067_8 : decode cJ1_charAt_3b067 8 = .ok (.baload, 1) := by decide +kernel
theorem dJ1_charAt_3b067_9 : decode cJ1_charAt_3b067 9 = .ok (.sipush 255, 3) := by decide +kernel
theorem dJ1_charAt_3b067_12 : decode cJ1_charAt_3b067 12 = .ok (.iand, 1) := by decide +kernel
theorem dJ1_charAt_3b067_13 : decode cJ1_charAt_3b067 13 = .ok (.i2c, 1) := by decide +kernel
theorem dJ1_charAt_3b067_14 : decode cJ1_charAt_3b067 14 = .ok (.ireturn, 1) := by decide +kernel
theorem dJ2_getChar_3b067_0 : decode cJ2_getChar_3b067 0 = .ok (.getstatic 44, 3) := by decide +kernel
theorem dJ2_getChar_3b067_3 : decode cJ2_getChar_3b067 3 = .ok (.ifCond .ne 25, 3) := by decide +kernel
theorem dJ2_getChar_3b067_6 : decode cJ2_getChar_3b067 6 = .ok (.iload_n 1, 1) := by decide +kernel
theorem dJ2_getChar_3b067_7 : decode cJ2_getChar_3b067 7 = .ok (.ifCond .lt 11, 3) := by decide +kernel
theorem dJ2_getChar_3b067_10 : decode cJ2_getChar_3b067 10 = .ok (.iload_n 1, 1) := by decide +kernel
theorem dJ2_getChar_3b067_11 : decode cJ2_getChar_3b067 11 = .ok (.aload_n 0, 1) := by decide +kernel
theorem dJ2_getChar_3b067_12 : decode cJ2_getChar_3b067 12 = .ok (.invokestatic 48, 3) := by decide +kernel
theorem dJ2_getChar_3b067_15 : decode cJ2_getChar_3b067 15 = .ok (.if_icmp .lt 13, 3) := by decide +kernel
theorem dJ2_getChar_3b067_18 : decode cJ2_getChar_3b067 18 = .ok (.new 52, 3) := by decide +kernel
theorem dJ2_getChar_3b067_21 : decode cJ2_getChar_3b067 21 = .ok (.dup, 1) := by decide +kernel
theorem dJ2_getChar_3b067_22 : decode cJ2_getChar_3b067 22 = .ok (.ldc 54, 2) := by decide +kernel
theorem dJ2_getChar_3b067_24 : decode cJ2_getChar_3b067 24 = .ok (.invokespecial 56, 3) := by decide +kernel
theorem dJ2_getChar_3b067_27 : decode cJ2_getChar_3b067 27 = .ok (.athrow, 1) := by decide +kernel
theorem dJ2_getChar_3b067_28 : decode cJ2_getChar_3b067 28 = .ok (.iload_n 1, 1) := by decide +kernel
theorem dJ2_getChar_3b067_29 : decode cJ2_getChar_3b067 29 = .ok (.iconst 1, 1) := by decide +kernel
theorem dJ2_getChar_3b067_30 : decode cJ2_getChar_3b067 30 = .ok (.ishl, 1) := by decide +kernel
theorem dJ2_getChar_3b067_31 : decode cJ2_getChar_3b067 31 = .ok (.istore_n 1, 1) := by decide +kernel
theorem dJ2_getChar_3b067_32 : decode cJ2_getChar_3b067 32 = .ok (.aload_n 0, 1) := by decide +kernel
theorem dJ2_getChar_3b067_33 : decode cJ2_getChar_3b067 33 = .ok (.iload_n 1, 1) := by decide +kernel
theorem dJ2_getChar_3b067_34 : decode cJ2_getChar_3b067 34 = .ok (.iinc 1 1, 3) := by decide +kernel
theorem dJ2_getChar_3b067_37 : decode cJ2_getChar_3b067 37 = .ok (.baload, 1) := by decide +kernel
theorem dJ2_getChar_3b067_38 : decode cJ2_getChar_3b067 38 = .ok (.sipush 255, 3) := by decide +kernel
theorem dJ2_getChar_3b067_41 : decode cJ2_getChar_3b067 41 = .ok (.iand, 1) := by decide +kernel
theorem dJ2_getChar_3b067_42 : decode cJ2_getChar_3b067 42 = .ok (.getstatic 59, 3) := by decide +kernel
theorem dJ2_getChar_3b067_45 : decode cJ2_getChar_3b067 45 = .ok (.ishl, 1) := by decide +kernel
theorem dJ2_getChar_3b067_46 : decode cJ2_getChar_3b067 46 = .ok (.aload_n 0, 1) := by decide +kernel
theorem dJ2_getChar_3b067_47 : decode cJ2_getChar_3b067 47 = .ok (.iload_n 1, 1) := by decide +kernel
theorem dJ2_getChar_3b067_48 : decode cJ2_getChar_3b067 48 = .ok (.baload, 1) := by decide +kernel
theorem dJ2_getChar_3b067_49 : decode cJ2_getChar_3b067 49 = .ok (.sipush 255, 3) := by decide +kernel
theorem dJ2_getChar_3b067_52 : decode cJ2_getChar_3b067 52 = .ok (.iand, 1) := by decide +kernel
theorem dJ2_getChar_3b067_53 : decode cJ2_getChar_3b067 53 = .ok (.getstatic 63, 3) := by decide +kernel
theorem dJ2_getChar_3b067_56 : decode cJ2_getChar_3b067 56 = .ok (.ishl, 1) := by decide +kernel
theorem dJ2_getChar_3b067_57 : decode cJ2_getChar_3b067 57 = .ok (.ior, 1) := by decide +kernel
theorem dJ2_getChar_3b067_58 : decode cJ2_getChar_3b067 58 = .ok (.i2c, 1) := by decide +kernel
theorem dJ2_getChar_3b067_59 : decode cJ2_getChar_3b067 59 = .ok (.ireturn, 1) := by decide +kernel
theorem dJ2_length_9d52b_0 : decode cJ2_length_9d52b 0 = .ok (.aload_n 0, 1) := by decide +kernel
theorem dJ2_length_9d52b_1 : decode cJ2_length_9d52b 1 = .ok (.arraylength, 1) := by decide +kernel
theorem dJ2_length_9d52b_2 : decode cJ2_length_9d52b 2 = .ok (.iconst 1, 1) := by decide +kernel
theorem dJ2_length_9d52b_3 : decode cJ2_length_9d52b 3 = .ok (.ishr, 1) := by decide +kernel
theorem dJ2_length_9d52b_4 : decode cJ2_length_9d52b 4 = .ok (.ireturn, 1) := by decide +kernel
theorem dJ2_charAt_3b067_0 : decode cJ2_charAt_3b067 0 = .ok (.iload_n 1, 1) := by decide +kernel
theorem dJ2_charAt_3b067_1 : decode cJ2_charAt_3b067 1 = .ok (.aload_n 0, 1) := by decide +kernel
theorem dJ2_charAt_3b067_2 : decode cJ2_charAt_3b067 2 = .ok (.invokestatic 67, 3) := by decide +kernel
theorem dJ2_charAt_3b067_5 : decode cJ2_charAt_3b067 5 = .ok (.aload_n 0, 1) := by decide +kernel
theorem dJ2_charAt_3b067_6 : decode cJ2_charAt_3b067 6 = .ok (.iload_n 1, 1) := by decide +kernel
theorem dJ2_charAt_3b067_7 : decode cJ2_charAt_3b067 7 = .ok (.invokestatic 71, 3) := by decide +kernel
theorem dJ2_charAt_3b067_10 : decode cJ2_charAt_3b067 10 = .ok (.ireturn, 1) := by decide +kernel
theorem dJ2_checkIndex_2214a_0 : decode cJ2_checkIndex_2214a 0 = .ok (.iload_n 0, 1) := by decide +kernel
theorem dJ2_checkIndex_2214a_1 : decode cJ2_checkIndex_2214a 1 = .ok (.aload_n 1, 1) := by decide +kernel
theorem dJ2_checkIndex_2214a_2 : decode cJ2_checkIndex_2214a 2 = .ok (.invokestatic 48, 3) := by decide +kernel
theorem dJ2_checkIndex_2214a_5 : decode cJ2_checkIndex_2214a 5 = .ok (.invokestatic 414, 3) := by decide +kernel
theorem dJ2_checkIndex_2214a_8 : decode cJ2_checkIndex_2214a 8 = .ok (.return_, 1) := by decide +kernel
theorem dJ3_checkIndex_8e157_0 : decode cJ3_checkIndex_8e157 0 = .ok (.iload_n 0, 1) := by decide +kernel
theorem dJ3_checkIndex_8e157_1 : decode cJ3_checkIndex_8e157 1 = .ok (.ifCond .lt 8, 3) := by decide +kernel
theorem dJ3_checkIndex_8e157_4 : decode cJ3_checkIndex_8e157 4 = .ok (.iload_n 0, 1) := by decide +kernel
theorem dJ3_checkIndex_8e157_5 : decode cJ3_checkIndex_8e157 5 = .ok (.iload_n 1, 1) := by decide +kernel
theorem dJ3_checkIndex_8e157_6 : decode cJ3_checkIndex_8e157 6 = .ok (.if_icmp .lt 10, 3) := by decide +kernel
theorem dJ3_checkIndex_8e157_9 : decode cJ3_checkIndex_8e157 9 = .ok (.aload_n 2, 1) := by decide +kernel
theorem dJ3_checkIndex_8e157_10 : decode cJ3_checkIndex_8e157 10 = .ok (.iload_n 0, 1) := by decide +kernel
theorem dJ3_checkIndex_8e157_11 : decode cJ3_checkIndex_8e157 11 = .ok (.iload_n 1, 1) := by decide +kernel
theorem dJ3_checkIndex_8e157_12 : decode cJ3_checkIndex_8e157 12 = .ok (.invokestatic 95, 3) := by decide +kernel
theorem dJ3_checkIndex_8e157_15 : decode cJ3_checkIndex_8e157 15 = .ok (.athrow, 1) := by decide +kernel
theorem dJ3_checkIndex_8e157_16 : decode cJ3_checkIndex_8e157 16 = .ok (.iload_n 0, 1) := by decide +kernel
theorem dJ3_checkIndex_8e157_17 : decode cJ3_checkIndex_8e157 17 = .ok (.ireturn, 1) := by decide +kernel
theorem dL_addHolder_0 : decode cL_addHolder 0 = .ok (.aload_n 1, 1) := by decide +kernel
theorem dL_addHolder_1 : decode cL_addHolder 1 = .ok (.iconst 0, 1) := by decide +kernel
theorem dL_addHolder_2 : decode cL_addHolder 2 = .ok (.aload_n 0, 1) := by decide +kernel
theorem dL_addHolder_3 : decode cL_addHolder 3 = .ok (.invokevirtual 7, 3) := by decide +kernel
theorem dL_addHolder_6 : decode cL_addHolder 6 = .ok (.i2l, 1) := by decide +kernel
theorem dL_addHolder_7 : decode cL_addHolder 7 = .ok (.lastore, 1) := by decide +kernel
theorem dL_addHolder_8 : decode cL_addHolder 8 = .ok (.goto 6, 3) := by decide +kernel
theorem dL_addHolder_11 : decode cL_addHolder 11 = .ok (.astore_n 2, 1) := by decide +kernel
theorem dL_addHolder_12 : decode cL_addHolder 12 = .ok (.iconst 1, 1) := by decide +kernel
theorem dL_addHolder_13 : decode cL_addHolder 13 = .ok (.ireturn, 1) := by decide +kernel
theorem dL_addHolder_14 : decode cL_addHolder 14 = .ok (.iconst 0, 1) := by decide +kernel
theorem dL_addHolder_15 : decode cL_addHolder 15 = .ok (.ireturn, 1) := by decide +kernel
theorem dL_seal_0 : decode cL_seal 0 = .ok (.aload 5, 2) := by decide +kernel
theorem dL_seal_2 : decode cL_seal 2 = .ok (.iconst 0, 1) := by decide +kernel
theorem dL_seal_3 : decode cL_seal 3 = .ok (.aload_n 0, 1) := by decide +kernel
theorem dL_seal_4 : decode cL_seal 4 = .ok (.iload_n 1, 1) := by decide +kernel
theorem dL_seal_5 : decode cL_seal 5 = .ok (.iload_n 2, 1) := by decide +kernel
theorem dL_seal_6 : decode cL_seal 6 = .ok (.iload_n 3, 1) := by decide +kernel
theorem dL_seal_7 : decode cL_seal 7 = .ok (.iload 4, 2) := by decide +kernel
theorem dL_seal_9 : decode cL_seal 9 = .ok (.invokevirtual 15, 3) := by decide +kernel
theorem dL_seal_12 : decode cL_seal 12 = .ok (.i2l, 1) := by decide +kernel
theorem dL_seal_13 : decode cL_seal 13 = .ok (.lastore, 1) := by decide +kernel
theorem dL_seal_14 : decode cL_seal 14 = .ok (.goto 11, 3) := by decide +kernel
theorem dL_seal_17 : decode cL_seal 17 = .ok (.astore 6, 2) := by decide +kernel
theorem dL_seal_19 : decode cL_seal 19 = .ok (.iconst 1, 1) := by decide +kernel
theorem dL_seal_20 : decode cL_seal 20 = .ok (.ireturn, 1) := by decide +kernel
theorem dL_seal_21 : decode cL_seal 21 = .ok (.astore 6, 2) := by decide +kernel
theorem dL_seal_23 : decode cL_seal 23 = .ok (.iconst 2, 1) := by decide +kernel
theorem dL_seal_24 : decode cL_seal 24 = .ok (.ireturn, 1) := by decide +kernel
theorem dL_seal_25 : decode cL_seal 25 = .ok (.iconst 0, 1) := by decide +kernel
theorem dL_seal_26 : decode cL_seal 26 = .ok (.ireturn, 1) := by decide +kernel
theorem dL_setShare_0 : decode cL_setShare 0 = .ok (.aload_n 3, 1) := by decide +kernel
theorem dL_setShare_1 : decode cL_setShare 1 = .ok (.iconst 0, 1) := by decide +kernel
theorem dL_setShare_2 : decode cL_setShare 2 = .ok (.aload_n 0, 1) := by decide +kernel
theorem dL_setShare_3 : decode cL_setShare 3 = .ok (.iload_n 1, 1) := by decide +kernel
theorem dL_setShare_4 : decode cL_setShare 4 = .ok (.iload_n 2, 1) := by decide +kernel
theorem dL_setShare_5 : decode cL_setShare 5 = .ok (.invokevirtual 21, 3) := by decide +kernel
theorem dL_setShare_8 : decode cL_setShare 8 = .ok (.i2l, 1) := by decide +kernel
theorem dL_setShare_9 : decode cL_setShare 9 = .ok (.lastore, 1) := by decide +kernel
theorem dL_setShare_10 : decode cL_setShare 10 = .ok (.goto 15, 3) := by decide +kernel
theorem dL_setShare_13 : decode cL_setShare 13 = .ok (.astore 4, 2) := by decide +kernel
theorem dL_setShare_15 : decode cL_setShare 15 = .ok (.iconst 1, 1) := by decide +kernel
theorem dL_setShare_16 : decode cL_setShare 16 = .ok (.ireturn, 1) := by decide +kernel
theorem dL_setShare_17 : decode cL_setShare 17 = .ok (.astore 4, 2) := by decide +kernel
theorem dL_setShare_19 : decode cL_setShare 19 = .ok (.iconst 2, 1) := by decide +kernel
theorem dL_setShare_20 : decode cL_setShare 20 = .ok (.ireturn, 1) := by decide +kernel
theorem dL_setShare_21 : decode cL_setShare 21 = .ok (.astore 4, 2) := by decide +kernel
theorem dL_setShare_23 : decode cL_setShare 23 = .ok (.iconst 3, 1) := by decide +kernel
theorem dL_setShare_24 : decode cL_setShare 24 = .ok (.ireturn, 1) := by decide +kernel
theorem dL_setShare_25 : decode cL_setShare 25 = .ok (.iconst 0, 1) := by decide +kernel
theorem dL_setShare_26 : decode cL_setShare 26 = .ok (.ireturn, 1) := by decide +kernel
theorem dL_present_0 : decode cL_present 0 = .ok (.aload_n 2, 1) := by decide +kernel
theorem dL_present_1 : decode cL_present 1 = .ok (.iconst 0, 1) := by decide +kernel
theorem dL_present_2 : decode cL_present 2 = .ok (.aload_n 0, 1) := by decide +kernel
theorem dL_present_3 : decode cL_present 3 = .ok (.iload_n 1, 1) := by decide +kernel
theorem dL_present_4 : decode cL_present 4 = .ok (.invokevirtual 27, 3) := by decide +kernel
theorem dL_present_7 : decode cL_present 7 = .ok (.i2l, 1) := by decide +kernel
theorem dL_present_8 : decode cL_present 8 = .ok (.lastore, 1) := by decide +kernel
theorem dL_present_9 : decode cL_present 9 = .ok (.goto 9, 3) := by decide +kernel
theorem dL_present_12 : decode cL_present 12 = .ok (.astore_n 3, 1) := by decide +kernel
theorem dL_present_13 : decode cL_present 13 = .ok (.iconst 1, 1) := by decide +kernel
theorem dL_present_14 : decode cL_present 14 = .ok (.ireturn, 1) := by decide +kernel
theorem dL_present_15 : decode cL_present 15 = .ok (.astore_n 3, 1) := by decide +kernel
theorem dL_present_16 : decode cL_present 16 = .ok (.iconst 2, 1) := by decide +kernel
theorem dL_present_17 : decode cL_present 17 = .ok (.ireturn, 1) := by decide +kernel
theorem dL_present_18 : decode cL_present 18 = .ok (.iconst 0, 1) := by decide +kernel
theorem dL_present_19 : decode cL_present 19 = .ok (.ireturn, 1) := by decide +kernel
theorem dL_takeBack_0 : decode cL_takeBack 0 = .ok (.aload_n 2, 1) := by decide +kernel
theorem dL_takeBack_1 : decode cL_takeBack 1 = .ok (.iconst 0, 1) := by decide +kernel
theorem dL_takeBack_2 : decode cL_takeBack 2 = .ok (.aload_n 0, 1) := by decide +kernel
theorem dL_takeBack_3 : decode cL_takeBack 3 = .ok (.iload_n 1, 1) := by decide +kernel
theorem dL_takeBack_4 : decode cL_takeBack 4 = .ok (.invokevirtual 31, 3) := by decide +kernel
theorem dL_takeBack_7 : decode cL_takeBack 7 = .ok (.i2l, 1) := by decide +kernel
theorem dL_takeBack_8 : decode cL_takeBack 8 = .ok (.lastore, 1) := by decide +kernel
theorem dL_takeBack_9 : decode cL_takeBack 9 = .ok (.goto 9, 3) := by decide +kernel
theorem dL_takeBack_12 : decode cL_takeBack 12 = .ok (.astore_n 3, 1) := by decide +kernel
theorem dL_takeBack_13 : decode cL_takeBack 13 = .ok (.iconst 1, 1) := by decide +kernel
theorem dL_takeBack_14 : decode cL_takeBack 14 = .ok (.ireturn, 1) := by decide +kernel
theorem dL_takeBack_15 : decode cL_takeBack 15 = .ok (.astore_n 3, 1) := by decide +kernel
theorem dL_takeBack_16 : decode cL_takeBack 16 = .ok (.iconst 2, 1) := by decide +kernel
theorem dL_takeBack_17 : decode cL_takeBack 17 = .ok (.ireturn, 1) := by decide +kernel
theorem dL_takeBack_18 : decode cL_takeBack 18 = .ok (.iconst 0, 1) := by decide +kernel
theorem dL_takeBack_19 : decode cL_takeBack 19 = .ok (.ireturn, 1) := by decide +kernel
theorem dL_openVault_0 : decode cL_openVault 0 = .ok (.aload_n 1, 1) := by decide +kernel
theorem dL_openVault_1 : decode cL_openVault 1 = .ok (.iconst 0, 1) := by decide +kernel
theorem dL_openVault_2 : decode cL_openVault 2 = .ok (.aload_n 0, 1) := by decide +kernel
theorem dL_openVault_3 : decode cL_openVault 3 = .ok (.invokevirtual 34, 3) := by decide +kernel
theorem dL_openVault_6 : decode cL_openVault 6 = .ok (.ifCond .eq 7, 3) := by decide +kernel
theorem dL_openVault_9 : decode cL_openVault 9 = .ok (.lconst 1, 1) := by decide +kernel
theorem dL_openVault_10 : decode cL_openVault 10 = .ok (.goto 4, 3) := by decide +kernel
theorem dL_openVault_13 : decode cL_openVault 13 = .ok (.lconst 0, 1) := by decide +kernel
theorem dL_openVault_14 : decode cL_openVault 14 = .ok (.lastore, 1) := by decide +kernel
theorem dL_openVault_15 : decode cL_openVault 15 = .ok (.goto 6, 3) := by decide +kernel
theorem dL_openVault_18 : decode cL_openVault 18 = .ok (.astore_n 2, 1) := by decide +kernel
theorem dL_openVault_19 : decode cL_openVault 19 = .ok (.iconst 1, 1) := by decide +kernel
theorem dL_openVault_20 : decode cL_openVault 20 = .ok (.ireturn, 1) := by decide +kernel
theorem dL_openVault_21 : decode cL_openVault 21 = .ok (.iconst 0, 1) := by decide +kernel
theorem dL_openVault_22 : decode cL_openVault 22 = .ok (.ireturn, 1) := by decide +kernel
theorem dL_closeVault_0 : decode cL_closeVault 0 = .ok (.aload_n 1, 1) := by decide +kernel
theorem dL_closeVault_1 : decode cL_closeVault 1 = .ok (.iconst 0, 1) := by decide +kernel
theorem dL_closeVault_2 : decode cL_closeVault 2 = .ok (.aload_n 0, 1) := by decide +kernel
theorem dL_closeVault_3 : decode cL_closeVault 3 = .ok (.invokevirtual 38, 3) := by decide +kernel
theorem dL_closeVault_6 : decode cL_closeVault 6 = .ok (.i2l, 1) := by decide +kernel
theorem dL_closeVault_7 : decode cL_closeVault 7 = .ok (.lastore, 1) := by decide +kernel
theorem dL_closeVault_8 : decode cL_closeVault 8 = .ok (.goto 6, 3) := by decide +kernel
theorem dL_closeVault_11 : decode cL_closeVault 11 = .ok (.astore_n 2, 1) := by decide +kernel
theorem dL_closeVault_12 : decode cL_closeVault 12 = .ok (.iconst 1, 1) := by decide +kernel
theorem dL_closeVault_13 : decode cL_closeVault 13 = .ok (.ireturn, 1) := by decide +kernel
theorem dL_closeVault_14 : decode cL_closeVault 14 = .ok (.iconst 0, 1) := by decide +kernel
theorem dL_closeVault_15 : decode cL_closeVault 15 = .ok (.ireturn, 1) := by decide +kernel
theorem dL_addGuard_0 : decode cL_addGuard 0 = .ok (.aload 4, 2) := by decide +kernel
theorem dL_addGuard_2 : decode cL_addGuard 2 = .ok (.iconst 0, 1) := by decide +kernel
theorem dL_addGuard_3 : decode cL_addGuard 3 = .ok (.aload_n 0, 1) := by decide +kernel
theorem dL_addGuard_4 : decode cL_addGuard 4 = .ok (.iload_n 1, 1) := by decide +kernel
theorem dL_addGuard_5 : decode cL_addGuard 5 = .ok (.iload_n 2, 1) := by decide +kernel
theorem dL_addGuard_6 : decode cL_addGuard 6 = .ok (.iload_n 3, 1) := by decide +kernel
theorem dL_addGuard_7 : decode cL_addGuard 7 = .ok (.invokevirtual 41, 3) := by decide +kernel
theorem dL_addGuard_10 : decode cL_addGuard 10 = .ok (.i2l, 1) := by decide +kernel
theorem dL_addGuard_11 : decode cL_addGuard 11 = .ok (.lastore, 1) := by decide +kernel
theorem dL_addGuard_12 : decode cL_addGuard 12 = .ok (.goto 11, 3) := by decide +kernel
theorem dL_addGuard_15 : decode cL_addGuard 15 = .ok (.astore 5, 2) := by decide +kernel
theorem dL_addGuard_17 : decode cL_addGuard 17 = .ok (.iconst 1, 1) := by decide +kernel
theorem dL_addGuard_18 : decode cL_addGuard 18 = .ok (.ireturn, 1) := by decide +kernel
theorem dL_addGuard_19 : decode cL_addGuard 19 = .ok (.astore 5, 2) := by decide +kernel
theorem dL_addGuard_21 : decode cL_addGuard 21 = .ok (.iconst 2, 1) := by decide +kernel
theorem dL_addGuard_22 : decode cL_addGuard 22 = .ok (.ireturn, 1) := by decide +kernel
theorem dL_addGuard_23 : decode cL_addGuard 23 = .ok (.iconst 0, 1) := by decide +kernel
theorem dL_addGuard_24 : decode cL_addGuard 24 = .ok (.ireturn, 1) := by decide +kernel
theorem dL_turnGuard_0 : decode cL_turnGuard 0 = .ok (.aload_n 2, 1) := by decide +kernel
theorem dL_turnGuard_1 : decode cL_turnGuard 1 = .ok (.iconst 0, 1) := by decide +kernel
theorem dL_turnGuard_2 : decode cL_turnGuard 2 = .ok (.aload_n 0, 1) := by decide +kernel
theorem dL_turnGuard_3 : decode cL_turnGuard 3 = .ok (.iload_n 1, 1) := by decide +kernel
theorem dL_turnGuard_4 : decode cL_turnGuard 4 = .ok (.invokevirtual 45, 3) := by decide +kernel
theorem dL_turnGuard_7 : decode cL_turnGuard 7 = .ok (.ifCond .eq 7, 3) := by decide +kernel
theorem dL_turnGuard_10 : decode cL_turnGuard 10 = .ok (.lconst 1, 1) := by decide +kernel
theorem dL_turnGuard_11 : decode cL_turnGuard 11 = .ok (.goto 4, 3) := by decide +kernel
theorem dL_turnGuard_14 : decode cL_turnGuard 14 = .ok (.lconst 0, 1) := by decide +kernel
theorem dL_turnGuard_15 : decode cL_turnGuard 15 = .ok (.lastore, 1) := by decide +kernel
theorem dL_turnGuard_16 : decode cL_turnGuard 16 = .ok (.goto 6, 3) := by decide +kernel
theorem dL_turnGuard_19 : decode cL_turnGuard 19 = .ok (.astore_n 3, 1) := by decide +kernel
theorem dL_turnGuard_20 : decode cL_turnGuard 20 = .ok (.iconst 1, 1) := by decide +kernel
theorem dL_turnGuard_21 : decode cL_turnGuard 21 = .ok (.ireturn, 1) := by decide +kernel
theorem dL_turnGuard_22 : decode cL_turnGuard 22 = .ok (.iconst 0, 1) := by decide +kernel
theorem dL_turnGuard_23 : decode cL_turnGuard 23 = .ok (.ireturn, 1) := by decide +kernel
theorem dL_hum_0 : decode cL_hum 0 = .ok (.aload_n 3, 1) := by decide +kernel
theorem dL_hum_1 : decode cL_hum 1 = .ok (.iconst 0, 1) := by decide +kernel
theorem dL_hum_2 : decode cL_hum 2 = .ok (.aload_n 0, 1) := by decide +kernel
theorem dL_hum_3 : decode cL_hum 3 = .ok (.iload_n 1, 1) := by decide +kernel
theorem dL_hum_4 : decode cL_hum 4 = .ok (.iload_n 2, 1) := by decide +kernel
theorem dL_hum_5 : decode cL_hum 5 = .ok (.invokevirtual 49, 3) := by decide +kernel
theorem dL_hum_8 : decode cL_hum 8 = .ok (.i2l, 1) := by decide +kernel
theorem dL_hum_9 : decode cL_hum 9 = .ok (.lastore, 1) := by decide +kernel
theorem dL_hum_10 : decode cL_hum 10 = .ok (.goto 7, 3) := by decide +kernel
theorem dL_hum_13 : decode cL_hum 13 = .ok (.astore 4, 2) := by decide +kernel
theorem dL_hum_15 : decode cL_hum 15 = .ok (.iconst 1, 1) := by decide +kernel
theorem dL_hum_16 : decode cL_hum 16 = .ok (.ireturn, 1) := by decide +kernel
theorem dL_hum_17 : decode cL_hum 17 = .ok (.iconst 0, 1) := by decide +kernel
theorem dL_hum_18 : decode cL_hum 18 = .ok (.ireturn, 1) := by decide +kernel
theorem dL_passHours_0 : decode cL_passHours 0 = .ok (.aload_n 2, 1) := by decide +kernel
theorem dL_passHours_1 : decode cL_passHours 1 = .ok (.iconst 0, 1) := by decide +kernel
theorem dL_passHours_2 : decode cL_passHours 2 = .ok (.aload_n 0, 1) := by decide +kernel
theorem dL_passHours_3 : decode cL_passHours 3 = .ok (.iload_n 1, 1) := by decide +kernel
theorem dL_passHours_4 : decode cL_passHours 4 = .ok (.invokevirtual 52, 3) := by decide +kernel
theorem dL_passHours_7 : decode cL_passHours 7 = .ok (.i2l, 1) := by decide +kernel
theorem dL_passHours_8 : decode cL_passHours 8 = .ok (.lastore, 1) := by decide +kernel
theorem dL_passHours_9 : decode cL_passHours 9 = .ok (.goto 6, 3) := by decide +kernel
theorem dL_passHours_12 : decode cL_passHours 12 = .ok (.astore_n 3, 1) := by decide +kernel
theorem dL_passHours_13 : decode cL_passHours 13 = .ok (.iconst 1, 1) := by decide +kernel
theorem dL_passHours_14 : decode cL_passHours 14 = .ok (.ireturn, 1) := by decide +kernel
theorem dL_passHours_15 : decode cL_passHours 15 = .ok (.iconst 0, 1) := by decide +kernel
theorem dL_passHours_16 : decode cL_passHours 16 = .ok (.ireturn, 1) := by decide +kernel
theorem dL_threshold_0 : decode cL_threshold 0 = .ok (.aload_n 1, 1) := by decide +kernel
theorem dL_threshold_1 : decode cL_threshold 1 = .ok (.iconst 0, 1) := by decide +kernel
theorem dL_threshold_2 : decode cL_threshold 2 = .ok (.aload_n 0, 1) := by decide +kernel
theorem dL_threshold_3 : decode cL_threshold 3 = .ok (.invokevirtual 55, 3) := by decide +kernel
theorem dL_threshold_6 : decode cL_threshold 6 = .ok (.i2l, 1) := by decide +kernel
theorem dL_threshold_7 : decode cL_threshold 7 = .ok (.lastore, 1) := by decide +kernel
theorem dL_threshold_8 : decode cL_threshold 8 = .ok (.goto 6, 3) := by decide +kernel
theorem dL_threshold_11 : decode cL_threshold 11 = .ok (.astore_n 2, 1) := by decide +kernel
theorem dL_threshold_12 : decode cL_threshold 12 = .ok (.iconst 1, 1) := by decide +kernel
theorem dL_threshold_13 : decode cL_threshold 13 = .ok (.ireturn, 1) := by decide +kernel
theorem dL_threshold_14 : decode cL_threshold 14 = .ok (.iconst 0, 1) := by decide +kernel
theorem dL_threshold_15 : decode cL_threshold 15 = .ok (.ireturn, 1) := by decide +kernel
theorem dL_share_0 : decode cL_share 0 = .ok (.aload_n 2, 1) := by decide +kernel
theorem dL_share_1 : decode cL_share 1 = .ok (.iconst 0, 1) := by decide +kernel
theorem dL_share_2 : decode cL_share 2 = .ok (.aload_n 0, 1) := by decide +kernel
theorem dL_share_3 : decode cL_share 3 = .ok (.iload_n 1, 1) := by decide +kernel
theorem dL_share_4 : decode cL_share 4 = .ok (.invokevirtual 60, 3) := by decide +kernel
theorem dL_share_7 : decode cL_share 7 = .ok (.i2l, 1) := by decide +kernel
theorem dL_share_8 : decode cL_share 8 = .ok (.lastore, 1) := by decide +kernel
theorem dL_share_9 : decode cL_share 9 = .ok (.goto 9, 3) := by decide +kernel
theorem dL_share_12 : decode cL_share 12 = .ok (.astore_n 3, 1) := by decide +kernel
theorem dL_share_13 : decode cL_share 13 = .ok (.iconst 1, 1) := by decide +kernel
theorem dL_share_14 : decode cL_share 14 = .ok (.ireturn, 1) := by decide +kernel
theorem dL_share_15 : decode cL_share 15 = .ok (.astore_n 3, 1) := by decide +kernel
theorem dL_share_16 : decode cL_share 16 = .ok (.iconst 2, 1) := by decide +kernel
theorem dL_share_17 : decode cL_share 17 = .ok (.ireturn, 1) := by decide +kernel
theorem dL_share_18 : decode cL_share 18 = .ok (.iconst 0, 1) := by decide +kernel
theorem dL_share_19 : decode cL_share 19 = .ok (.ireturn, 1) := by decide +kernel
theorem dL_isCorrect_0 : decode cL_isCorrect 0 = .ok (.aload_n 2, 1) := by decide +kernel
theorem dL_isCorrect_1 : decode cL_isCorrect 1 = .ok (.iconst 0, 1) := by decide +kernel
theorem dL_isCorrect_2 : decode cL_isCorrect 2 = .ok (.aload_n 0, 1) := by decide +kernel
theorem dL_isCorrect_3 : decode cL_isCorrect 3 = .ok (.iload_n 1, 1) := by decide +kernel
theorem dL_isCorrect_4 : decode cL_isCorrect 4 = .ok (.invokevirtual 63, 3) := by decide +kernel
theorem dL_isCorrect_7 : decode cL_isCorrect 7 = .ok (.ifCond .eq 7, 3) := by decide +kernel
theorem dL_isCorrect_10 : decode cL_isCorrect 10 = .ok (.lconst 1, 1) := by decide +kernel
theorem dL_isCorrect_11 : decode cL_isCorrect 11 = .ok (.goto 4, 3) := by decide +kernel
theorem dL_isCorrect_14 : decode cL_isCorrect 14 = .ok (.lconst 0, 1) := by decide +kernel
theorem dL_isCorrect_15 : decode cL_isCorrect 15 = .ok (.lastore, 1) := by decide +kernel
theorem dL_isCorrect_16 : decode cL_isCorrect 16 = .ok (.goto 9, 3) := by decide +kernel
theorem dL_isCorrect_19 : decode cL_isCorrect 19 = .ok (.astore_n 3, 1) := by decide +kernel
theorem dL_isCorrect_20 : decode cL_isCorrect 20 = .ok (.iconst 1, 1) := by decide +kernel
theorem dL_isCorrect_21 : decode cL_isCorrect 21 = .ok (.ireturn, 1) := by decide +kernel
theorem dL_isCorrect_22 : decode cL_isCorrect 22 = .ok (.astore_n 3, 1) := by decide +kernel
theorem dL_isCorrect_23 : decode cL_isCorrect 23 = .ok (.iconst 2, 1) := by decide +kernel
theorem dL_isCorrect_24 : decode cL_isCorrect 24 = .ok (.ireturn, 1) := by decide +kernel
theorem dL_isCorrect_25 : decode cL_isCorrect 25 = .ok (.iconst 0, 1) := by decide +kernel
theorem dL_isCorrect_26 : decode cL_isCorrect 26 = .ok (.ireturn, 1) := by decide +kernel
theorem dL_isPresented_0 : decode cL_isPresented 0 = .ok (.aload_n 2, 1) := by decide +kernel
theorem dL_isPresented_1 : decode cL_isPresented 1 = .ok (.iconst 0, 1) := by decide +kernel
theorem dL_isPresented_2 : decode cL_isPresented 2 = .ok (.aload_n 0, 1) := by decide +kernel
theorem dL_isPresented_3 : decode cL_isPresented 3 = .ok (.iload_n 1, 1) := by decide +kernel
theorem dL_isPresented_4 : decode cL_isPresented 4 = .ok (.invokevirtual 66, 3) := by decide +kernel
theorem dL_isPresented_7 : decode cL_isPresented 7 = .ok (.ifCond .eq 7, 3) := by decide +kernel
theorem dL_isPresented_10 : decode cL_isPresented 10 = .ok (.lconst 1, 1) := by decide +kernel
theorem dL_isPresented_11 : decode cL_isPresented 11 = .ok (.goto 4, 3) := by decide +kernel
theorem dL_isPresented_14 : decode cL_isPresented 14 = .ok (.lconst 0, 1) := by decide +kernel
theorem dL_isPresented_15 : decode cL_isPresented 15 = .ok (.lastore, 1) := by decide +kernel
theorem dL_isPresented_16 : decode cL_isPresented 16 = .ok (.goto 6, 3) := by decide +kernel
theorem dL_isPresented_19 : decode cL_isPresented 19 = .ok (.astore_n 3, 1) := by decide +kernel
theorem dL_isPresented_20 : decode cL_isPresented 20 = .ok (.iconst 1, 1) := by decide +kernel
theorem dL_isPresented_21 : decode cL_isPresented 21 = .ok (.ireturn, 1) := by decide +kernel
theorem dL_isPresented_22 : decode cL_isPresented 22 = .ok (.iconst 0, 1) := by decide +kernel
theorem dL_isPresented_23 : decode cL_isPresented 23 = .ok (.ireturn, 1) := by decide +kernel
theorem dL_presentedAt_0 : decode cL_presentedAt 0 = .ok (.aload_n 2, 1) := by decide +kernel
theorem dL_presentedAt_1 : decode cL_presentedAt 1 = .ok (.iconst 0, 1) := by decide +kernel
theorem dL_presentedAt_2 : decode cL_presentedAt 2 = .ok (.aload_n 0, 1) := by decide +kernel
theorem dL_presentedAt_3 : decode cL_presentedAt 3 = .ok (.iload_n 1, 1) := by decide +kernel
theorem dL_presentedAt_4 : decode cL_presentedAt 4 = .ok (.invokevirtual 69, 3) := by decide +kernel
theorem dL_presentedAt_7 : decode cL_presentedAt 7 = .ok (.i2l, 1) := by decide +kernel
theorem dL_presentedAt_8 : decode cL_presentedAt 8 = .ok (.lastore, 1) := by decide +kernel
theorem dL_presentedAt_9 : decode cL_presentedAt 9 = .ok (.goto 6, 3) := by decide +kernel
theorem dL_presentedAt_12 : decode cL_presentedAt 12 = .ok (.astore_n 3, 1) := by decide +kernel
theorem dL_presentedAt_13 : decode cL_presentedAt 13 = .ok (.iconst 1, 1) := by decide +kernel
theorem dL_presentedAt_14 : decode cL_presentedAt 14 = .ok (.ireturn, 1) := by decide +kernel
theorem dL_presentedAt_15 : decode cL_presentedAt 15 = .ok (.iconst 0, 1) := by decide +kernel
theorem dL_presentedAt_16 : decode cL_presentedAt 16 = .ok (.ireturn, 1) := by decide +kernel
theorem dL_toldSecret_0 : decode cL_toldSecret 0 = .ok (.aload_n 1, 1) := by decide +kernel
theorem dL_toldSecret_1 : decode cL_toldSecret 1 = .ok (.iconst 0, 1) := by decide +kernel
theorem dL_toldSecret_2 : decode cL_toldSecret 2 = .ok (.aload_n 0, 1) := by decide +kernel
theorem dL_toldSecret_3 : decode cL_toldSecret 3 = .ok (.invokevirtual 72, 3) := by decide +kernel
theorem dL_toldSecret_6 : decode cL_toldSecret 6 = .ok (.i2l, 1) := by decide +kernel
theorem dL_toldSecret_7 : decode cL_toldSecret 7 = .ok (.lastore, 1) := by decide +kernel
theorem dL_toldSecret_8 : decode cL_toldSecret 8 = .ok (.goto 6, 3) := by decide +kernel
theorem dL_toldSecret_11 : decode cL_toldSecret 11 = .ok (.astore_n 2, 1) := by decide +kernel
theorem dL_toldSecret_12 : decode cL_toldSecret 12 = .ok (.iconst 1, 1) := by decide +kernel
theorem dL_toldSecret_13 : decode cL_toldSecret 13 = .ok (.ireturn, 1) := by decide +kernel
theorem dL_toldSecret_14 : decode cL_toldSecret 14 = .ok (.iconst 0, 1) := by decide +kernel
theorem dL_toldSecret_15 : decode cL_toldSecret 15 = .ok (.ireturn, 1) := by decide +kernel
theorem dL_toldSecretByElimination_0 : decode cL_toldSecretByElimination 0 = .ok (.aload_n 1, 1) := by decide +kernel
theorem dL_toldSecretByElimination_1 : decode cL_toldSecretByElimination 1 = .ok (.iconst 0, 1) := by decide +kernel
theorem dL_toldSecretByElimination_2 : decode cL_toldSecretByElimination 2 = .ok (.aload_n 0, 1) := by decide +kernel
theorem dL_toldSecretByElimination_3 : decode cL_toldSecretByElimination 3 = .ok (.invokevirtual 75, 3) := by decide +kernel
theorem dL_toldSecretByElimination_6 : decode cL_toldSecretByElimination 6 = .ok (.i2l, 1) := by decide +kernel
theorem dL_toldSecretByElimination_7 : decode cL_toldSecretByElimination 7 = .ok (.lastore, 1) := by decide +kernel
theorem dL_toldSecretByElimination_8 : decode cL_toldSecretByElimination 8 = .ok (.goto 6, 3) := by decide +kernel
theorem dL_toldSecretByElimination_11 : decode cL_toldSecretByElimination 11 = .ok (.astore_n 2, 1) := by decide +kernel
theorem dL_toldSecretByElimination_12 : decode cL_toldSecretByElimination 12 = .ok (.iconst 1, 1) := by decide +kernel
theorem dL_toldSecretByElimination_13 : decode cL_toldSecretByElimination 13 = .ok (.ireturn, 1) := by decide +kernel
theorem dL_toldSecretByElimination_14 : decode cL_toldSecretByElimination 14 = .ok (.iconst 0, 1) := by decide +kernel
theorem dL_toldSecretByElimination_15 : decode cL_toldSecretByElimination 15 = .ok (.ireturn, 1) := by decide +kernel
theorem dL_toldValue_0 : decode cL_toldValue 0 = .ok (.aload_n 2, 1) := by decide +kernel
theorem dL_toldValue_1 : decode cL_toldValue 1 = .ok (.iconst 0, 1) := by decide +kernel
theorem dL_toldValue_2 : decode cL_toldValue 2 = .ok (.aload_n 0, 1) := by decide +kernel
theorem dL_toldValue_3 : decode cL_toldValue 3 = .ok (.iload_n 1, 1) := by decide +kernel
theorem dL_toldValue_4 : decode cL_toldValue 4 = .ok (.invokevirtual 78, 3) := by decide +kernel
theorem dL_toldValue_7 : decode cL_toldValue 7 = .ok (.i2l, 1) := by decide +kernel
theorem dL_toldValue_8 : decode cL_toldValue 8 = .ok (.lastore, 1) := by decide +kernel
theorem dL_toldValue_9 : decode cL_toldValue 9 = .ok (.goto 9, 3) := by decide +kernel
theorem dL_toldValue_12 : decode cL_toldValue 12 = .ok (.astore_n 3, 1) := by decide +kernel
theorem dL_toldValue_13 : decode cL_toldValue 13 = .ok (.iconst 1, 1) := by decide +kernel
theorem dL_toldValue_14 : decode cL_toldValue 14 = .ok (.ireturn, 1) := by decide +kernel
theorem dL_toldValue_15 : decode cL_toldValue 15 = .ok (.astore_n 3, 1) := by decide +kernel
theorem dL_toldValue_16 : decode cL_toldValue 16 = .ok (.iconst 2, 1) := by decide +kernel
theorem dL_toldValue_17 : decode cL_toldValue 17 = .ok (.ireturn, 1) := by decide +kernel
theorem dL_toldValue_18 : decode cL_toldValue 18 = .ok (.iconst 0, 1) := by decide +kernel
theorem dL_toldValue_19 : decode cL_toldValue 19 = .ok (.ireturn, 1) := by decide +kernel
theorem dL_doAgree_0 : decode cL_doAgree 0 = .ok (.aload_n 1, 1) := by decide +kernel
theorem dL_doAgree_1 : decode cL_doAgree 1 = .ok (.iconst 0, 1) := by decide +kernel
theorem dL_doAgree_2 : decode cL_doAgree 2 = .ok (.aload_n 0, 1) := by decide +kernel
theorem dL_doAgree_3 : decode cL_doAgree 3 = .ok (.invokevirtual 81, 3) := by decide +kernel
theorem dL_doAgree_6 : decode cL_doAgree 6 = .ok (.ifCond .eq 7, 3) := by decide +kernel
theorem dL_doAgree_9 : decode cL_doAgree 9 = .ok (.lconst 1, 1) := by decide +kernel
theorem dL_doAgree_10 : decode cL_doAgree 10 = .ok (.goto 4, 3) := by decide +kernel
theorem dL_doAgree_13 : decode cL_doAgree 13 = .ok (.lconst 0, 1) := by decide +kernel
theorem dL_doAgree_14 : decode cL_doAgree 14 = .ok (.lastore, 1) := by decide +kernel
theorem dL_doAgree_15 : decode cL_doAgree 15 = .ok (.goto 6, 3) := by decide +kernel
theorem dL_doAgree_18 : decode cL_doAgree 18 = .ok (.astore_n 2, 1) := by decide +kernel
theorem dL_doAgree_19 : decode cL_doAgree 19 = .ok (.iconst 1, 1) := by decide +kernel
theorem dL_doAgree_20 : decode cL_doAgree 20 = .ok (.ireturn, 1) := by decide +kernel
theorem dL_doAgree_21 : decode cL_doAgree 21 = .ok (.iconst 0, 1) := by decide +kernel
theorem dL_doAgree_22 : decode cL_doAgree 22 = .ok (.ireturn, 1) := by decide +kernel
theorem dL_mostAgreeing_0 : decode cL_mostAgreeing 0 = .ok (.aload_n 1, 1) := by decide +kernel
theorem dL_mostAgreeing_1 : decode cL_mostAgreeing 1 = .ok (.iconst 0, 1) := by decide +kernel
theorem dL_mostAgreeing_2 : decode cL_mostAgreeing 2 = .ok (.aload_n 0, 1) := by decide +kernel
theorem dL_mostAgreeing_3 : decode cL_mostAgreeing 3 = .ok (.invokevirtual 84, 3) := by decide +kernel
theorem dL_mostAgreeing_6 : decode cL_mostAgreeing 6 = .ok (.i2l, 1) := by decide +kernel
theorem dL_mostAgreeing_7 : decode cL_mostAgreeing 7 = .ok (.lastore, 1) := by decide +kernel
theorem dL_mostAgreeing_8 : decode cL_mostAgreeing 8 = .ok (.goto 6, 3) := by decide +kernel
theorem dL_mostAgreeing_11 : decode cL_mostAgreeing 11 = .ok (.astore_n 2, 1) := by decide +kernel
theorem dL_mostAgreeing_12 : decode cL_mostAgreeing 12 = .ok (.iconst 1, 1) := by decide +kernel
theorem dL_mostAgreeing_13 : decode cL_mostAgreeing 13 = .ok (.ireturn, 1) := by decide +kernel
theorem dL_mostAgreeing_14 : decode cL_mostAgreeing 14 = .ok (.iconst 0, 1) := by decide +kernel
theorem dL_mostAgreeing_15 : decode cL_mostAgreeing 15 = .ok (.ireturn, 1) := by decide +kernel
theorem dL_mostAgreeingBySets_0 : decode cL_mostAgreeingBySets 0 = .ok (.aload_n 1, 1) := by decide +kernel
theorem dL_mostAgreeingBySets_1 : decode cL_mostAgreeingBySets 1 = .ok (.iconst 0, 1) := by decide +kernel
theorem dL_mostAgreeingBySets_2 : decode cL_mostAgreeingBySets 2 = .ok (.aload_n 0, 1) := by decide +kernel
theorem dL_mostAgreeingBySets_3 : decode cL_mostAgreeingBySets 3 = .ok (.invokevirtual 87, 3) := by decide +kernel
theorem dL_mostAgreeingBySets_6 : decode cL_mostAgreeingBySets 6 = .ok (.i2l, 1) := by decide +kernel
theorem dL_mostAgreeingBySets_7 : decode cL_mostAgreeingBySets 7 = .ok (.lastore, 1) := by decide +kernel
theorem dL_mostAgreeingBySets_8 : decode cL_mostAgreeingBySets 8 = .ok (.goto 6, 3) := by decide +kernel
theorem dL_mostAgreeingBySets_11 : decode cL_mostAgreeingBySets 11 = .ok (.astore_n 2, 1) := by decide +kernel
theorem dL_mostAgreeingBySets_12 : decode cL_mostAgreeingBySets 12 = .ok (.iconst 1, 1) := by decide +kernel
theorem dL_mostAgreeingBySets_13 : decode cL_mostAgreeingBySets 13 = .ok (.ireturn, 1) := by decide +kernel
theorem dL_mostAgreeingBySets_14 : decode cL_mostAgreeingBySets 14 = .ok (.iconst 0, 1) := by decide +kernel
theorem dL_mostAgreeingBySets_15 : decode cL_mostAgreeingBySets 15 = .ok (.ireturn, 1) := by decide +kernel
theorem dL_zoneOf_0 : decode cL_zoneOf 0 = .ok (.aload_n 2, 1) := by decide +kernel
theorem dL_zoneOf_1 : decode cL_zoneOf 1 = .ok (.iconst 0, 1) := by decide +kernel
theorem dL_zoneOf_2 : decode cL_zoneOf 2 = .ok (.aload_n 0, 1) := by decide +kernel
theorem dL_zoneOf_3 : decode cL_zoneOf 3 = .ok (.iload_n 1, 1) := by decide +kernel
theorem dL_zoneOf_4 : decode cL_zoneOf 4 = .ok (.invokevirtual 90, 3) := by decide +kernel
theorem dL_zoneOf_7 : decode cL_zoneOf 7 = .ok (.i2l, 1) := by decide +kernel
theorem dL_zoneOf_8 : decode cL_zoneOf 8 = .ok (.lastore, 1) := by decide +kernel
theorem dL_zoneOf_9 : decode cL_zoneOf 9 = .ok (.goto 6, 3) := by decide +kernel
theorem dL_zoneOf_12 : decode cL_zoneOf 12 = .ok (.astore_n 3, 1) := by decide +kernel
theorem dL_zoneOf_13 : decode cL_zoneOf 13 = .ok (.iconst 1, 1) := by decide +kernel
theorem dL_zoneOf_14 : decode cL_zoneOf 14 = .ok (.ireturn, 1) := by decide +kernel
theorem dL_zoneOf_15 : decode cL_zoneOf 15 = .ok (.iconst 0, 1) := by decide +kernel
theorem dL_zoneOf_16 : decode cL_zoneOf 16 = .ok (.ireturn, 1) := by decide +kernel
theorem dL_isForwards_0 : decode cL_isForwards 0 = .ok (.aload_n 2, 1) := by decide +kernel
theorem dL_isForwards_1 : decode cL_isForwards 1 = .ok (.iconst 0, 1) := by decide +kernel
theorem dL_isForwards_2 : decode cL_isForwards 2 = .ok (.aload_n 0, 1) := by decide +kernel
theorem dL_isForwards_3 : decode cL_isForwards 3 = .ok (.iload_n 1, 1) := by decide +kernel
theorem dL_isForwards_4 : decode cL_isForwards 4 = .ok (.invokevirtual 93, 3) := by decide +kernel
theorem dL_isForwards_7 : decode cL_isForwards 7 = .ok (.ifCond .eq 7, 3) := by decide +kernel
theorem dL_isForwards_10 : decode cL_isForwards 10 = .ok (.lconst 1, 1) := by decide +kernel
theorem dL_isForwards_11 : decode cL_isForwards 11 = .ok (.goto 4, 3) := by decide +kernel
theorem dL_isForwards_14 : decode cL_isForwards 14 = .ok (.lconst 0, 1) := by decide +kernel
theorem dL_isForwards_15 : decode cL_isForwards 15 = .ok (.lastore, 1) := by decide +kernel
theorem dL_isForwards_16 : decode cL_isForwards 16 = .ok (.goto 6, 3) := by decide +kernel
theorem dL_isForwards_19 : decode cL_isForwards 19 = .ok (.astore_n 3, 1) := by decide +kernel
theorem dL_isForwards_20 : decode cL_isForwards 20 = .ok (.iconst 1, 1) := by decide +kernel
theorem dL_isForwards_21 : decode cL_isForwards 21 = .ok (.ireturn, 1) := by decide +kernel
theorem dL_isForwards_22 : decode cL_isForwards 22 = .ok (.iconst 0, 1) := by decide +kernel
theorem dL_isForwards_23 : decode cL_isForwards 23 = .ok (.ireturn, 1) := by decide +kernel
theorem dL_noise_0 : decode cL_noise 0 = .ok (.aload_n 2, 1) := by decide +kernel
theorem dL_noise_1 : decode cL_noise 1 = .ok (.iconst 0, 1) := by decide +kernel
theorem dL_noise_2 : decode cL_noise 2 = .ok (.aload_n 0, 1) := by decide +kernel
theorem dL_noise_3 : decode cL_noise 3 = .ok (.iload_n 1, 1) := by decide +kernel
theorem dL_noise_4 : decode cL_noise 4 = .ok (.invokevirtual 96, 3) := by decide +kernel
theorem dL_noise_7 : decode cL_noise 7 = .ok (.i2l, 1) := by decide +kernel
theorem dL_noise_8 : decode cL_noise 8 = .ok (.lastore, 1) := by decide +kernel
theorem dL_noise_9 : decode cL_noise 9 = .ok (.goto 6, 3) := by decide +kernel
theorem dL_noise_12 : decode cL_noise 12 = .ok (.astore_n 3, 1) := by decide +kernel
theorem dL_noise_13 : decode cL_noise 13 = .ok (.iconst 1, 1) := by decide +kernel
theorem dL_noise_14 : decode cL_noise 14 = .ok (.ireturn, 1) := by decide +kernel
theorem dL_noise_15 : decode cL_noise 15 = .ok (.iconst 0, 1) := by decide +kernel
theorem dL_noise_16 : decode cL_noise 16 = .ok (.ireturn, 1) := by decide +kernel
theorem dL_isGuarded_0 : decode cL_isGuarded 0 = .ok (.aload_n 2, 1) := by decide +kernel
theorem dL_isGuarded_1 : decode cL_isGuarded 1 = .ok (.iconst 0, 1) := by decide +kernel
theorem dL_isGuarded_2 : decode cL_isGuarded 2 = .ok (.aload_n 0, 1) := by decide +kernel
theorem dL_isGuarded_3 : decode cL_isGuarded 3 = .ok (.iload_n 1, 1) := by decide +kernel
theorem dL_isGuarded_4 : decode cL_isGuarded 4 = .ok (.invokevirtual 99, 3) := by decide +kernel
theorem dL_isGuarded_7 : decode cL_isGuarded 7 = .ok (.ifCond .eq 7, 3) := by decide +kernel
theorem dL_isGuarded_10 : decode cL_isGuarded 10 = .ok (.lconst 1, 1) := by decide +kernel
theorem dL_isGuarded_11 : decode cL_isGuarded 11 = .ok (.goto 4, 3) := by decide +kernel
theorem dL_isGuarded_14 : decode cL_isGuarded 14 = .ok (.lconst 0, 1) := by decide +kernel
theorem dL_isGuarded_15 : decode cL_isGuarded 15 = .ok (.lastore, 1) := by decide +kernel
theorem dL_isGuarded_16 : decode cL_isGuarded 16 = .ok (.goto 6, 3) := by decide +kernel
theorem dL_isGuarded_19 : decode cL_isGuarded 19 = .ok (.astore_n 3, 1) := by decide +kernel
theorem dL_isGuarded_20 : decode cL_isGuarded 20 = .ok (.iconst 1, 1) := by decide +kernel
theorem dL_isGuarded_21 : decode cL_isGuarded 21 = .ok (.ireturn, 1) := by decide +kernel
theorem dL_isGuarded_22 : decode cL_isGuarded 22 = .ok (.iconst 0, 1) := by decide +kernel
theorem dL_isGuarded_23 : decode cL_isGuarded 23 = .ok (.ireturn, 1) := by decide +kernel
theorem dL_hoursUntilVisit_0 : decode cL_hoursUntilVisit 0 = .ok (.aload_n 2, 1) := by decide +kernel
theorem dL_hoursUntilVisit_1 : decode cL_hoursUntilVisit 1 = .ok (.iconst 0, 1) := by decide +kernel
theorem dL_hoursUntilVisit_2 : decode cL_hoursUntilVisit 2 = .ok (.aload_n 0, 1) := by decide +kernel
theorem dL_hoursUntilVisit_3 : decode cL_hoursUntilVisit 3 = .ok (.iload_n 1, 1) := by decide +kernel
theorem dL_hoursUntilVisit_4 : decode cL_hoursUntilVisit 4 = .ok (.invokevirtual 102, 3) := by decide +kernel
theorem dL_hoursUntilVisit_7 : decode cL_hoursUntilVisit 7 = .ok (.i2l, 1) := by decide +kernel
theorem dL_hoursUntilVisit_8 : decode cL_hoursUntilVisit 8 = .ok (.lastore, 1) := by decide +kernel
theorem dL_hoursUntilVisit_9 : decode cL_hoursUntilVisit 9 = .ok (.goto 9, 3) := by decide +kernel
theorem dL_hoursUntilVisit_12 : decode cL_hoursUntilVisit 12 = .ok (.astore_n 3, 1) := by decide +kernel
theorem dL_hoursUntilVisit_13 : decode cL_hoursUntilVisit 13 = .ok (.iconst 1, 1) := by decide +kernel
theorem dL_hoursUntilVisit_14 : decode cL_hoursUntilVisit 14 = .ok (.ireturn, 1) := by decide +kernel
theorem dL_hoursUntilVisit_15 : decode cL_hoursUntilVisit 15 = .ok (.astore_n 3, 1) := by decide +kernel
theorem dL_hoursUntilVisit_16 : decode cL_hoursUntilVisit 16 = .ok (.iconst 2, 1) := by decide +kernel
theorem dL_hoursUntilVisit_17 : decode cL_hoursUntilVisit 17 = .ok (.ireturn, 1) := by decide +kernel
theorem dL_hoursUntilVisit_18 : decode cL_hoursUntilVisit 18 = .ok (.iconst 0, 1) := by decide +kernel
theorem dL_hoursUntilVisit_19 : decode cL_hoursUntilVisit 19 = .ok (.ireturn, 1) := by decide +kernel
theorem dL_hoursUntilVisitByRemainders_0 : decode cL_hoursUntilVisitByRemainders 0 = .ok (.aload_n 2, 1) := by decide +kernel
theorem dL_hoursUntilVisitByRemainders_1 : decode cL_hoursUntilVisitByRemainders 1 = .ok (.iconst 0, 1) := by decide +kernel
theorem dL_hoursUntilVisitByRemainders_2 : decode cL_hoursUntilVisitByRemainders 2 = .ok (.aload_n 0, 1) := by decide +kernel
theorem dL_hoursUntilVisitByRemainders_3 : decode cL_hoursUntilVisitByRemainders 3 = .ok (.iload_n 1, 1) := by decide +kernel
theorem dL_hoursUntilVisitByRemainders_4 : decode cL_hoursUntilVisitByRemainders 4 = .ok (.invokevirtual 105, 3) := by decide +kernel
theorem dL_hoursUntilVisitByRemainders_7 : decode cL_hoursUntilVisitByRemainders 7 = .ok (.i2l, 1) := by decide +kernel
theorem dL_hoursUntilVisitByRemainders_8 : decode cL_hoursUntilVisitByRemainders 8 = .ok (.lastore, 1) := by decide +kernel
theorem dL_hoursUntilVisitByRemainders_9 : decode cL_hoursUntilVisitByRemainders 9 = .ok (.goto 9, 3) := by decide +kernel
theorem dL_hoursUntilVisitByRemainders_12 : decode cL_hoursUntilVisitByRemainders 12 = .ok (.astore_n 3, 1) := by decide +kernel
theorem dL_hoursUntilVisitByRemainders_13 : decode cL_hoursUntilVisitByRemainders 13 = .ok (.iconst 1, 1) := by decide +kernel
theorem dL_hoursUntilVisitByRemainders_14 : decode cL_hoursUntilVisitByRemainders 14 = .ok (.ireturn, 1) := by decide +kernel
theorem dL_hoursUntilVisitByRemainders_15 : decode cL_hoursUntilVisitByRemainders 15 = .ok (.astore_n 3, 1) := by decide +kernel
theorem dL_hoursUntilVisitByRemainders_16 : decode cL_hoursUntilVisitByRemainders 16 = .ok (.iconst 2, 1) := by decide +kernel
theorem dL_hoursUntilVisitByRemainders_17 : decode cL_hoursUntilVisitByRemainders 17 = .ok (.ireturn, 1) := by decide +kernel
theorem dL_hoursUntilVisitByRemainders_18 : decode cL_hoursUntilVisitByRemainders 18 = .ok (.iconst 0, 1) := by decide +kernel
theorem dL_hoursUntilVisitByRemainders_19 : decode cL_hoursUntilVisitByRemainders 19 = .ok (.ireturn, 1) := by decide +kernel
theorem dL_alarmsIn_0 : decode cL_alarmsIn 0 = .ok (.aload_n 2, 1) := by decide +kernel
theorem dL_alarmsIn_1 : decode cL_alarmsIn 1 = .ok (.iconst 0, 1) := by decide +kernel
theorem dL_alarmsIn_2 : decode cL_alarmsIn 2 = .ok (.aload_n 0, 1) := by decide +kernel
theorem dL_alarmsIn_3 : decode cL_alarmsIn 3 = .ok (.iload_n 1, 1) := by decide +kernel
theorem dL_alarmsIn_4 : decode cL_alarmsIn 4 = .ok (.invokevirtual 108, 3) := by decide +kernel
theorem dL_alarmsIn_7 : decode cL_alarmsIn 7 = .ok (.i2l, 1) := by decide +kernel
theorem dL_alarmsIn_8 : decode cL_alarmsIn 8 = .ok (.lastore, 1) := by decide +kernel
theorem dL_alarmsIn_9 : decode cL_alarmsIn 9 = .ok (.goto 6, 3) := by decide +kernel
theorem dL_alarmsIn_12 : decode cL_alarmsIn 12 = .ok (.astore_n 3, 1) := by decide +kernel
theorem dL_alarmsIn_13 : decode cL_alarmsIn 13 = .ok (.iconst 1, 1) := by decide +kernel
theorem dL_alarmsIn_14 : decode cL_alarmsIn 14 = .ok (.ireturn, 1) := by decide +kernel
theorem dL_alarmsIn_15 : decode cL_alarmsIn 15 = .ok (.iconst 0, 1) := by decide +kernel
theorem dL_alarmsIn_16 : decode cL_alarmsIn 16 = .ok (.ireturn, 1) := by decide +kernel
theorem dL_zoneByNoise_0 : decode cL_zoneByNoise 0 = .ok (.aload_n 2, 1) := by decide +kernel
theorem dL_zoneByNoise_1 : decode cL_zoneByNoise 1 = .ok (.iconst 0, 1) := by decide +kernel
theorem dL_zoneByNoise_2 : decode cL_zoneByNoise 2 = .ok (.aload_n 0, 1) := by decide +kernel
theorem dL_zoneByNoise_3 : decode cL_zoneByNoise 3 = .ok (.iload_n 1, 1) := by decide +kernel
theorem dL_zoneByNoise_4 : decode cL_zoneByNoise 4 = .ok (.invokevirtual 111, 3) := by decide +kernel
theorem dL_zoneByNoise_7 : decode cL_zoneByNoise 7 = .ok (.i2l, 1) := by decide +kernel
theorem dL_zoneByNoise_8 : decode cL_zoneByNoise 8 = .ok (.lastore, 1) := by decide +kernel
theorem dL_zoneByNoise_9 : decode cL_zoneByNoise 9 = .ok (.goto 6, 3) := by decide +kernel
theorem dL_zoneByNoise_12 : decode cL_zoneByNoise 12 = .ok (.astore_n 3, 1) := by decide +kernel
theorem dL_zoneByNoise_13 : decode cL_zoneByNoise 13 = .ok (.iconst 1, 1) := by decide +kernel
theorem dL_zoneByNoise_14 : decode cL_zoneByNoise 14 = .ok (.ireturn, 1) := by decide +kernel
theorem dL_zoneByNoise_15 : decode cL_zoneByNoise 15 = .ok (.iconst 0, 1) := by decide +kernel
theorem dL_zoneByNoise_16 : decode cL_zoneByNoise 16 = .ok (.ireturn, 1) := by decide +kernel
theorem dL_alarmsOf_0 : decode cL_alarmsOf 0 = .ok (.aload_n 2, 1) := by decide +kernel
theorem dL_alarmsOf_1 : decode cL_alarmsOf 1 = .ok (.iconst 0, 1) := by decide +kernel
theorem dL_alarmsOf_2 : decode cL_alarmsOf 2 = .ok (.aload_n 0, 1) := by decide +kernel
theorem dL_alarmsOf_3 : decode cL_alarmsOf 3 = .ok (.iload_n 1, 1) := by decide +kernel
theorem dL_alarmsOf_4 : decode cL_alarmsOf 4 = .ok (.invokevirtual 114, 3) := by decide +kernel
theorem dL_alarmsOf_7 : decode cL_alarmsOf 7 = .ok (.i2l, 1) := by decide +kernel
theorem dL_alarmsOf_8 : decode cL_alarmsOf 8 = .ok (.lastore, 1) := by decide +kernel
theorem dL_alarmsOf_9 : decode cL_alarmsOf 9 = .ok (.goto 6, 3) := by decide +kernel
theorem dL_alarmsOf_12 : decode cL_alarmsOf 12 = .ok (.astore_n 3, 1) := by decide +kernel
theorem dL_alarmsOf_13 : decode cL_alarmsOf 13 = .ok (.iconst 1, 1) := by decide +kernel
theorem dL_alarmsOf_14 : decode cL_alarmsOf 14 = .ok (.ireturn, 1) := by decide +kernel
theorem dL_alarmsOf_15 : decode cL_alarmsOf 15 = .ok (.iconst 0, 1) := by decide +kernel
theorem dL_alarmsOf_16 : decode cL_alarmsOf 16 = .ok (.ireturn, 1) := by decide +kernel
theorem dL_logHour_0 : decode cL_logHour 0 = .ok (.aload_n 2, 1) := by decide +kernel
theorem dL_logHour_1 : decode cL_logHour 1 = .ok (.iconst 0, 1) := by decide +kernel
theorem dL_logHour_2 : decode cL_logHour 2 = .ok (.aload_n 0, 1) := by decide +kernel
theorem dL_logHour_3 : decode cL_logHour 3 = .ok (.iload_n 1, 1) := by decide +kernel
theorem dL_logHour_4 : decode cL_logHour 4 = .ok (.invokevirtual 117, 3) := by decide +kernel
theorem dL_logHour_7 : decode cL_logHour 7 = .ok (.i2l, 1) := by decide +kernel
theorem dL_logHour_8 : decode cL_logHour 8 = .ok (.lastore, 1) := by decide +kernel
theorem dL_logHour_9 : decode cL_logHour 9 = .ok (.goto 6, 3) := by decide +kernel
theorem dL_logHour_12 : decode cL_logHour 12 = .ok (.astore_n 3, 1) := by decide +kernel
theorem dL_logHour_13 : decode cL_logHour 13 = .ok (.iconst 1, 1) := by decide +kernel
theorem dL_logHour_14 : decode cL_logHour 14 = .ok (.ireturn, 1) := by decide +kernel
theorem dL_logHour_15 : decode cL_logHour 15 = .ok (.iconst 0, 1) := by decide +kernel
theorem dL_logHour_16 : decode cL_logHour 16 = .ok (.ireturn, 1) := by decide +kernel
theorem dL_logKind_0 : decode cL_logKind 0 = .ok (.aload_n 2, 1) := by decide +kernel
theorem dL_logKind_1 : decode cL_logKind 1 = .ok (.iconst 0, 1) := by decide +kernel
theorem dL_logKind_2 : decode cL_logKind 2 = .ok (.aload_n 0, 1) := by decide +kernel
theorem dL_logKind_3 : decode cL_logKind 3 = .ok (.iload_n 1, 1) := by decide +kernel
theorem dL_logKind_4 : decode cL_logKind 4 = .ok (.invokevirtual 120, 3) := by decide +kernel
theorem dL_logKind_7 : decode cL_logKind 7 = .ok (.i2l, 1) := by decide +kernel
theorem dL_logKind_8 : decode cL_logKind 8 = .ok (.lastore, 1) := by decide +kernel
theorem dL_logKind_9 : decode cL_logKind 9 = .ok (.goto 6, 3) := by decide +kernel
theorem dL_logKind_12 : decode cL_logKind 12 = .ok (.astore_n 3, 1) := by decide +kernel
theorem dL_logKind_13 : decode cL_logKind 13 = .ok (.iconst 1, 1) := by decide +kernel
theorem dL_logKind_14 : decode cL_logKind 14 = .ok (.ireturn, 1) := by decide +kernel
theorem dL_logKind_15 : decode cL_logKind 15 = .ok (.iconst 0, 1) := by decide +kernel
theorem dL_logKind_16 : decode cL_logKind 16 = .ok (.ireturn, 1) := by decide +kernel
theorem dL_logDetail_0 : decode cL_logDetail 0 = .ok (.aload_n 2, 1) := by decide +kernel
theorem dL_logDetail_1 : decode cL_logDetail 1 = .ok (.iconst 0, 1) := by decide +kernel
theorem dL_logDetail_2 : decode cL_logDetail 2 = .ok (.aload_n 0, 1) := by decide +kernel
theorem dL_logDetail_3 : decode cL_logDetail 3 = .ok (.iload_n 1, 1) := by decide +kernel
theorem dL_logDetail_4 : decode cL_logDetail 4 = .ok (.invokevirtual 124, 3) := by decide +kernel
theorem dL_logDetail_7 : decode cL_logDetail 7 = .ok (.i2l, 1) := by decide +kernel
theorem dL_logDetail_8 : decode cL_logDetail 8 = .ok (.lastore, 1) := by decide +kernel
theorem dL_logDetail_9 : decode cL_logDetail 9 = .ok (.goto 6, 3) := by decide +kernel
theorem dL_logDetail_12 : decode cL_logDetail 12 = .ok (.astore_n 3, 1) := by decide +kernel
theorem dL_logDetail_13 : decode cL_logDetail 13 = .ok (.iconst 1, 1) := by decide +kernel
theorem dL_logDetail_14 : decode cL_logDetail 14 = .ok (.ireturn, 1) := by decide +kernel
theorem dL_logDetail_15 : decode cL_logDetail 15 = .ok (.iconst 0, 1) := by decide +kernel
theorem dL_logDetail_16 : decode cL_logDetail 16 = .ok (.ireturn, 1) := by decide +kernel
theorem dL_alarmShare_0 : decode cL_alarmShare 0 = .ok (.aload_n 2, 1) := by decide +kernel
theorem dL_alarmShare_1 : decode cL_alarmShare 1 = .ok (.iconst 0, 1) := by decide +kernel
theorem dL_alarmShare_2 : decode cL_alarmShare 2 = .ok (.aload_n 0, 1) := by decide +kernel
theorem dL_alarmShare_3 : decode cL_alarmShare 3 = .ok (.iload_n 1, 1) := by decide +kernel
theorem dL_alarmShare_4 : decode cL_alarmShare 4 = .ok (.invokevirtual 127, 3) := by decide +kernel
theorem dL_alarmShare_7 : decode cL_alarmShare 7 = .ok (.f2d, 1) := by decide +kernel
theorem dL_alarmShare_8 : decode cL_alarmShare 8 = .ok (.dastore, 1) := by decide +kernel
theorem dL_alarmShare_9 : decode cL_alarmShare 9 = .ok (.goto 9, 3) := by decide +kernel
theorem dL_alarmShare_12 : decode cL_alarmShare 12 = .ok (.astore_n 3, 1) := by decide +kernel
theorem dL_alarmShare_13 : decode cL_alarmShare 13 = .ok (.iconst 1, 1) := by decide +kernel
theorem dL_alarmShare_14 : decode cL_alarmShare 14 = .ok (.ireturn, 1) := by decide +kernel
theorem dL_alarmShare_15 : decode cL_alarmShare 15 = .ok (.astore_n 3, 1) := by decide +kernel
theorem dL_alarmShare_16 : decode cL_alarmShare 16 = .ok (.iconst 2, 1) := by decide +kernel
theorem dL_alarmShare_17 : decode cL_alarmShare 17 = .ok (.ireturn, 1) := by decide +kernel
theorem dL_alarmShare_18 : decode cL_alarmShare 18 = .ok (.iconst 0, 1) := by decide +kernel
theorem dL_alarmShare_19 : decode cL_alarmShare 19 = .ok (.ireturn, 1) := by decide +kernel
theorem dL_refusalReason_0 : decode cL_refusalReason 0 = .ok (.aload_n 1, 1) := by decide +kernel
theorem dL_refusalReason_1 : decode cL_refusalReason 1 = .ok (.iconst 0, 1) := by decide +kernel
theorem dL_refusalReason_2 : decode cL_refusalReason 2 = .ok (.aload_n 0, 1) := by decide +kernel
theorem dL_refusalReason_3 : decode cL_refusalReason 3 = .ok (.invokevirtual 133, 3) := by decide +kernel
theorem dL_refusalReason_6 : decode cL_refusalReason 6 = .ok (.i2l, 1) := by decide +kernel
theorem dL_refusalReason_7 : decode cL_refusalReason 7 = .ok (.lastore, 1) := by decide +kernel
theorem dL_refusalReason_8 : decode cL_refusalReason 8 = .ok (.goto 6, 3) := by decide +kernel
theorem dL_refusalReason_11 : decode cL_refusalReason 11 = .ok (.astore_n 2, 1) := by decide +kernel
theorem dL_refusalReason_12 : decode cL_refusalReason 12 = .ok (.iconst 1, 1) := by decide +kernel
theorem dL_refusalReason_13 : decode cL_refusalReason 13 = .ok (.ireturn, 1) := by decide +kernel
theorem dL_refusalReason_14 : decode cL_refusalReason 14 = .ok (.iconst 0, 1) := by decide +kernel
theorem dL_refusalReason_15 : decode cL_refusalReason 15 = .ok (.ireturn, 1) := by decide +kernel
theorem dL_refusalDetail_0 : decode cL_refusalDetail 0 = .ok (.aload_n 1, 1) := by decide +kernel
theorem dL_refusalDetail_1 : decode cL_refusalDetail 1 = .ok (.iconst 0, 1) := by decide +kernel
theorem dL_refusalDetail_2 : decode cL_refusalDetail 2 = .ok (.aload_n 0, 1) := by decide +kernel
theorem dL_refusalDetail_3 : decode cL_refusalDetail 3 = .ok (.invokevirtual 136, 3) := by decide +kernel
theorem dL_refusalDetail_6 : decode cL_refusalDetail 6 = .ok (.i2l, 1) := by decide +kernel
theorem dL_refusalDetail_7 : decode cL_refusalDetail 7 = .ok (.lastore, 1) := by decide +kernel
theorem dL_refusalDetail_8 : decode cL_refusalDetail 8 = .ok (.goto 6, 3) := by decide +kernel
theorem dL_refusalDetail_11 : decode cL_refusalDetail 11 = .ok (.astore_n 2, 1) := by decide +kernel
theorem dL_refusalDetail_12 : decode cL_refusalDetail 12 = .ok (.iconst 1, 1) := by decide +kernel
theorem dL_refusalDetail_13 : decode cL_refusalDetail 13 = .ok (.ireturn, 1) := by decide +kernel
theorem dL_refusalDetail_14 : decode cL_refusalDetail 14 = .ok (.iconst 0, 1) := by decide +kernel
theorem dL_refusalDetail_15 : decode cL_refusalDetail 15 = .ok (.ireturn, 1) := by decide +kernel
theorem dL_refusalCause_0 : decode cL_refusalCause 0 = .ok (.aload_n 1, 1) := by decide +kernel
theorem dL_refusalCause_1 : decode cL_refusalCause 1 = .ok (.iconst 0, 1) := by decide +kernel
theorem dL_refusalCause_2 : decode cL_refusalCause 2 = .ok (.aload_n 0, 1) := by decide +kernel
theorem dL_refusalCause_3 : decode cL_refusalCause 3 = .ok (.invokevirtual 139, 3) := by decide +kernel
theorem dL_refusalCause_6 : decode cL_refusalCause 6 = .ok (.i2l, 1) := by decide +kernel
theorem dL_refusalCause_7 : decode cL_refusalCause 7 = .ok (.lastore, 1) := by decide +kernel
theorem dL_refusalCause_8 : decode cL_refusalCause 8 = .ok (.goto 6, 3) := by decide +kernel
theorem dL_refusalCause_11 : decode cL_refusalCause 11 = .ok (.astore_n 2, 1) := by decide +kernel
theorem dL_refusalCause_12 : decode cL_refusalCause 12 = .ok (.iconst 1, 1) := by decide +kernel
theorem dL_refusalCause_13 : decode cL_refusalCause 13 = .ok (.ireturn, 1) := by decide +kernel
theorem dL_refusalCause_14 : decode cL_refusalCause 14 = .ok (.iconst 0, 1) := by decide +kernel
theorem dL_refusalCause_15 : decode cL_refusalCause 15 = .ok (.ireturn, 1) := by decide +kernel
theorem dL_feed_0 : decode cL_feed 0 = .ok (.aload_n 2, 1) := by decide +kernel
theorem dL_feed_1 : decode cL_feed 1 = .ok (.iconst 0, 1) := by decide +kernel
theorem dL_feed_2 : decode cL_feed 2 = .ok (.aload_n 0, 1) := by decide +kernel
theorem dL_feed_3 : decode cL_feed 3 = .ok (.iload_n 1, 1) := by decide +kernel
theorem dL_feed_4 : decode cL_feed 4 = .ok (.invokevirtual 142, 3) := by decide +kernel
theorem dL_feed_7 : decode cL_feed 7 = .ok (.i2l, 1) := by decide +kernel
theorem dL_feed_8 : decode cL_feed 8 = .ok (.lastore, 1) := by decide +kernel
theorem dL_feed_9 : decode cL_feed 9 = .ok (.goto 6, 3) := by decide +kernel
theorem dL_feed_12 : decode cL_feed 12 = .ok (.astore_n 3, 1) := by decide +kernel
theorem dL_feed_13 : decode cL_feed 13 = .ok (.iconst 1, 1) := by decide +kernel
theorem dL_feed_14 : decode cL_feed 14 = .ok (.ireturn, 1) := by decide +kernel
theorem dL_feed_15 : decode cL_feed 15 = .ok (.iconst 0, 1) := by decide +kernel
theorem dL_feed_16 : decode cL_feed 16 = .ok (.ireturn, 1) := by decide +kernel
theorem dL_runCommands_0 : decode cL_runCommands 0 = .ok (.aload_n 1, 1) := by decide +kernel
theorem dL_runCommands_1 : decode cL_runCommands 1 = .ok (.iconst 0, 1) := by decide +kernel
theorem dL_runCommands_2 : decode cL_runCommands 2 = .ok (.aload_n 0, 1) := by decide +kernel
theorem dL_runCommands_3 : decode cL_runCommands 3 = .ok (.invokevirtual 148, 3) := by decide +kernel
theorem dL_runCommands_6 : decode cL_runCommands 6 = .ok (.i2l, 1) := by decide +kernel
theorem dL_runCommands_7 : decode cL_runCommands 7 = .ok (.lastore, 1) := by decide +kernel
theorem dL_runCommands_8 : decode cL_runCommands 8 = .ok (.goto 9, 3) := by decide +kernel
theorem dL_runCommands_11 : decode cL_runCommands 11 = .ok (.astore_n 2, 1) := by decide +kernel
theorem dL_runCommands_12 : decode cL_runCommands 12 = .ok (.iconst 1, 1) := by decide +kernel
theorem dL_runCommands_13 : decode cL_runCommands 13 = .ok (.ireturn, 1) := by decide +kernel
theorem dL_runCommands_14 : decode cL_runCommands 14 = .ok (.astore_n 2, 1) := by decide +kernel
theorem dL_runCommands_15 : decode cL_runCommands 15 = .ok (.iconst 2, 1) := by decide +kernel
theorem dL_runCommands_16 : decode cL_runCommands 16 = .ok (.ireturn, 1) := by decide +kernel
theorem dL_runCommands_17 : decode cL_runCommands 17 = .ok (.iconst 0, 1) := by decide +kernel
theorem dL_runCommands_18 : decode cL_runCommands 18 = .ok (.ireturn, 1) := by decide +kernel
theorem dL_errorPosition_0 : decode cL_errorPosition 0 = .ok (.aload_n 1, 1) := by decide +kernel
theorem dL_errorPosition_1 : decode cL_errorPosition 1 = .ok (.iconst 0, 1) := by decide +kernel
theorem dL_errorPosition_2 : decode cL_errorPosition 2 = .ok (.aload_n 0, 1) := by decide +kernel
theorem dL_errorPosition_3 : decode cL_errorPosition 3 = .ok (.invokevirtual 151, 3) := by decide +kernel
theorem dL_errorPosition_6 : decode cL_errorPosition 6 = .ok (.i2l, 1) := by decide +kernel
theorem dL_errorPosition_7 : decode cL_errorPosition 7 = .ok (.lastore, 1) := by decide +kernel
theorem dL_errorPosition_8 : decode cL_errorPosition 8 = .ok (.goto 6, 3) := by decide +kernel
theorem dL_errorPosition_11 : decode cL_errorPosition 11 = .ok (.astore_n 2, 1) := by decide +kernel
theorem dL_errorPosition_12 : decode cL_errorPosition 12 = .ok (.iconst 1, 1) := by decide +kernel
theorem dL_errorPosition_13 : decode cL_errorPosition 13 = .ok (.ireturn, 1) := by decide +kernel
theorem dL_errorPosition_14 : decode cL_errorPosition 14 = .ok (.iconst 0, 1) := by decide +kernel
theorem dL_errorPosition_15 : decode cL_errorPosition 15 = .ok (.ireturn, 1) := by decide +kernel
theorem dL_outputChar_0 : decode cL_outputChar 0 = .ok (.aload_n 2, 1) := by decide +kernel
theorem dL_outputChar_1 : decode cL_outputChar 1 = .ok (.iconst 0, 1) := by decide +kernel
theorem dL_outputChar_2 : decode cL_outputChar 2 = .ok (.aload_n 0, 1) := by decide +kernel
theorem dL_outputChar_3 : decode cL_outputChar 3 = .ok (.iload_n 1, 1) := by decide +kernel
theorem dL_outputChar_4 : decode cL_outputChar 4 = .ok (.invokevirtual 154, 3) := by decide +kernel
theorem dL_outputChar_7 : decode cL_outputChar 7 = .ok (.i2l, 1) := by decide +kernel
theorem dL_outputChar_8 : decode cL_outputChar 8 = .ok (.lastore, 1) := by decide +kernel
theorem dL_outputChar_9 : decode cL_outputChar 9 = .ok (.goto 6, 3) := by decide +kernel
theorem dL_outputChar_12 : decode cL_outputChar 12 = .ok (.astore_n 3, 1) := by decide +kernel
theorem dL_outputChar_13 : decode cL_outputChar 13 = .ok (.iconst 1, 1) := by decide +kernel
theorem dL_outputChar_14 : decode cL_outputChar 14 = .ok (.ireturn, 1) := by decide +kernel
theorem dL_outputChar_15 : decode cL_outputChar 15 = .ok (.iconst 0, 1) := by decide +kernel
theorem dL_outputChar_16 : decode cL_outputChar 16 = .ok (.ireturn, 1) := by decide +kernel
theorem dL_undo_0 : decode cL_undo 0 = .ok (.aload_n 1, 1) := by decide +kernel
theorem dL_undo_1 : decode cL_undo 1 = .ok (.iconst 0, 1) := by decide +kernel
theorem dL_undo_2 : decode cL_undo 2 = .ok (.aload_n 0, 1) := by decide +kernel
theorem dL_undo_3 : decode cL_undo 3 = .ok (.invokevirtual 157, 3) := by decide +kernel
theorem dL_undo_6 : decode cL_undo 6 = .ok (.i2l, 1) := by decide +kernel
theorem dL_undo_7 : decode cL_undo 7 = .ok (.lastore, 1) := by decide +kernel
theorem dL_undo_8 : decode cL_undo 8 = .ok (.goto 6, 3) := by decide +kernel
theorem dL_undo_11 : decode cL_undo 11 = .ok (.astore_n 2, 1) := by decide +kernel
theorem dL_undo_12 : decode cL_undo 12 = .ok (.iconst 1, 1) := by decide +kernel
theorem dL_undo_13 : decode cL_undo 13 = .ok (.ireturn, 1) := by decide +kernel
theorem dL_undo_14 : decode cL_undo 14 = .ok (.iconst 0, 1) := by decide +kernel
theorem dL_undo_15 : decode cL_undo 15 = .ok (.ireturn, 1) := by decide +kernel
theorem dL_restore_0 : decode cL_restore 0 = .ok (.aload_n 1, 1) := by decide +kernel
theorem dL_restore_1 : decode cL_restore 1 = .ok (.iconst 0, 1) := by decide +kernel
theorem dL_restore_2 : decode cL_restore 2 = .ok (.aload_n 0, 1) := by decide +kernel
theorem dL_restore_3 : decode cL_restore 3 = .ok (.invokevirtual 160, 3) := by decide +kernel
theorem dL_restore_6 : decode cL_restore 6 = .ok (.i2l, 1) := by decide +kernel
theorem dL_restore_7 : decode cL_restore 7 = .ok (.lastore, 1) := by decide +kernel
theorem dL_restore_8 : decode cL_restore 8 = .ok (.goto 6, 3) := by decide +kernel
theorem dL_restore_11 : decode cL_restore 11 = .ok (.astore_n 2, 1) := by decide +kernel
theorem dL_restore_12 : decode cL_restore 12 = .ok (.iconst 1, 1) := by decide +kernel
theorem dL_restore_13 : decode cL_restore 13 = .ok (.ireturn, 1) := by decide +kernel
theorem dL_restore_14 : decode cL_restore 14 = .ok (.iconst 0, 1) := by decide +kernel
theorem dL_restore_15 : decode cL_restore 15 = .ok (.ireturn, 1) := by decide +kernel
theorem dL_law_0 : decode cL_law 0 = .ok (.new 8, 3) := by decide +kernel
theorem dL_law_3 : decode cL_law 3 = .ok (.dup, 1) := by decide +kernel
theorem dL_law_4 : decode cL_law 4 = .ok (.invokespecial 163, 3) := by decide +kernel
theorem dL_law_7 : decode cL_law 7 = .ok (.astore_n 1, 1) := by decide +kernel
theorem dL_law_8 : decode cL_law 8 = .ok (.new 164, 3) := by decide +kernel
theorem dL_law_11 : decode cL_law 11 = .ok (.dup, 1) := by decide +kernel
theorem dL_law_12 : decode cL_law 12 = .ok (.invokespecial 166, 3) := by decide +kernel
theorem dL_law_15 : decode cL_law 15 = .ok (.astore_n 2, 1) := by decide +kernel
theorem dL_law_16 : decode cL_law 16 = .ok (.iconst 1, 1) := by decide +kernel
theorem dL_law_17 : decode cL_law 17 = .ok (.newarray .long, 2) := by decide +kernel
theorem dL_law_19 : decode cL_law 19 = .ok (.astore_n 3, 1) := by decide +kernel
theorem dL_law_20 : decode cL_law 20 = .ok (.iconst 1, 1) := by decide +kernel
theorem dL_law_21 : decode cL_law 21 = .ok (.newarray .double, 2) := by decide +kernel
theorem dL_law_23 : decode cL_law 23 = .ok (.astore 4, 2) := by decide +kernel
theorem dL_law_25 : decode cL_law 25 = .ok (.iconst 0, 1) := by decide +kernel
theorem dL_law_26 : decode cL_law 26 = .ok (.istore 5, 2) := by decide +kernel
theorem dL_law_28 : decode cL_law 28 = .ok (.iload 5, 2) := by decide +kernel
theorem dL_law_30 : decode cL_law 30 = .ok (.aload_n 0, 1) := by decide +kernel
theorem dL_law_31 : decode cL_law 31 = .ok (.arraylength, 1) := by decide +kernel
theorem dL_law_32 : decode cL_law 32 = .ok (.iconst 5, 1) := by decide +kernel
theorem dL_law_33 : decode cL_law 33 = .ok (.isub, 1) := by decide +kernel
theorem dL_law_34 : decode cL_law 34 = .ok (.if_icmp .gt 2970, 3) := by decide +kernel
theorem dL_law_37 : decode cL_law 37 = .ok (.aload_n 0, 1) := by decide +kernel
theorem dL_law_38 : decode cL_law 38 = .ok (.iload 5, 2) := by decide +kernel
theorem dL_law_40 : decode cL_law 40 = .ok (.iaload, 1) := by decide +kernel
theorem dL_law_41 : decode cL_law 41 = .ok (.bipush 63, 2) := by decide +kernel
theorem dL_law_43 : decode cL_law 43 = .ok (.iand, 1) := by decide +kernel
theorem dL_law_44 : decode cL_law 44 = .ok (.tableswitch 2954 0 60 #[260, 304, 396, 464, 520, 576, 627, 671, 767, 830, 898, 954, 967, 980, 993, 1037, 1093, 1156, 1219, 1232, 1288, 1332, 1376, 1432, 1483, 1527, 1571, 1584, 1597, 1610, 1623, 1679, 1742, 1798, 1861, 1917, 1973, 2029, 2085, 2141, 2154, 2167, 2180, 2236, 2292, 2348, 2389, 2467, 2480, 2524, 2568, 2612, 2670, 2714, 2758, 2771, 2784, 2840, 2853, 2897, 2910], 260) := by decide +kernel
theorem dL_law_304 : decode cL_law 304 = .ok (.aload_n 1, 1) := by decide +kernel
theorem dL_law_305 : decode cL_law 305 = .ok (.aload_n 3, 1) := by decide +kernel
theorem dL_law_306 : decode cL_law 306 = .ok (.invokestatic 167, 3) := by decide +kernel
theorem dL_law_309 : decode cL_law 309 = .ok (.istore 6, 2) := by decide +kernel
theorem dL_law_311 : decode cL_law 311 = .ok (.aload_n 2, 1) := by decide +kernel
theorem dL_law_312 : decode cL_law 312 = .ok (.invokevirtual 172, 3) := by decide +kernel
theorem dL_law_315 : decode cL_law 315 = .ok (.istore 7, 2) := by decide +kernel
theorem dL_law_317 : decode cL_law 317 = .ok (.aload_n 2, 1) := by decide +kernel
theorem dL_law_318 : decode cL_law 318 = .ok (.invokevirtual 173, 3) := by decide +kernel
theorem dL_law_321 : decode cL_law 321 = .ok (.iload 6, 2) := by decide +kernel
theorem dL_law_323 : decode cL_law 323 = .ok (.if_icmp .eq 5, 3) := by decide +kernel
theorem dL_law_326 : decode cL_law 326 = .ok (.iconst 0, 1) := by decide +kernel
theorem dL_law_327 : decode cL_law 327 = .ok (.ireturn, 1) := by decide +kernel
theorem dL_law_328 : decode cL_law 328 = .ok (.iload 6, 2) := by decide +kernel
theorem dL_law_330 : decode cL_law 330 = .ok (.ifCond .ne 15, 3) := by decide +kernel
theorem dL_law_333 : decode cL_law 333 = .ok (.aload_n 3, 1) := by decide +kernel
theorem dL_law_334 : decode cL_law 334 = .ok (.iconst 0, 1) := by decide +kernel
theorem dL_law_335 : decode cL_law 335 = .ok (.laload, 1) := by decide +kernel
theorem dL_law_336 : decode cL_law 336 = .ok (.iload 7, 2) := by decide +kernel
theorem dL_law_338 : decode cL_law 338 = .ok (.i2l, 1) := by decide +kernel
theorem dL_law_339 : decode cL_law 339 = .ok (.lcmp, 1) := by decide +kernel
theorem dL_law_340 : decode cL_law 340 = .ok (.ifCond .eq 5, 3) := by decide +kernel
theorem dL_law_343 : decode cL_law 343 = .ok (.iconst 0, 1) := by decide +kernel
theorem dL_law_344 : decode cL_law 344 = .ok (.ireturn, 1) := by decide +kernel
theorem dL_law_345 : decode cL_law 345 = .ok (.goto 2653, 3) := by decide +kernel
theorem dL_law_348 : decode cL_law 348 = .ok (.aload_n 1, 1) := by decide +kernel
theorem dL_law_349 : decode cL_law 349 = .ok (.aload_n 0, 1) := by decide +kernel
theorem dL_law_350 : decode cL_law 350 = .ok (.iload 5, 2) := by decide +kernel
theorem dL_law_352 : decode cL_law 352 = .ok (.iconst 1, 1) := by decide +kernel
theorem dL_law_353 : decode cL_law 353 = .ok (.iadd, 1) := by decide +kernel
theorem dL_law_354 : decode cL_law 354 = .ok (.iaload, 1) := by decide +kernel
theorem dL_law_355 : decode cL_law 355 = .ok (.aload_n 0, 1) := by decide +kernel
theorem dL_law_356 : decode cL_law 356 = .ok (.iload 5, 2) := by decide +kernel
theorem dL_law_358 : decode cL_law 358 = .ok (.iconst 2, 1) := by decide +kernel
theorem dL_law_359 : decode cL_law 359 = .ok (.iadd, 1) := by decide +kernel
theorem dL_law_360 : decode cL_law 360 = .ok (.iaload, 1) := by decide +kernel
theorem dL_law_361 : decode cL_law 361 = .ok (.aload_n 0, 1) := by decide +kernel
theorem dL_law_362 : decode cL_law 362 = .ok (.iload 5, 2) := by decide +kernel
theorem dL_law_364 : decode cL_law 364 = .ok (.iconst 3, 1) := by decide +kernel
theorem dL_law_365 : decode cL_law 365 = .ok (.iadd, 1) := by decide +kernel
theorem dL_law_366 : decode cL_law 366 = .ok (.iaload, 1) := by decide +kernel
theorem dL_law_367 : decode cL_law 367 = .ok (.aload_n 0, 1) := by decide +kernel
theorem dL_law_368 : decode cL_law 368 = .ok (.iload 5, 2) := by decide +kernel
theorem dL_law_370 : decode cL_law 370 = .ok (.iconst 4, 1) := by decide +kernel
theorem dL_law_371 : decode cL_law 371 = .ok (.iadd, 1) := by decide +kernel
theorem dL_law_372 : decode cL_law 372 = .ok (.iaload, 1) := by decide +kernel
theorem dL_law_373 : decode cL_law 373 = .ok (.aload_n 3, 1) := by decide +kernel
theorem dL_law_374 : decode cL_law 374 = .ok (.invokestatic 176, 3) := by decide +kernel
theorem dL_law_377 : decode cL_law 377 = .ok (.istore 6, 2) := by decide +kernel
theorem dL_law_379 : decode cL_law 379 = .ok (.aload_n 2, 1) := by decide +kernel
theorem dL_law_380 : decode cL_law 380 = .ok (.aload_n 0, 1) := by decide +kernel
theorem dL_law_381 : decode cL_law 381 = .ok (.iload 5, 2) := by decide +kernel
theorem dL_law_383 : decode cL_law 383 = .ok (.iconst 1, 1) := by decide +kernel
theorem dL_law_384 : decode cL_law 384 = .ok (.iadd, 1) := by decide +kernel
theorem dL_law_385 : decode cL_law 385 = .ok (.iaload, 1) := by decide +kernel
theorem dL_law_386 : decode cL_law 386 = .ok (.aload_n 0, 1) := by decide +kernel
theorem dL_law_387 : decode cL_law 387 = .ok (.iload 5, 2) := by decide +kernel
theorem dL_law_389 : decode cL_law 389 = .ok (.iconst 2, 1) := by decide +kernel
theorem dL_law_390 : decode cL_law 390 = .ok (.iadd, 1) := by decide +kernel
theorem dL_law_391 : decode cL_law 391 = .ok (.iaload, 1) := by decide +kernel
theorem dL_law_392 : decode cL_law 392 = .ok (.aload_n 0, 1) := by decide +kernel
theorem dL_law_393 : decode cL_law 393 = .ok (.iload 5, 2) := by decide +kernel
theorem dL_law_395 : decode cL_law 395 = .ok (.iconst 3, 1) := by decide +kernel
theorem dL_law_396 : decode cL_law 396 = .ok (.iadd, 1) := by decide +kernel
theorem dL_law_397 : decode cL_law 397 = .ok (.iaload, 1) := by decide +kernel
theorem dL_law_398 : decode cL_law 398 = .ok (.aload_n 0, 1) := by decide +kernel
theorem dL_law_399 : decode cL_law 399 = .ok (.iload 5, 2) := by decide +kernel
theorem dL_law_401 : decode cL_law 401 = .ok (.iconst 4, 1) := by decide +kernel
theorem dL_law_402 : decode cL_law 402 = .ok (.iadd, 1) := by decide +kernel
theorem dL_law_403 : decode cL_law 403 = .ok (.iaload, 1) := by decide +kernel
theorem dL_law_404 : decode cL_law 404 = .ok (.invokevirtual 179, 3) := by decide +kernel
theorem dL_law_407 : decode cL_law 407 = .ok (.istore 7, 2) := by decide +kernel
theorem dL_law_409 : decode cL_law 409 = .ok (.aload_n 2, 1) := by decide +kernel
theorem dL_law_410 : decode cL_law 410 = .ok (.invokevirtual 173, 3) := by decide +kernel
theorem dL_law_413 : decode cL_law 413 = .ok (.iload 6, 2) := by decide +kernel
theorem dL_law_415 : decode cL_law 415 = .ok (.if_icmp .eq 5, 3) := by decide +kernel
theorem dL_law_418 : decode cL_law 418 = .ok (.iconst 0, 1) := by decide +kernel
theorem dL_law_419 : decode cL_law 419 = .ok (.ireturn, 1) := by decide +kernel
theorem dL_law_420 : decode cL_law 420 = .ok (.iload 6, 2) := by decide +kernel
theorem dL_law_422 : decode cL_law 422 = .ok (.ifCond .ne 15, 3) := by decide +kernel
theorem dL_law_425 : decode cL_law 425 = .ok (.aload_n 3, 1) := by decide +kernel
theorem dL_law_426 : decode cL_law 426 = .ok (.iconst 0, 1) := by decide +kernel
theorem dL_law_427 : decode cL_law 427 = .ok (.laload, 1) := by decide +kernel
theorem dL_law_428 : decode cL_law 428 = .ok (.iload 7, 2) := by decide +kernel
theorem dL_law_430 : decode cL_law 430 = .ok (.i2l, 1) := by decide +kernel
theorem dL_law_431 : decode cL_law 431 = .ok (.lcmp, 1) := by decide +kernel
theorem dL_law_432 : decode cL_law 432 = .ok (.ifCond .eq 5, 3) := by decide +kernel
theorem dL_law_435 : decode cL_law 435 = .ok (.iconst 0, 1) := by decide +kernel
theorem dL_law_436 : decode cL_law 436 = .ok (.ireturn, 1) := by decide +kernel
theorem dL_law_437 : decode cL_law 437 = .ok (.goto 2561, 3) := by decide +kernel
theorem dL_law_440 : decode cL_law 440 = .ok (.aload_n 1, 1) := by decide +kernel
theorem dL_law_441 : decode cL_law 441 = .ok (.aload_n 0, 1) := by decide +kernel
theorem dL_law_442 : decode cL_law 442 = .ok (.iload 5, 2) := by decide +kernel
theorem dL_law_444 : decode cL_law 444 = .ok (.iconst 1, 1) := by decide +kernel
theorem dL_law_445 : decode cL_law 445 = .ok (.iadd, 1) := by decide +kernel
theorem dL_law_446 : decode cL_law 446 = .ok (.iaload, 1) := by decide +kernel
theorem dL_law_447 : decode cL_law 447 = .ok (.aload_n 0, 1) := by decide +kernel
theorem dL_law_448 : decode cL_law 448 = .ok (.iload 5, 2) := by decide +kernel
theorem dL_law_450 : decode cL_law 450 = .ok (.iconst 2, 1) := by decide +kernel
theorem dL_law_451 : decode cL_law 451 = .ok (.iadd, 1) := by decide +kernel
theorem dL_law_452 : decode cL_law 452 = .ok (.iaload, 1) := by decide +kernel
theorem dL_law_453 : decode cL_law 453 = .ok (.aload_n 3, 1) := by decide +kernel
theorem dL_law_454 : decode cL_law 454 = .ok (.invokestatic 180, 3) := by decide +kernel
theorem dL_law_457 : decode cL_law 457 = .ok (.istore 6, 2) := by decide +kernel
theorem dL_law_459 : decode cL_law 459 = .ok (.aload_n 2, 1) := by decide +kernel
theorem dL_law_460 : decode cL_law 460 = .ok (.aload_n 0, 1) := by decide +kernel
theorem dL_law_461 : decode cL_law 461 = .ok (.iload 5, 2) := by decide +kernel
theorem dL_law_463 : decode cL_law 463 = .ok (.iconst 1, 1) := by decide +kernel
theorem dL_law_464 : decode cL_law 464 = .ok (.iadd, 1) := by decide +kernel
theorem dL_law_465 : decode cL_law 465 = .ok (.iaload, 1) := by decide +kernel
theorem dL_law_466 : decode cL_law 466 = .ok (.aload_n 0, 1) := by decide +kernel
theorem dL_law_467 : decode cL_law 467 = .ok (.iload 5, 2) := by decide +kernel
theorem dL_law_469 : decode cL_law 469 = .ok (.iconst 2, 1) := by decide +kernel
theorem dL_law_470 : decode cL_law 470 = .ok (.iadd, 1) := by decide +kernel
theorem dL_law_471 : decode cL_law 471 = .ok (.iaload, 1) := by decide +kernel
theorem dL_law_472 : decode cL_law 472 = .ok (.invokevirtual 183, 3) := by decide +kernel
theorem dL_law_475 : decode cL_law 475 = .ok (.istore 7, 2) := by decide +kernel
theorem dL_law_477 : decode cL_law 477 = .ok (.aload_n 2, 1) := by decide +kernel
theorem dL_law_478 : decode cL_law 478 = .ok (.invokevirtual 173, 3) := by decide +kernel
theorem dL_law_481 : decode cL_law 481 = .ok (.iload 6, 2) := by decide +kernel
theorem dL_law_483 : decode cL_law 483 = .ok (.if_icmp .eq 5, 3) := by decide +kernel
theorem dL_law_486 : decode cL_law 486 = .ok (.iconst 0, 1) := by decide +kernel
theorem dL_law_487 : decode cL_law 487 = .ok (.ireturn, 1) := by decide +kernel
theorem dL_law_488 : decode cL_law 488 = .ok (.iload 6, 2) := by decide +kernel
theorem dL_law_490 : decode cL_law 490 = .ok (.ifCond .ne 15, 3) := by decide +kernel
theorem dL_law_493 : decode cL_law 493 = .ok (.aload_n 3, 1) := by decide +kernel
theorem dL_law_494 : decode cL_law 494 = .ok (.iconst 0, 1) := by decide +kernel
theorem dL_law_495 : decode cL_law 495 = .ok (.laload, 1) := by decide +kernel
theorem dL_law_496 : decode cL_law 496 = .ok (.iload 7, 2) := by decide +kernel
theorem dL_law_498 : decode cL_law 498 = .ok (.i2l, 1) := by decide +kernel
theorem dL_law_499 : decode cL_law 499 = .ok (.lcmp, 1) := by decide +kernel
theorem dL_law_500 : decode cL_law 500 = .ok (.ifCond .eq 5, 3) := by decide +kernel
theorem dL_law_503 : decode cL_law 503 = .ok (.iconst 0, 1) := by decide +kernel
theorem dL_law_504 : decode cL_law 504 = .ok (.ireturn, 1) := by decide +kernel
theorem dL_law_505 : decode cL_law 505 = .ok (.goto 2493, 3) := by decide +kernel
theorem dL_law_508 : decode cL_law 508 = .ok (.aload_n 1, 1) := by decide +kernel
theorem dL_law_509 : decode cL_law 509 = .ok (.aload_n 0, 1) := by decide +kernel
theorem dL_law_510 : decode cL_law 510 = .ok (.iload 5, 2) := by decide +kernel
theorem dL_law_512 : decode cL_law 512 = .ok (.iconst 1, 1) := by decide +kernel
theorem dL_law_513 : decode cL_law 513 = .ok (.iadd, 1) := by decide +kernel
theorem dL_law_514 : decode cL_law 514 = .ok (.iaload, 1) := by decide +kernel
theorem dL_law_515 : decode cL_law 515 = .ok (.aload_n 3, 1) := by decide +kernel
theorem dL_law_516 : decode cL_law 516 = .ok (.invokestatic 184, 3) := by decide +kernel
theorem dL_law_519 : decode cL_law 519 = .ok (.istore 6, 2) := by decide +kernel
theorem dL_law_521 : decode cL_law 521 = .ok (.aload_n 2, 1) := by decide +kernel
theorem dL_law_522 : decode cL_law 522 = .ok (.aload_n 0, 1) := by decide +kernel
theorem dL_law_523 : decode cL_law 523 = .ok (.iload 5, 2) := by decide +kernel
theorem dL_law_525 : decode cL_law 525 = .ok (.iconst 1, 1) := by decide +kernel
theorem dL_law_526 : decode cL_law 526 = .ok (.iadd, 1) := by decide +kernel
theorem dL_law_527 : decode cL_law 527 = .ok (.iaload, 1) := by decide +kernel
theorem dL_law_528 : decode cL_law 528 = .ok (.invokevirtual 187, 3) := by decide +kernel
theorem dL_law_531 : decode cL_law 531 = .ok (.istore 7, 2) := by decide +kernel
theorem dL_law_533 : decode cL_law 533 = .ok (.aload_n 2, 1) := by decide +kernel
theorem dL_law_534 : decode cL_law 534 = .ok (.invokevirtual 173, 3) := by decide +kernel
theorem dL_law_537 : decode cL_law 537 = .ok (.iload 6, 2) := by decide +kernel
theorem dL_law_539 : decode cL_law 539 = .ok (.if_icmp .eq 5, 3) := by decide +kernel
theorem dL_law_542 : decode cL_law 542 = .ok (.iconst 0, 1) := by decide +kernel
theorem dL_law_543 : decode cL_law 543 = .ok (.ireturn, 1) := by decide +kernel
theorem dL_law_544 : decode cL_law 544 = .ok (.iload 6, 2) := by decide +kernel
theorem dL_law_546 : decode cL_law 546 = .ok (.ifCond .ne 15, 3) := by decide +kernel
theorem dL_law_549 : decode cL_law 549 = .ok (.aload_n 3, 1) := by decide +kernel
theorem dL_law_550 : decode cL_law 550 = .ok (.iconst 0, 1) := by decide +kernel
theorem dL_law_551 : decode cL_law 551 = .ok (.laload, 1) := by decide +kernel
theorem dL_law_552 : decode cL_law 552 = .ok (.iload 7, 2) := by decide +kernel
theorem dL_law_554 : decode cL_law 554 = .ok (.i2l, 1) := by decide +kernel
theorem dL_law_555 : decode cL_law 555 = .ok (.lcmp, 1) := by decide +kernel
theorem dL_law_556 : decode cL_law 556 = .ok (.ifCond .eq 5, 3) := by decide +kernel
theorem dL_law_559 : decode cL_law 559 = .ok (.iconst 0, 1) := by decide +kernel
theorem dL_law_560 : decode cL_law 560 = .ok (.ireturn, 1) := by decide +kernel
theorem dL_law_561 : decode cL_law 561 = .ok (.goto 2437, 3) := by decide +kernel
theorem dL_law_564 : decode cL_law 564 = .ok (.aload_n 1, 1) := by decide +kernel
theorem dL_law_565 : decode cL_law 565 = .ok (.aload_n 0, 1) := by decide +kernel
theorem dL_law_566 : decode cL_law 566 = .ok (.iload 5, 2) := by decide +kernel
theorem dL_law_568 : decode cL_law 568 = .ok (.iconst 1, 1) := by decide +kernel
theorem dL_law_569 : decode cL_law 569 = .ok (.iadd, 1) := by decide +kernel
theorem dL_law_570 : decode cL_law 570 = .ok (.iaload, 1) := by decide +kernel
theorem dL_law_571 : decode cL_law 571 = .ok (.aload_n 3, 1) := by decide +kernel
theorem dL_law_572 : decode cL_law 572 = .ok (.invokestatic 188, 3) := by decide +kernel
theorem dL_law_575 : decode cL_law 575 = .ok (.istore 6, 2) := by decide +kernel
theorem dL_law_577 : decode cL_law 577 = .ok (.aload_n 2, 1) := by decide +kernel
theorem dL_law_578 : decode cL_law 578 = .ok (.aload_n 0, 1) := by decide +kernel
theorem dL_law_579 : decode cL_law 579 = .ok (.iload 5, 2) := by decide +kernel
theorem dL_law_581 : decode cL_law 581 = .ok (.iconst 1, 1) := by decide +kernel
theorem dL_law_582 : decode cL_law 582 = .ok (.iadd, 1) := by decide +kernel
theorem dL_law_583 : decode cL_law 583 = .ok (.iaload, 1) := by decide +kernel
theorem dL_law_584 : decode cL_law 584 = .ok (.invokevirtual 190, 3) := by decide +kernel
theorem dL_law_587 : decode cL_law 587 = .ok (.istore 7, 2) := by decide +kernel
theorem dL_law_589 : decode cL_law 589 = .ok (.aload_n 2, 1) := by decide +kernel
theorem dL_law_590 : decode cL_law 590 = .ok (.invokevirtual 173, 3) := by decide +kernel
theorem dL_law_593 : decode cL_law 593 = .ok (.iload 6, 2) := by decide +kernel
theorem dL_law_595 : decode cL_law 595 = .ok (.if_icmp .eq 5, 3) := by decide +kernel
theorem dL_law_598 : decode cL_law 598 = .ok (.iconst 0, 1) := by decide +kernel
theorem dL_law_599 : decode cL_law 599 = .ok (.ireturn, 1) := by decide +kernel
theorem dL_law_600 : decode cL_law 600 = .ok (.iload 6, 2) := by decide +kernel
theorem dL_law_602 : decode cL_law 602 = .ok (.ifCond .ne 15, 3) := by decide +kernel
theorem dL_law_605 : decode cL_law 605 = .ok (.aload_n 3, 1) := by decide +kernel
theorem dL_law_606 : decode cL_law 606 = .ok (.iconst 0, 1) := by decide +kernel
theorem dL_law_607 : decode cL_law 607 = .ok (.laload, 1) := by decide +kernel
theorem dL_law_608 : decode cL_law 608 = .ok (.iload 7, 2) := by decide +kernel
theorem dL_law_610 : decode cL_law 610 = .ok (.i2l, 1) := by decide +kernel
theorem dL_law_611 : decode cL_law 611 = .ok (.lcmp, 1) := by decide +kernel
theorem dL_law_612 : decode cL_law 612 = .ok (.ifCond .eq 5, 3) := by decide +kernel
theorem dL_law_615 : decode cL_law 615 = .ok (.iconst 0, 1) := by decide +kernel
theorem dL_law_616 : decode cL_law 616 = .ok (.ireturn, 1) := by decide +kernel
theorem dL_law_617 : decode cL_law 617 = .ok (.goto 2381, 3) := by decide +kernel
theorem dL_law_620 : decode cL_law 620 = .ok (.aload_n 1, 1) := by decide +kernel
theorem dL_law_621 : decode cL_law 621 = .ok (.aload_n 3, 1) := by decide +kernel
theorem dL_law_622 : decode cL_law 622 = .ok (.invokestatic 191, 3) := by decide +kernel
theorem dL_law_625 : decode cL_law 625 = .ok (.istore 6, 2) := by decide +kernel
theorem dL_law_627 : decode cL_law 627 = .ok (.aload_n 2, 1) := by decide +kernel
theorem dL_law_628 : decode cL_law 628 = .ok (.invokevirtual 193, 3) := by decide +kernel
theorem dL_law_631 : decode cL_law 631 = .ok (.istore 7, 2) := by decide +kernel
theorem dL_law_633 : decode cL_law 633 = .ok (.aload_n 2, 1) := by decide +kernel
theorem dL_law_634 : decode cL_law 634 = .ok (.invokevirtual 173, 3) := by decide +kernel
theorem dL_law_637 : decode cL_law 637 = .ok (.iload 6, 2) := by decide +kernel
theorem dL_law_639 : decode cL_law 639 = .ok (.if_icmp .eq 5, 3) := by decide +kernel
theorem dL_law_642 : decode cL_law 642 = .ok (.iconst 0, 1) := by decide +kernel
theorem dL_law_643 : decode cL_law 643 = .ok (.ireturn, 1) := by decide +kernel
theorem dL_law_644 : decode cL_law 644 = .ok (.iload 6, 2) := by decide +kernel
theorem dL_law_646 : decode cL_law 646 = .ok (.ifCond .ne 22, 3) := by decide +kernel
theorem dL_law_649 : decode cL_law 649 = .ok (.aload_n 3, 1) := by decide +kernel
theorem dL_law_650 : decode cL_law 650 = .ok (.iconst 0, 1) := by decide +kernel
theorem dL_law_651 : decode cL_law 651 = .ok (.laload, 1) := by decide +kernel
theorem dL_law_652 : decode cL_law 652 = .ok (.iload 7, 2) := by decide +kernel
theorem dL_law_654 : decode cL_law 654 = .ok (.ifCond .eq 7, 3) := by decide +kernel
theorem dL_law_657 : decode cL_law 657 = .ok (.lconst 1, 1) := by decide +kernel
theorem dL_law_658 : decode cL_law 658 = .ok (.goto 4, 3) := by decide +kernel
theorem dL_law_661 : decode cL_law 661 = .ok (.lconst 0, 1) := by decide +kernel
theorem dL_law_662 : decode cL_law 662 = .ok (.lcmp, 1) := by decide +kernel
theorem dL_law_663 : decode cL_law 663 = .ok (.ifCond .eq 5, 3) := by decide +kernel
theorem dL_law_666 : decode cL_law 666 = .ok (.iconst 0, 1) := by decide +kernel
theorem dL_law_667 : decode cL_law 667 = .ok (.ireturn, 1) := by decide +kernel
theorem dL_law_668 : decode cL_law 668 = .ok (.goto 2330, 3) := by decide +kernel
theorem dL_law_671 : decode cL_law 671 = .ok (.aload_n 1, 1) := by decide +kernel
theorem dL_law_672 : decode cL_law 672 = .ok (.aload_n 3, 1) := by decide +kernel
theorem dL_law_673 : decode cL_law 673 = .ok (.invokestatic 194, 3) := by decide +kernel
theorem dL_law_676 : decode cL_law 676 = .ok (.istore 6, 2) := by decide +kernel
theorem dL_law_678 : decode cL_law 678 = .ok (.aload_n 2, 1) := by decide +kernel
theorem dL_law_679 : decode cL_law 679 = .ok (.invokevirtual 196, 3) := by decide +kernel
theorem dL_law_682 : decode cL_law 682 = .ok (.istore 7, 2) := by decide +kernel
theorem dL_law_684 : decode cL_law 684 = .ok (.aload_n 2, 1) := by decide +kernel
theorem dL_law_685 : decode cL_law 685 = .ok (.invokevirtual 173, 3) := by decide +kernel
theorem dL_law_688 : decode cL_law 688 = .ok (.iload 6, 2) := by decide +kernel
theorem dL_law_690 : decode cL_law 690 = .ok (.if_icmp .eq 5, 3) := by decide +kernel
theorem dL_law_693 : decode cL_law 693 = .ok (.iconst 0, 1) := by decide +kernel
theorem dL_law_694 : decode cL_law 694 = .ok (.ireturn, 1) := by decide +kernel
theorem dL_law_695 : decode cL_law 695 = .ok (.iload 6, 2) := by decide +kernel
theorem dL_law_697 : decode cL_law 697 = .ok (.ifCond .ne 15, 3) := by decide +kernel
theorem dL_law_700 : decode cL_law 700 = .ok (.aload_n 3, 1) := by decide +kernel
theorem dL_law_701 : decode cL_law 701 = .ok (.iconst 0, 1) := by decide +kernel
theorem dL_law_702 : decode cL_law 702 = .ok (.laload, 1) := by decide +kernel
theorem dL_law_703 : decode cL_law 703 = .ok (.iload 7, 2) := by decide +kernel
theorem dL_law_705 : decode cL_law 705 = .ok (.i2l, 1) := by decide +kernel
theorem dL_law_706 : decode cL_law 706 = .ok (.lcmp, 1) := by decide +kernel
theorem dL_law_707 : decode cL_law 707 = .ok (.ifCond .eq 5, 3) := by decide +kernel
theorem dL_law_710 : decode cL_law 710 = .ok (.iconst 0, 1) := by decide +kernel
theorem dL_law_711 : decode cL_law 711 = .ok (.ireturn, 1) := by decide +kernel
theorem dL_law_712 : decode cL_law 712 = .ok (.goto 2286, 3) := by decide +kernel
theorem dL_law_715 : decode cL_law 715 = .ok (.aload_n 1, 1) := by decide +kernel
theorem dL_law_716 : decode cL_law 716 = .ok (.aload_n 0, 1) := by decide +kernel
theorem dL_law_717 : decode cL_law 717 = .ok (.iload 5, 2) := by decide +kernel
theorem dL_law_719 : decode cL_law 719 = .ok (.iconst 1, 1) := by decide +kernel
theorem dL_law_720 : decode cL_law 720 = .ok (.iadd, 1) := by decide +kernel
theorem dL_law_721 : decode cL_law 721 = .ok (.iaload, 1) := by decide +kernel
theorem dL_law_722 : decode cL_law 722 = .ok (.aload_n 0, 1) := by decide +kernel
theorem dL_law_723 : decode cL_law 723 = .ok (.iload 5, 2) := by decide +kernel
theorem dL_law_725 : decode cL_law 725 = .ok (.iconst 2, 1) := by decide +kernel
theorem dL_law_726 : decode cL_law 726 = .ok (.iadd, 1) := by decide +kernel
theorem dL_law_727 : decode cL_law 727 = .ok (.iaload, 1) := by decide +kernel
theorem dL_law_728 : decode cL_law 728 = .ok (.ifCond .eq 7, 3) := by decide +kernel
theorem dL_law_731 : decode cL_law 731 = .ok (.iconst 1, 1) := by decide +kernel
theorem dL_law_732 : decode cL_law 732 = .ok (.goto 4, 3) := by decide +kernel
theorem dL_law_735 : decode cL_law 735 = .ok (.iconst 0, 1) := by decide +kernel
theorem dL_law_736 : decode cL_law 736 = .ok (.aload_n 0, 1) := by decide +kernel
theorem dL_law_737 : decode cL_law 737 = .ok (.iload 5, 2) := by decide +kernel
theorem dL_law_739 : decode cL_law 739 = .ok (.iconst 3, 1) := by decide +kernel
theorem dL_law_740 : decode cL_law 740 = .ok (.iadd, 1) := by decide +kernel
theorem dL_law_741 : decode cL_law 741 = .ok (.iaload, 1) := by decide +kernel
theorem dL_law_742 : decode cL_law 742 = .ok (.aload_n 3, 1) := by decide +kernel
theorem dL_law_743 : decode cL_law 743 = .ok (.invokestatic 197, 3) := by decide +kernel
theorem dL_law_746 : decode cL_law 746 = .ok (.istore 6, 2) := by decide +kernel
theorem dL_law_748 : decode cL_law 748 = .ok (.aload_n 2, 1) := by decide +kernel
theorem dL_law_749 : decode cL_law 749 = .ok (.aload_n 0, 1) := by decide +kernel
theorem dL_law_750 : decode cL_law 750 = .ok (.iload 5, 2) := by decide +kernel
theorem dL_law_752 : decode cL_law 752 = .ok (.iconst 1, 1) := by decide +kernel
theorem dL_law_753 : decode cL_law 753 = .ok (.iadd, 1) := by decide +kernel
theorem dL_law_754 : decode cL_law 754 = .ok (.iaload, 1) := by decide +kernel
theorem dL_law_755 : decode cL_law 755 = .ok (.aload_n 0, 1) := by decide +kernel
theorem dL_law_756 : decode cL_law 756 = .ok (.iload 5, 2) := by decide +kernel
theorem dL_law_758 : decode cL_law 758 = .ok (.iconst 2, 1) := by decide +kernel
theorem dL_law_759 : decode cL_law 759 = .ok (.iadd, 1) := by decide +kernel
theorem dL_law_760 : decode cL_law 760 = .ok (.iaload, 1) := by decide +kernel
theorem dL_law_761 : decode cL_law 761 = .ok (.ifCond .eq 7, 3) := by decide +kernel
theorem dL_law_764 : decode cL_law 764 = .ok (.iconst 1, 1) := by decide +kernel
theorem dL_law_765 : decode cL_law 765 = .ok (.goto 4, 3) := by decide +kernel
theorem dL_law_768 : decode cL_law 768 = .ok (.iconst 0, 1) := by decide +kernel
theorem dL_law_769 : decode cL_law 769 = .ok (.aload_n 0, 1) := by decide +kernel
theorem dL_law_770 : decode cL_law 770 = .ok (.iload 5, 2) := by decide +kernel
theorem dL_law_772 : decode cL_law 772 = .ok (.iconst 3, 1) := by decide +kernel
theorem dL_law_773 : decode cL_law 773 = .ok (.iadd, 1) := by decide +kernel
theorem dL_law_774 : decode cL_law 774 = .ok (.iaload, 1) := by decide +kernel
theorem dL_law_775 : decode cL_law 775 = .ok (.invokevirtual 200, 3) := by decide +kernel
theorem dL_law_778 : decode cL_law 778 = .ok (.istore 7, 2) := by decide +kernel
theorem dL_law_780 : decode cL_law 780 = .ok (.aload_n 2, 1) := by decide +kernel
theorem dL_law_781 : decode cL_law 781 = .ok (.invokevirtual 173, 3) := by decide +kernel
theorem dL_law_784 : decode cL_law 784 = .ok (.iload 6, 2) := by decide +kernel
theorem dL_law_786 : decode cL_law 786 = .ok (.if_icmp .eq 5, 3) := by decide +kernel
theorem dL_law_789 : decode cL_law 789 = .ok (.iconst 0, 1) := by decide +kernel
theorem dL_law_790 : decode cL_law 790 = .ok (.ireturn, 1) := by decide +kernel
theorem dL_law_791 : decode cL_law 791 = .ok (.iload 6, 2) := by decide +kernel
theorem dL_law_793 : decode cL_law 793 = .ok (.ifCond .ne 15, 3) := by decide +kernel
theorem dL_law_796 : decode cL_law 796 = .ok (.aload_n 3, 1) := by decide +kernel
theorem dL_law_797 : decode cL_law 797 = .ok (.iconst 0, 1) := by decide +kernel
theorem dL_law_798 : decode cL_law 798 = .ok (.laload, 1) := by decide +kernel
theorem dL_law_799 : decode cL_law 799 = .ok (.iload 7, 2) := by decide +kernel
theorem dL_law_801 : decode cL_law 801 = .ok (.i2l, 1) := by decide +kernel
theorem dL_law_802 : decode cL_law 802 = .ok (.lcmp, 1) := by decide +kernel
theorem dL_law_803 : decode cL_law 803 = .ok (.ifCond .eq 5, 3) := by decide +kernel
theorem dL_law_806 : decode cL_law 806 = .ok (.iconst 0, 1) := by decide +kernel
theorem dL_law_807 : decode cL_law 807 = .ok (.ireturn, 1) := by decide +kernel
theorem dL_law_808 : decode cL_law 808 = .ok (.goto 2190, 3) := by decide +kernel
theorem dL_law_811 : decode cL_law 811 = .ok (.aload_n 1, 1) := by decide +kernel
theorem dL_law_812 : decode cL_law 812 = .ok (.aload_n 0, 1) := by decide +kernel
theorem dL_law_813 : decode cL_law 813 = .ok (.iload 5, 2) := by decide +kernel
theorem dL_law_815 : decode cL_law 815 = .ok (.iconst 1, 1) := by decide +kernel
theorem dL_law_816 : decode cL_law 816 = .ok (.iadd, 1) := by decide +kernel
theorem dL_law_817 : decode cL_law 817 = .ok (.iaload, 1) := by decide +kernel
theorem dL_law_818 : decode cL_law 818 = .ok (.aload_n 3, 1) := by decide +kernel
theorem dL_law_819 : decode cL_law 819 = .ok (.invokestatic 201, 3) := by decide +kernel
theorem dL_law_822 : decode cL_law 822 = .ok (.istore 6, 2) := by decide +kernel
theorem dL_law_824 : decode cL_law 824 = .ok (.aload_n 2, 1) := by decide +kernel
theorem dL_law_825 : decode cL_law 825 = .ok (.aload_n 0, 1) := by decide +kernel
theorem dL_law_826 : decode cL_law 826 = .ok (.iload 5, 2) := by decide +kernel
theorem dL_law_828 : decode cL_law 828 = .ok (.iconst 1, 1) := by decide +kernel
theorem dL_law_829 : decode cL_law 829 = .ok (.iadd, 1) := by decide +kernel
theorem dL_law_830 : decode cL_law 830 = .ok (.iaload, 1) := by decide +kernel
theorem dL_law_831 : decode cL_law 831 = .ok (.invokevirtual 203, 3) := by decide +kernel
theorem dL_law_834 : decode cL_law 834 = .ok (.istore 7, 2) := by decide +kernel
theorem dL_law_836 : decode cL_law 836 = .ok (.aload_n 2, 1) := by decide +kernel
theorem dL_law_837 : decode cL_law 837 = .ok (.invokevirtual 173, 3) := by decide +kernel
theorem dL_law_840 : decode cL_law 840 = .ok (.iload 6, 2) := by decide +kernel
theorem dL_law_842 : decode cL_law 842 = .ok (.if_icmp .eq 5, 3) := by decide +kernel
theorem dL_law_845 : decode cL_law 845 = .ok (.iconst 0, 1) := by decide +kernel
theorem dL_law_846 : decode cL_law 846 = .ok (.ireturn, 1) := by decide +kernel
theorem dL_law_847 : decode cL_law 847 = .ok (.iload 6, 2) := by decide +kernel
theorem dL_law_849 : decode cL_law 849 = .ok (.ifCond .ne 22, 3) := by decide +kernel
theorem dL_law_852 : decode cL_law 852 = .ok (.aload_n 3, 1) := by decide +kernel
theorem dL_law_853 : decode cL_law 853 = .ok (.iconst 0, 1) := by decide +kernel
theorem dL_law_854 : decode cL_law 854 = .ok (.laload, 1) := by decide +kernel
theorem dL_law_855 : decode cL_law 855 = .ok (.iload 7, 2) := by decide +kernel
theorem dL_law_857 : decode cL_law 857 = .ok (.ifCond .eq 7, 3) := by decide +kernel
theorem dL_law_860 : decode cL_law 860 = .ok (.lconst 1, 1) := by decide +kernel
theorem dL_law_861 : decode cL_law 861 = .ok (.goto 4, 3) := by decide +kernel
theorem dL_law_864 : decode cL_law 864 = .ok (.lconst 0, 1) := by decide +kernel
theorem dL_law_865 : decode cL_law 865 = .ok (.lcmp, 1) := by decide +kernel
theorem dL_law_866 : decode cL_law 866 = .ok (.ifCond .eq 5, 3) := by decide +kernel
theorem dL_law_869 : decode cL_law 869 = .ok (.iconst 0, 1) := by decide +kernel
theorem dL_law_870 : decode cL_law 870 = .ok (.ireturn, 1) := by decide +kernel
theorem dL_law_871 : decode cL_law 871 = .ok (.goto 2127, 3) := by decide +kernel
theorem dL_law_874 : decode cL_law 874 = .ok (.aload_n 1, 1) := by decide +kernel
theorem dL_law_875 : decode cL_law 875 = .ok (.aload_n 0, 1) := by decide +kernel
theorem dL_law_876 : decode cL_law 876 = .ok (.iload 5, 2) := by decide +kernel
theorem dL_law_878 : decode cL_law 878 = .ok (.iconst 1, 1) := by decide +kernel
theorem dL_law_879 : decode cL_law 879 = .ok (.iadd, 1) := by decide +kernel
theorem dL_law_880 : decode cL_law 880 = .ok (.iaload, 1) := by decide +kernel
theorem dL_law_881 : decode cL_law 881 = .ok (.aload_n 0, 1) := by decide +kernel
theorem dL_law_882 : decode cL_law 882 = .ok (.iload 5, 2) := by decide +kernel
theorem dL_law_884 : decode cL_law 884 = .ok (.iconst 2, 1) := by decide +kernel
theorem dL_law_885 : decode cL_law 885 = .ok (.iadd, 1) := by decide +kernel
theorem dL_law_886 : decode cL_law 886 = .ok (.iaload, 1) := by decide +kernel
theorem dL_law_887 : decode cL_law 887 = .ok (.aload_n 3, 1) := by decide +kernel
theorem dL_law_888 : decode cL_law 888 = .ok (.invokestatic 204, 3) := by decide +kernel
theorem dL_law_891 : decode cL_law 891 = .ok (.istore 6, 2) := by decide +kernel
theorem dL_law_893 : decode cL_law 893 = .ok (.aload_n 2, 1) := by decide +kernel
theorem dL_law_894 : decode cL_law 894 = .ok (.aload_n 0, 1) := by decide +kernel
theorem dL_law_895 : decode cL_law 895 = .ok (.iload 5, 2) := by decide +kernel
theorem dL_law_897 : decode cL_law 897 = .ok (.iconst 1, 1) := by decide +kernel
theorem dL_law_898 : decode cL_law 898 = .ok (.iadd, 1) := by decide +kernel
theorem dL_law_899 : decode cL_law 899 = .ok (.iaload, 1) := by decide +kernel
theorem dL_law_900 : decode cL_law 900 = .ok (.aload_n 0, 1) := by decide +kernel
theorem dL_law_901 : decode cL_law 901 = .ok (.iload 5, 2) := by decide +kernel
theorem dL_law_903 : decode cL_law 903 = .ok (.iconst 2, 1) := by decide +kernel
theorem dL_law_904 : decode cL_law 904 = .ok (.iadd, 1) := by decide +kernel
theorem dL_law_905 : decode cL_law 905 = .ok (.iaload, 1) := by decide +kernel
theorem dL_law_906 : decode cL_law 906 = .ok (.invokevirtual 206, 3) := by decide +kernel
theorem dL_law_909 : decode cL_law 909 = .ok (.istore 7, 2) := by decide +kernel
theorem dL_law_911 : decode cL_law 911 = .ok (.aload_n 2, 1) := by decide +kernel
theorem dL_law_912 : decode cL_law 912 = .ok (.invokevirtual 173, 3) := by decide +kernel
theorem dL_law_915 : decode cL_law 915 = .ok (.iload 6, 2) := by decide +kernel
theorem dL_law_917 : decode cL_law 917 = .ok (.if_icmp .eq 5, 3) := by decide +kernel
theorem dL_law_920 : decode cL_law 920 = .ok (.iconst 0, 1) := by decide +kernel
theorem dL_law_921 : decode cL_law 921 = .ok (.ireturn, 1) := by decide +kernel
theorem dL_law_922 : decode cL_law 922 = .ok (.iload 6, 2) := by decide +kernel
theorem dL_law_924 : decode cL_law 924 = .ok (.ifCond .ne 15, 3) := by decide +kernel
theorem dL_law_927 : decode cL_law 927 = .ok (.aload_n 3, 1) := by decide +kernel
theorem dL_law_928 : decode cL_law 928 = .ok (.iconst 0, 1) := by decide +kernel
theorem dL_law_929 : decode cL_law 929 = .ok (.laload, 1) := by decide +kernel
theorem dL_law_930 : decode cL_law 930 = .ok (.iload 7, 2) := by decide +kernel
theorem dL_law_932 : decode cL_law 932 = .ok (.i2l, 1) := by decide +kernel
theorem dL_law_933 : decode cL_law 933 = .ok (.lcmp, 1) := by decide +kernel
theorem dL_law_934 : decode cL_law 934 = .ok (.ifCond .eq 5, 3) := by decide +kernel
theorem dL_law_937 : decode cL_law 937 = .ok (.iconst 0, 1) := by decide +kernel
theorem dL_law_938 : decode cL_law 938 = .ok (.ireturn, 1) := by decide +kernel
theorem dL_law_939 : decode cL_law 939 = .ok (.goto 2059, 3) := by decide +kernel
theorem dL_law_942 : decode cL_law 942 = .ok (.aload_n 1, 1) := by decide +kernel
theorem dL_law_943 : decode cL_law 943 = .ok (.aload_n 0, 1) := by decide +kernel
theorem dL_law_944 : decode cL_law 944 = .ok (.iload 5, 2) := by decide +kernel
theorem dL_law_946 : decode cL_law 946 = .ok (.iconst 1, 1) := by decide +kernel
theorem dL_law_947 : decode cL_law 947 = .ok (.iadd, 1) := by decide +kernel
theorem dL_law_948 : decode cL_law 948 = .ok (.iaload, 1) := by decide +kernel
theorem dL_law_949 : decode cL_law 949 = .ok (.aload_n 3, 1) := by decide +kernel
theorem dL_law_950 : decode cL_law 950 = .ok (.invokestatic 207, 3) := by decide +kernel
theorem dL_law_953 : decode cL_law 953 = .ok (.istore 6, 2) := by decide +kernel
theorem dL_law_955 : decode cL_law 955 = .ok (.aload_n 2, 1) := by decide +kernel
theorem dL_law_956 : decode cL_law 956 = .ok (.aload_n 0, 1) := by decide +kernel
theorem dL_law_957 : decode cL_law 957 = .ok (.iload 5, 2) := by decide +kernel
theorem dL_law_959 : decode cL_law 959 = .ok (.iconst 1, 1) := by decide +kernel
theorem dL_law_960 : decode cL_law 960 = .ok (.iadd, 1) := by decide +kernel
theorem dL_law_961 : decode cL_law 961 = .ok (.iaload, 1) := by decide +kernel
theorem dL_law_962 : decode cL_law 962 = .ok (.invokevirtual 209, 3) := by decide +kernel
theorem dL_law_965 : decode cL_law 965 = .ok (.istore 7, 2) := by decide +kernel
theorem dL_law_967 : decode cL_law 967 = .ok (.aload_n 2, 1) := by decide +kernel
theorem dL_law_968 : decode cL_law 968 = .ok (.invokevirtual 173, 3) := by decide +kernel
theorem dL_law_971 : decode cL_law 971 = .ok (.iload 6, 2) := by decide +kernel
theorem dL_law_973 : decode cL_law 973 = .ok (.if_icmp .eq 5, 3) := by decide +kernel
theorem dL_law_976 : decode cL_law 976 = .ok (.iconst 0, 1) := by decide +kernel
theorem dL_law_977 : decode cL_law 977 = .ok (.ireturn, 1) := by decide +kernel
theorem dL_law_978 : decode cL_law 978 = .ok (.iload 6, 2) := by decide +kernel
theorem dL_law_980 : decode cL_law 980 = .ok (.ifCond .ne 15, 3) := by decide +kernel
theorem dL_law_983 : decode cL_law 983 = .ok (.aload_n 3, 1) := by decide +kernel
theorem dL_law_984 : decode cL_law 984 = .ok (.iconst 0, 1) := by decide +kernel
theorem dL_law_985 : decode cL_law 985 = .ok (.laload, 1) := by decide +kernel
theorem dL_law_986 : decode cL_law 986 = .ok (.iload 7, 2) := by decide +kernel
theorem dL_law_988 : decode cL_law 988 = .ok (.i2l, 1) := by decide +kernel
theorem dL_law_989 : decode cL_law 989 = .ok (.lcmp, 1) := by decide +kernel
theorem dL_law_990 : decode cL_law 990 = .ok (.ifCond .eq 5, 3) := by decide +kernel
theorem dL_law_993 : decode cL_law 993 = .ok (.iconst 0, 1) := by decide +kernel
theorem dL_law_994 : decode cL_law 994 = .ok (.ireturn, 1) := by decide +kernel
theorem dL_law_995 : decode cL_law 995 = .ok (.goto 2003, 3) := by decide +kernel
theorem dL_law_998 : decode cL_law 998 = .ok (.aload_n 1, 1) := by decide +kernel
theorem dL_law_999 : decode cL_law 999 = .ok (.invokevirtual 210, 3) := by decide +kernel
theorem dL_law_1002 : decode cL_law 1002 = .ok (.aload_n 2, 1) := by decide +kernel
theorem dL_law_1003 : decode cL_law 1003 = .ok (.invokevirtual 213, 3) := by decide +kernel
theorem dL_law_1006 : decode cL_law 1006 = .ok (.if_icmp .eq 1992, 3) := by decide +kernel
theorem dL_law_1009 : decode cL_law 1009 = .ok (.iconst 0, 1) := by decide +kernel
theorem dL_law_1010 : decode cL_law 1010 = .ok (.ireturn, 1) := by decide +kernel
theorem dL_law_1011 : decode cL_law 1011 = .ok (.aload_n 1, 1) := by decide +kernel
theorem dL_law_1012 : decode cL_law 1012 = .ok (.invokevirtual 214, 3) := by decide +kernel
theorem dL_law_1015 : decode cL_law 1015 = .ok (.aload_n 2, 1) := by decide +kernel
theorem dL_law_1016 : decode cL_law 1016 = .ok (.invokevirtual 217, 3) := by decide +kernel
theorem dL_law_1019 : decode cL_law 1019 = .ok (.if_icmp .eq 1979, 3) := by decide +kernel
theorem dL_law_1022 : decode cL_law 1022 = .ok (.iconst 0, 1) := by decide +kernel
theorem dL_law_1023 : decode cL_law 1023 = .ok (.ireturn, 1) := by decide +kernel
theorem dL_law_1024 : decode cL_law 1024 = .ok (.aload_n 1, 1) := by decide +kernel
theorem dL_law_1025 : decode cL_law 1025 = .ok (.invokevirtual 218, 3) := by decide +kernel
theorem dL_law_1028 : decode cL_law 1028 = .ok (.aload_n 2, 1) := by decide +kernel
theorem dL_law_1029 : decode cL_law 1029 = .ok (.invokevirtual 221, 3) := by decide +kernel
theorem dL_law_1032 : decode cL_law 1032 = .ok (.if_icmp .eq 1966, 3) := by decide +kernel
theorem dL_law_1035 : decode cL_law 1035 = .ok (.iconst 0, 1) := by decide +kernel
theorem dL_law_1036 : decode cL_law 1036 = .ok (.ireturn, 1) := by decide +kernel
theorem dL_law_1037 : decode cL_law 1037 = .ok (.aload_n 1, 1) := by decide +kernel
theorem dL_law_1038 : decode cL_law 1038 = .ok (.aload_n 3, 1) := by decide +kernel
theorem dL_law_1039 : decode cL_law 1039 = .ok (.invokestatic 222, 3) := by decide +kernel
theorem dL_law_1042 : decode cL_law 1042 = .ok (.istore 6, 2) := by decide +kernel
theorem dL_law_1044 : decode cL_law 1044 = .ok (.aload_n 2, 1) := by decide +kernel
theorem dL_law_1045 : decode cL_law 1045 = .ok (.invokevirtual 224, 3) := by decide +kernel
theorem dL_law_1048 : decode cL_law 1048 = .ok (.istore 7, 2) := by decide +kernel
theorem dL_law_1050 : decode cL_law 1050 = .ok (.aload_n 2, 1) := by decide +kernel
theorem dL_law_1051 : decode cL_law 1051 = .ok (.invokevirtual 173, 3) := by decide +kernel
theorem dL_law_1054 : decode cL_law 1054 = .ok (.iload 6, 2) := by decide +kernel
theorem dL_law_1056 : decode cL_law 1056 = .ok (.if_icmp .eq 5, 3) := by decide +kernel
theorem dL_law_1059 : decode cL_law 1059 = .ok (.iconst 0, 1) := by decide +kernel
theorem dL_law_1060 : decode cL_law 1060 = .ok (.ireturn, 1) := by decide +kernel
theorem dL_law_1061 : decode cL_law 1061 = .ok (.iload 6, 2) := by decide +kernel
theorem dL_law_1063 : decode cL_law 1063 = .ok (.ifCond .ne 15, 3) := by decide +kernel
theorem dL_law_1066 : decode cL_law 1066 = .ok (.aload_n 3, 1) := by decide +kernel
theorem dL_law_1067 : decode cL_law 1067 = .ok (.iconst 0, 1) := by decide +kernel
theorem dL_law_1068 : decode cL_law 1068 = .ok (.laload, 1) := by decide +kernel
theorem dL_law_1069 : decode cL_law 1069 = .ok (.iload 7, 2) := by decide +kernel
theorem dL_law_1071 : decode cL_law 1071 = .ok (.i2l, 1) := by decide +kernel
theorem dL_law_1072 : decode cL_law 1072 = .ok (.lcmp, 1) := by decide +kernel
theorem dL_law_1073 : decode cL_law 1073 = .ok (.ifCond .eq 5, 3) := by decide +kernel
theorem dL_law_1076 : decode cL_law 1076 = .ok (.iconst 0, 1) := by decide +kernel
theorem dL_law_1077 : decode cL_law 1077 = .ok (.ireturn, 1) := by decide +kernel
theorem dL_law_1078 : decode cL_law 1078 = .ok (.goto 1920, 3) := by decide +kernel
theorem dL_law_1081 : decode cL_law 1081 = .ok (.aload_n 1, 1) := by decide +kernel
theorem dL_law_1082 : decode cL_law 1082 = .ok (.aload_n 0, 1) := by decide +kernel
theorem dL_law_1083 : decode cL_law 1083 = .ok (.iload 5, 2) := by decide +kernel
theorem dL_law_1085 : decode cL_law 1085 = .ok (.iconst 1, 1) := by decide +kernel
theorem dL_law_1086 : decode cL_law 1086 = .ok (.iadd, 1) := by decide +kernel
theorem dL_law_1087 : decode cL_law 1087 = .ok (.iaload, 1) := by decide +kernel
theorem dL_law_1088 : decode cL_law 1088 = .ok (.aload_n 3, 1) := by decide +kernel
theorem dL_law_1089 : decode cL_law 1089 = .ok (.invokestatic 225, 3) := by decide +kernel
theorem dL_law_1092 : decode cL_law 1092 = .ok (.istore 6, 2) := by decide +kernel
theorem dL_law_1094 : decode cL_law 1094 = .ok (.aload_n 2, 1) := by decide +kernel
theorem dL_law_1095 : decode cL_law 1095 = .ok (.aload_n 0, 1) := by decide +kernel
theorem dL_law_1096 : decode cL_law 1096 = .ok (.iload 5, 2) := by decide +kernel
theorem dL_law_1098 : decode cL_law 1098 = .ok (.iconst 1, 1) := by decide +kernel
theorem dL_law_1099 : decode cL_law 1099 = .ok (.iadd, 1) := by decide +kernel
theorem dL_law_1100 : decode cL_law 1100 = .ok (.iaload, 1) := by decide +kernel
theorem dL_law_1101 : decode cL_law 1101 = .ok (.invokevirtual 227, 3) := by decide +kernel
theorem dL_law_1104 : decode cL_law 1104 = .ok (.istore 7, 2) := by decide +kernel
theorem dL_law_1106 : decode cL_law 1106 = .ok (.aload_n 2, 1) := by decide +kernel
theorem dL_law_1107 : decode cL_law 1107 = .ok (.invokevirtual 173, 3) := by decide +kernel
theorem dL_law_1110 : decode cL_law 1110 = .ok (.iload 6, 2) := by decide +kernel
theorem dL_law_1112 : decode cL_law 1112 = .ok (.if_icmp .eq 5, 3) := by decide +kernel
theorem dL_law_1115 : decode cL_law 1115 = .ok (.iconst 0, 1) := by decide +kernel
theorem dL_law_1116 : decode cL_law 1116 = .ok (.ireturn, 1) := by decide +kernel
theorem dL_law_1117 : decode cL_law 1117 = .ok (.iload 6, 2) := by decide +kernel
theorem dL_law_1119 : decode cL_law 1119 = .ok (.ifCond .ne 15, 3) := by decide +kernel
theorem dL_law_1122 : decode cL_law 1122 = .ok (.aload_n 3, 1) := by decide +kernel
theorem dL_law_1123 : decode cL_law 1123 = .ok (.iconst 0, 1) := by decide +kernel
theorem dL_law_1124 : decode cL_law 1124 = .ok (.laload, 1) := by decide +kernel
theorem dL_law_1125 : decode cL_law 1125 = .ok (.iload 7, 2) := by decide +kernel
theorem dL_law_1127 : decode cL_law 1127 = .ok (.i2l, 1) := by decide +kernel
theorem dL_law_1128 : decode cL_law 1128 = .ok (.lcmp, 1) := by decide +kernel
theorem dL_law_1129 : decode cL_law 1129 = .ok (.ifCond .eq 5, 3) := by decide +kernel
theorem dL_law_1132 : decode cL_law 1132 = .ok (.iconst 0, 1) := by decide +kernel
theorem dL_law_1133 : decode cL_law 1133 = .ok (.ireturn, 1) := by decide +kernel
theorem dL_law_1134 : decode cL_law 1134 = .ok (.goto 1864, 3) := by decide +kernel
theorem dL_law_1137 : decode cL_law 1137 = .ok (.aload_n 1, 1) := by decide +kernel
theorem dL_law_1138 : decode cL_law 1138 = .ok (.aload_n 0, 1) := by decide +kernel
theorem dL_law_1139 : decode cL_law 1139 = .ok (.iload 5, 2) := by decide +kernel
theorem dL_law_1141 : decode cL_law 1141 = .ok (.iconst 1, 1) := by decide +kernel
theorem dL_law_1142 : decode cL_law 1142 = .ok (.iadd, 1) := by decide +kernel
theorem dL_law_1143 : decode cL_law 1143 = .ok (.iaload, 1) := by decide +kernel
theorem dL_law_1144 : decode cL_law 1144 = .ok (.aload_n 3, 1) := by decide +kernel
theorem dL_law_1145 : decode cL_law 1145 = .ok (.invokestatic 228, 3) := by decide +kernel
theorem dL_law_1148 : decode cL_law 1148 = .ok (.istore 6, 2) := by decide +kernel
theorem dL_law_1150 : decode cL_law 1150 = .ok (.aload_n 2, 1) := by decide +kernel
theorem dL_law_1151 : decode cL_law 1151 = .ok (.aload_n 0, 1) := by decide +kernel
theorem dL_law_1152 : decode cL_law 1152 = .ok (.iload 5, 2) := by decide +kernel
theorem dL_law_1154 : decode cL_law 1154 = .ok (.iconst 1, 1) := by decide +kernel
theorem dL_law_1155 : decode cL_law 1155 = .ok (.iadd, 1) := by decide +kernel
theorem dL_law_1156 : decode cL_law 1156 = .ok (.iaload, 1) := by decide +kernel
theorem dL_law_1157 : decode cL_law 1157 = .ok (.invokevirtual 230, 3) := by decide +kernel
theorem dL_law_1160 : decode cL_law 1160 = .ok (.istore 7, 2) := by decide +kernel
theorem dL_law_1162 : decode cL_law 1162 = .ok (.aload_n 2, 1) := by decide +kernel
theorem dL_law_1163 : decode cL_law 1163 = .ok (.invokevirtual 173, 3) := by decide +kernel
theorem dL_law_1166 : decode cL_law 1166 = .ok (.iload 6, 2) := by decide +kernel
theorem dL_law_1168 : decode cL_law 1168 = .ok (.if_icmp .eq 5, 3) := by decide +kernel
theorem dL_law_1171 : decode cL_law 1171 = .ok (.iconst 0, 1) := by decide +kernel
theorem dL_law_1172 : decode cL_law 1172 = .ok (.ireturn, 1) := by decide +kernel
theorem dL_law_1173 : decode cL_law 1173 = .ok (.iload 6, 2) := by decide +kernel
theorem dL_law_1175 : decode cL_law 1175 = .ok (.ifCond .ne 22, 3) := by decide +kernel
theorem dL_law_1178 : decode cL_law 1178 = .ok (.aload_n 3, 1) := by decide +kernel
theorem dL_law_1179 : decode cL_law 1179 = .ok (.iconst 0, 1) := by decide +kernel
theorem dL_law_1180 : decode cL_law 1180 = .ok (.laload, 1) := by decide +kernel
theorem dL_law_1181 : decode cL_law 1181 = .ok (.iload 7, 2) := by decide +kernel
theorem dL_law_1183 : decode cL_law 1183 = .ok (.ifCond .eq 7, 3) := by decide +kernel
theorem dL_law_1186 : decode cL_law 1186 = .ok (.lconst 1, 1) := by decide +kernel
theorem dL_law_1187 : decode cL_law 1187 = .ok (.goto 4, 3) := by decide +kernel
theorem dL_law_1190 : decode cL_law 1190 = .ok (.lconst 0, 1) := by decide +kernel
theorem dL_law_1191 : decode cL_law 1191 = .ok (.lcmp, 1) := by decide +kernel
theorem dL_law_1192 : decode cL_law 1192 = .ok (.ifCond .eq 5, 3) := by decide +kernel
theorem dL_law_1195 : decode cL_law 1195 = .ok (.iconst 0, 1) := by decide +kernel
theorem dL_law_1196 : decode cL_law 1196 = .ok (.ireturn, 1) := by decide +kernel
theorem dL_law_1197 : decode cL_law 1197 = .ok (.goto 1801, 3) := by decide +kernel
theorem dL_law_1200 : decode cL_law 1200 = .ok (.aload_n 1, 1) := by decide +kernel
theorem dL_law_1201 : decode cL_law 1201 = .ok (.aload_n 0, 1) := by decide +kernel
theorem dL_law_1202 : decode cL_law 1202 = .ok (.iload 5, 2) := by decide +kernel
theorem dL_law_1204 : decode cL_law 1204 = .ok (.iconst 1, 1) := by decide +kernel
theorem dL_law_1205 : decode cL_law 1205 = .ok (.iadd, 1) := by decide +kernel
theorem dL_law_1206 : decode cL_law 1206 = .ok (.iaload, 1) := by decide +kernel
theorem dL_law_1207 : decode cL_law 1207 = .ok (.aload_n 3, 1) := by decide +kernel
theorem dL_law_1208 : decode cL_law 1208 = .ok (.invokestatic 231, 3) := by decide +kernel
theorem dL_law_1211 : decode cL_law 1211 = .ok (.istore 6, 2) := by decide +kernel
theorem dL_law_1213 : decode cL_law 1213 = .ok (.aload_n 2, 1) := by decide +kernel
theorem dL_law_1214 : decode cL_law 1214 = .ok (.aload_n 0, 1) := by decide +kernel
theorem dL_law_1215 : decode cL_law 1215 = .ok (.iload 5, 2) := by decide +kernel
theorem dL_law_1217 : decode cL_law 1217 = .ok (.iconst 1, 1) := by decide +kernel
theorem dL_law_1218 : decode cL_law 1218 = .ok (.iadd, 1) := by decide +kernel
theorem dL_law_1219 : decode cL_law 1219 = .ok (.iaload, 1) := by decide +kernel
theorem dL_law_1220 : decode cL_law 1220 = .ok (.invokevirtual 233, 3) := by decide +kernel
theorem dL_law_1223 : decode cL_law 1223 = .ok (.istore 7, 2) := by decide +kernel
theorem dL_law_1225 : decode cL_law 1225 = .ok (.aload_n 2, 1) := by decide +kernel
theorem dL_law_1226 : decode cL_law 1226 = .ok (.invokevirtual 173, 3) := by decide +kernel
theorem dL_law_1229 : decode cL_law 1229 = .ok (.iload 6, 2) := by decide +kernel
theorem dL_law_1231 : decode cL_law 1231 = .ok (.if_icmp .eq 5, 3) := by decide +kernel
theorem dL_law_1234 : decode cL_law 1234 = .ok (.iconst 0, 1) := by decide +kernel
theorem dL_law_1235 : decode cL_law 1235 = .ok (.ireturn, 1) := by decide +kernel
theorem dL_law_1236 : decode cL_law 1236 = .ok (.iload 6, 2) := by decide +kernel
theorem dL_law_1238 : decode cL_law 1238 = .ok (.ifCond .ne 22, 3) := by decide +kernel
theorem dL_law_1241 : decode cL_law 1241 = .ok (.aload_n 3, 1) := by decide +kernel
theorem dL_law_1242 : decode cL_law 1242 = .ok (.iconst 0, 1) := by decide +kernel
theorem dL_law_1243 : decode cL_law 1243 = .ok (.laload, 1) := by decide +kernel
theorem dL_law_1244 : decode cL_law 1244 = .ok (.iload 7, 2) := by decide +kernel
theorem dL_law_1246 : decode cL_law 1246 = .ok (.ifCond .eq 7, 3) := by decide +kernel
theorem dL_law_1249 : decode cL_law 1249 = .ok (.lconst 1, 1) := by decide +kernel
theorem dL_law_1250 : decode cL_law 1250 = .ok (.goto 4, 3) := by decide +kernel
theorem dL_law_1253 : decode cL_law 1253 = .ok (.lconst 0, 1) := by decide +kernel
theorem dL_law_1254 : decode cL_law 1254 = .ok (.lcmp, 1) := by decide +kernel
theorem dL_law_1255 : decode cL_law 1255 = .ok (.ifCond .eq 5, 3) := by decide +kernel
theorem dL_law_1258 : decode cL_law 1258 = .ok (.iconst 0, 1) := by decide +kernel
theorem dL_law_1259 : decode cL_law 1259 = .ok (.ireturn, 1) := by decide +kernel
theorem dL_law_1260 : decode cL_law 1260 = .ok (.goto 1738, 3) := by decide +kernel
theorem dL_law_1263 : decode cL_law 1263 = .ok (.aload_n 1, 1) := by decide +kernel
theorem dL_law_1264 : decode cL_law 1264 = .ok (.invokevirtual 234, 3) := by decide +kernel
theorem dL_law_1267 : decode cL_law 1267 = .ok (.aload_n 2, 1) := by decide +kernel
theorem dL_law_1268 : decode cL_law 1268 = .ok (.invokevirtual 237, 3) := by decide +kernel
theorem dL_law_1271 : decode cL_law 1271 = .ok (.if_icmp .eq 1727, 3) := by decide +kernel
theorem dL_law_1274 : decode cL_law 1274 = .ok (.iconst 0, 1) := by decide +kernel
theorem dL_law_1275 : decode cL_law 1275 = .ok (.ireturn, 1) := by decide +kernel
theorem dL_law_1276 : decode cL_law 1276 = .ok (.aload_n 1, 1) := by decide +kernel
theorem dL_law_1277 : decode cL_law 1277 = .ok (.aload_n 0, 1) := by decide +kernel
theorem dL_law_1278 : decode cL_law 1278 = .ok (.iload 5, 2) := by decide +kernel
theorem dL_law_1280 : decode cL_law 1280 = .ok (.iconst 1, 1) := by decide +kernel
theorem dL_law_1281 : decode cL_law 1281 = .ok (.iadd, 1) := by decide +kernel
theorem dL_law_1282 : decode cL_law 1282 = .ok (.iaload, 1) := by decide +kernel
theorem dL_law_1283 : decode cL_law 1283 = .ok (.aload_n 3, 1) := by decide +kernel
theorem dL_law_1284 : decode cL_law 1284 = .ok (.invokestatic 238, 3) := by decide +kernel
theorem dL_law_1287 : decode cL_law 1287 = .ok (.istore 6, 2) := by decide +kernel
theorem dL_law_1289 : decode cL_law 1289 = .ok (.aload_n 2, 1) := by decide +kernel
theorem dL_law_1290 : decode cL_law 1290 = .ok (.aload_n 0, 1) := by decide +kernel
theorem dL_law_1291 : decode cL_law 1291 = .ok (.iload 5, 2) := by decide +kernel
theorem dL_law_1293 : decode cL_law 1293 = .ok (.iconst 1, 1) := by decide +kernel
theorem dL_law_1294 : decode cL_law 1294 = .ok (.iadd, 1) := by decide +kernel
theorem dL_law_1295 : decode cL_law 1295 = .ok (.iaload, 1) := by decide +kernel
theorem dL_law_1296 : decode cL_law 1296 = .ok (.invokevirtual 240, 3) := by decide +kernel
theorem dL_law_1299 : decode cL_law 1299 = .ok (.istore 7, 2) := by decide +kernel
theorem dL_law_1301 : decode cL_law 1301 = .ok (.aload_n 2, 1) := by decide +kernel
theorem dL_law_1302 : decode cL_law 1302 = .ok (.invokevirtual 173, 3) := by decide +kernel
theorem dL_law_1305 : decode cL_law 1305 = .ok (.iload 6, 2) := by decide +kernel
theorem dL_law_1307 : decode cL_law 1307 = .ok (.if_icmp .eq 5, 3) := by decide +kernel
theorem dL_law_1310 : decode cL_law 1310 = .ok (.iconst 0, 1) := by decide +kernel
theorem dL_law_1311 : decode cL_law 1311 = .ok (.ireturn, 1) := by decide +kernel
theorem dL_law_1312 : decode cL_law 1312 = .ok (.iload 6, 2) := by decide +kernel
theorem dL_law_1314 : decode cL_law 1314 = .ok (.ifCond .ne 15, 3) := by decide +kernel
theorem dL_law_1317 : decode cL_law 1317 = .ok (.aload_n 3, 1) := by decide +kernel
theorem dL_law_1318 : decode cL_law 1318 = .ok (.iconst 0, 1) := by decide +kernel
theorem dL_law_1319 : decode cL_law 1319 = .ok (.laload, 1) := by decide +kernel
theorem dL_law_1320 : decode cL_law 1320 = .ok (.iload 7, 2) := by decide +kernel
theorem dL_law_1322 : decode cL_law 1322 = .ok (.i2l, 1) := by decide +kernel
theorem dL_law_1323 : decode cL_law 1323 = .ok (.lcmp, 1) := by decide +kernel
theorem dL_law_1324 : decode cL_law 1324 = .ok (.ifCond .eq 5, 3) := by decide +kernel
theorem dL_law_1327 : decode cL_law 1327 = .ok (.iconst 0, 1) := by decide +kernel
theorem dL_law_1328 : decode cL_law 1328 = .ok (.ireturn, 1) := by decide +kernel
theorem dL_law_1329 : decode cL_law 1329 = .ok (.goto 1669, 3) := by decide +kernel
theorem dL_law_1332 : decode cL_law 1332 = .ok (.aload_n 1, 1) := by decide +kernel
theorem dL_law_1333 : decode cL_law 1333 = .ok (.aload_n 3, 1) := by decide +kernel
theorem dL_law_1334 : decode cL_law 1334 = .ok (.invokestatic 241, 3) := by decide +kernel
theorem dL_law_1337 : decode cL_law 1337 = .ok (.istore 6, 2) := by decide +kernel
theorem dL_law_1339 : decode cL_law 1339 = .ok (.aload_n 2, 1) := by decide +kernel
theorem dL_law_1340 : decode cL_law 1340 = .ok (.invokevirtual 243, 3) := by decide +kernel
theorem dL_law_1343 : decode cL_law 1343 = .ok (.istore 7, 2) := by decide +kernel
theorem dL_law_1345 : decode cL_law 1345 = .ok (.aload_n 2, 1) := by decide +kernel
theorem dL_law_1346 : decode cL_law 1346 = .ok (.invokevirtual 173, 3) := by decide +kernel
theorem dL_law_1349 : decode cL_law 1349 = .ok (.iload 6, 2) := by decide +kernel
theorem dL_law_1351 : decode cL_law 1351 = .ok (.if_icmp .eq 5, 3) := by decide +kernel
theorem dL_law_1354 : decode cL_law 1354 = .ok (.iconst 0, 1) := by decide +kernel
theorem dL_law_1355 : decode cL_law 1355 = .ok (.ireturn, 1) := by decide +kernel
theorem dL_law_1356 : decode cL_law 1356 = .ok (.iload 6, 2) := by decide +kernel
theorem dL_law_1358 : decode cL_law 1358 = .ok (.ifCond .ne 15, 3) := by decide +kernel
theorem dL_law_1361 : decode cL_law 1361 = .ok (.aload_n 3, 1) := by decide +kernel
theorem dL_law_1362 : decode cL_law 1362 = .ok (.iconst 0, 1) := by decide +kernel
theorem dL_law_1363 : decode cL_law 1363 = .ok (.laload, 1) := by decide +kernel
theorem dL_law_1364 : decode cL_law 1364 = .ok (.iload 7, 2) := by decide +kernel
theorem dL_law_1366 : decode cL_law 1366 = .ok (.i2l, 1) := by decide +kernel
theorem dL_law_1367 : decode cL_law 1367 = .ok (.lcmp, 1) := by decide +kernel
theorem dL_law_1368 : decode cL_law 1368 = .ok (.ifCond .eq 5, 3) := by decide +kernel
theorem dL_law_1371 : decode cL_law 1371 = .ok (.iconst 0, 1) := by decide +kernel
theorem dL_law_1372 : decode cL_law 1372 = .ok (.ireturn, 1) := by decide +kernel
theorem dL_law_1373 : decode cL_law 1373 = .ok (.goto 1625, 3) := by decide +kernel
theorem dL_law_1376 : decode cL_law 1376 = .ok (.aload_n 1, 1) := by decide +kernel
theorem dL_law_1377 : decode cL_law 1377 = .ok (.aload_n 3, 1) := by decide +kernel
theorem dL_law_1378 : decode cL_law 1378 = .ok (.invokestatic 244, 3) := by decide +kernel
theorem dL_law_1381 : decode cL_law 1381 = .ok (.istore 6, 2) := by decide +kernel
theorem dL_law_1383 : decode cL_law 1383 = .ok (.aload_n 2, 1) := by decide +kernel
theorem dL_law_1384 : decode cL_law 1384 = .ok (.invokevirtual 246, 3) := by decide +kernel
theorem dL_law_1387 : decode cL_law 1387 = .ok (.istore 7, 2) := by decide +kernel
theorem dL_law_1389 : decode cL_law 1389 = .ok (.aload_n 2, 1) := by decide +kernel
theorem dL_law_1390 : decode cL_law 1390 = .ok (.invokevirtual 173, 3) := by decide +kernel
theorem dL_law_1393 : decode cL_law 1393 = .ok (.iload 6, 2) := by decide +kernel
theorem dL_law_1395 : decode cL_law 1395 = .ok (.if_icmp .eq 5, 3) := by decide +kernel
theorem dL_law_1398 : decode cL_law 1398 = .ok (.iconst 0, 1) := by decide +kernel
theorem dL_law_1399 : decode cL_law 1399 = .ok (.ireturn, 1) := by decide +kernel
theorem dL_law_1400 : decode cL_law 1400 = .ok (.iload 6, 2) := by decide +kernel
theorem dL_law_1402 : decode cL_law 1402 = .ok (.ifCond .ne 15, 3) := by decide +kernel
theorem dL_law_1405 : decode cL_law 1405 = .ok (.aload_n 3, 1) := by decide +kernel
theorem dL_law_1406 : decode cL_law 1406 = .ok (.iconst 0, 1) := by decide +kernel
theorem dL_law_1407 : decode cL_law 1407 = .ok (.laload, 1) := by decide +kernel
theorem dL_law_1408 : decode cL_law 1408 = .ok (.iload 7, 2) := by decide +kernel
theorem dL_law_1410 : decode cL_law 1410 = .ok (.i2l, 1) := by decide +kernel
theorem dL_law_1411 : decode cL_law 1411 = .ok (.lcmp, 1) := by decide +kernel
theorem dL_law_1412 : decode cL_law 1412 = .ok (.ifCond .eq 5, 3) := by decide +kernel
theorem dL_law_1415 : decode cL_law 1415 = .ok (.iconst 0, 1) := by decide +kernel
theorem dL_law_1416 : decode cL_law 1416 = .ok (.ireturn, 1) := by decide +kernel
theorem dL_law_1417 : decode cL_law 1417 = .ok (.goto 1581, 3) := by decide +kernel
theorem dL_law_1420 : decode cL_law 1420 = .ok (.aload_n 1, 1) := by decide +kernel
theorem dL_law_1421 : decode cL_law 1421 = .ok (.aload_n 0, 1) := by decide +kernel
theorem dL_law_1422 : decode cL_law 1422 = .ok (.iload 5, 2) := by decide +kernel
theorem dL_law_1424 : decode cL_law 1424 = .ok (.iconst 1, 1) := by decide +kernel
theorem dL_law_1425 : decode cL_law 1425 = .ok (.iadd, 1) := by decide +kernel
theorem dL_law_1426 : decode cL_law 1426 = .ok (.iaload, 1) := by decide +kernel
theorem dL_law_1427 : decode cL_law 1427 = .ok (.aload_n 3, 1) := by decide +kernel
theorem dL_law_1428 : decode cL_law 1428 = .ok (.invokestatic 247, 3) := by decide +kernel
theorem dL_law_1431 : decode cL_law 1431 = .ok (.istore 6, 2) := by decide +kernel
theorem dL_law_1433 : decode cL_law 1433 = .ok (.aload_n 2, 1) := by decide +kernel
theorem dL_law_1434 : decode cL_law 1434 = .ok (.aload_n 0, 1) := by decide +kernel
theorem dL_law_1435 : decode cL_law 1435 = .ok (.iload 5, 2) := by decide +kernel
theorem dL_law_1437 : decode cL_law 1437 = .ok (.iconst 1, 1) := by decide +kernel
theorem dL_law_1438 : decode cL_law 1438 = .ok (.iadd, 1) := by decide +kernel
theorem dL_law_1439 : decode cL_law 1439 = .ok (.iaload, 1) := by decide +kernel
theorem dL_law_1440 : decode cL_law 1440 = .ok (.invokevirtual 249, 3) := by decide +kernel
theorem dL_law_1443 : decode cL_law 1443 = .ok (.istore 7, 2) := by decide +kernel
theorem dL_law_1445 : decode cL_law 1445 = .ok (.aload_n 2, 1) := by decide +kernel
theorem dL_law_1446 : decode cL_law 1446 = .ok (.invokevirtual 173, 3) := by decide +kernel
theorem dL_law_1449 : decode cL_law 1449 = .ok (.iload 6, 2) := by decide +kernel
theorem dL_law_1451 : decode cL_law 1451 = .ok (.if_icmp .eq 5, 3) := by decide +kernel
theorem dL_law_1454 : decode cL_law 1454 = .ok (.iconst 0, 1) := by decide +kernel
theorem dL_law_1455 : decode cL_law 1455 = .ok (.ireturn, 1) := by decide +kernel
theorem dL_law_1456 : decode cL_law 1456 = .ok (.iload 6, 2) := by decide +kernel
theorem dL_law_1458 : decode cL_law 1458 = .ok (.ifCond .ne 15, 3) := by decide +kernel
theorem dL_law_1461 : decode cL_law 1461 = .ok (.aload_n 3, 1) := by decide +kernel
theorem dL_law_1462 : decode cL_law 1462 = .ok (.iconst 0, 1) := by decide +kernel
theorem dL_law_1463 : decode cL_law 1463 = .ok (.laload, 1) := by decide +kernel
theorem dL_law_1464 : decode cL_law 1464 = .ok (.iload 7, 2) := by decide +kernel
theorem dL_law_1466 : decode cL_law 1466 = .ok (.i2l, 1) := by decide +kernel
theorem dL_law_1467 : decode cL_law 1467 = .ok (.lcmp, 1) := by decide +kernel
theorem dL_law_1468 : decode cL_law 1468 = .ok (.ifCond .eq 5, 3) := by decide +kernel
theorem dL_law_1471 : decode cL_law 1471 = .ok (.iconst 0, 1) := by decide +kernel
theorem dL_law_1472 : decode cL_law 1472 = .ok (.ireturn, 1) := by decide +kernel
theorem dL_law_1473 : decode cL_law 1473 = .ok (.goto 1525, 3) := by decide +kernel
theorem dL_law_1476 : decode cL_law 1476 = .ok (.aload_n 1, 1) := by decide +kernel
theorem dL_law_1477 : decode cL_law 1477 = .ok (.aload_n 3, 1) := by decide +kernel
theorem dL_law_1478 : decode cL_law 1478 = .ok (.invokestatic 250, 3) := by decide +kernel
theorem dL_law_1481 : decode cL_law 1481 = .ok (.istore 6, 2) := by decide +kernel
theorem dL_law_1483 : decode cL_law 1483 = .ok (.aload_n 2, 1) := by decide +kernel
theorem dL_law_1484 : decode cL_law 1484 = .ok (.invokevirtual 252, 3) := by decide +kernel
theorem dL_law_1487 : decode cL_law 1487 = .ok (.istore 7, 2) := by decide +kernel
theorem dL_law_1489 : decode cL_law 1489 = .ok (.aload_n 2, 1) := by decide +kernel
theorem dL_law_1490 : decode cL_law 1490 = .ok (.invokevirtual 173, 3) := by decide +kernel
theorem dL_law_1493 : decode cL_law 1493 = .ok (.iload 6, 2) := by decide +kernel
theorem dL_law_1495 : decode cL_law 1495 = .ok (.if_icmp .eq 5, 3) := by decide +kernel
theorem dL_law_1498 : decode cL_law 1498 = .ok (.iconst 0, 1) := by decide +kernel
theorem dL_law_1499 : decode cL_law 1499 = .ok (.ireturn, 1) := by decide +kernel
theorem dL_law_1500 : decode cL_law 1500 = .ok (.iload 6, 2) := by decide +kernel
theorem dL_law_1502 : decode cL_law 1502 = .ok (.ifCond .ne 22, 3) := by decide +kernel
theorem dL_law_1505 : decode cL_law 1505 = .ok (.aload_n 3, 1) := by decide +kernel
theorem dL_law_1506 : decode cL_law 1506 = .ok (.iconst 0, 1) := by decide +kernel
theorem dL_law_1507 : decode cL_law 1507 = .ok (.laload, 1) := by decide +kernel
theorem dL_law_1508 : decode cL_law 1508 = .ok (.iload 7, 2) := by decide +kernel
theorem dL_law_1510 : decode cL_law 1510 = .ok (.ifCond .eq 7, 3) := by decide +kernel
theorem dL_law_1513 : decode cL_law 1513 = .ok (.lconst 1, 1) := by decide +kernel
theorem dL_law_1514 : decode cL_law 1514 = .ok (.goto 4, 3) := by decide +kernel
theorem dL_law_1517 : decode cL_law 1517 = .ok (.lconst 0, 1) := by decide +kernel
theorem dL_law_1518 : decode cL_law 1518 = .ok (.lcmp, 1) := by decide +kernel
theorem dL_law_1519 : decode cL_law 1519 = .ok (.ifCond .eq 5, 3) := by decide +kernel
theorem dL_law_1522 : decode cL_law 1522 = .ok (.iconst 0, 1) := by decide +kernel
theorem dL_law_1523 : decode cL_law 1523 = .ok (.ireturn, 1) := by decide +kernel
theorem dL_law_1524 : decode cL_law 1524 = .ok (.goto 1474, 3) := by decide +kernel
theorem dL_law_1527 : decode cL_law 1527 = .ok (.aload_n 1, 1) := by decide +kernel
theorem dL_law_1528 : decode cL_law 1528 = .ok (.aload_n 3, 1) := by decide +kernel
theorem dL_law_1529 : decode cL_law 1529 = .ok (.invokestatic 253, 3) := by decide +kernel
theorem dL_law_1532 : decode cL_law 1532 = .ok (.istore 6, 2) := by decide +kernel
theorem dL_law_1534 : decode cL_law 1534 = .ok (.aload_n 2, 1) := by decide +kernel
theorem dL_law_1535 : decode cL_law 1535 = .ok (.invokevirtual 255, 3) := by decide +kernel
theorem dL_law_1538 : decode cL_law 1538 = .ok (.istore 7, 2) := by decide +kernel
theorem dL_law_1540 : decode cL_law 1540 = .ok (.aload_n 2, 1) := by decide +kernel
theorem dL_law_1541 : decode cL_law 1541 = .ok (.invokevirtual 173, 3) := by decide +kernel
theorem dL_law_1544 : decode cL_law 1544 = .ok (.iload 6, 2) := by decide +kernel
theorem dL_law_1546 : decode cL_law 1546 = .ok (.if_icmp .eq 5, 3) := by decide +kernel
theorem dL_law_1549 : decode cL_law 1549 = .ok (.iconst 0, 1) := by decide +kernel
theorem dL_law_1550 : decode cL_law 1550 = .ok (.ireturn, 1) := by decide +kernel
theorem dL_law_1551 : decode cL_law 1551 = .ok (.iload 6, 2) := by decide +kernel
theorem dL_law_1553 : decode cL_law 1553 = .ok (.ifCond .ne 15, 3) := by decide +kernel
theorem dL_law_1556 : decode cL_law 1556 = .ok (.aload_n 3, 1) := by decide +kernel
theorem dL_law_1557 : decode cL_law 1557 = .ok (.iconst 0, 1) := by decide +kernel
theorem dL_law_1558 : decode cL_law 1558 = .ok (.laload, 1) := by decide +kernel
theorem dL_law_1559 : decode cL_law 1559 = .ok (.iload 7, 2) := by decide +kernel
theorem dL_law_1561 : decode cL_law 1561 = .ok (.i2l, 1) := by decide +kernel
theorem dL_law_1562 : decode cL_law 1562 = .ok (.lcmp, 1) := by decide +kernel
theorem dL_law_1563 : decode cL_law 1563 = .ok (.ifCond .eq 5, 3) := by decide +kernel
theorem dL_law_1566 : decode cL_law 1566 = .ok (.iconst 0, 1) := by decide +kernel
theorem dL_law_1567 : decode cL_law 1567 = .ok (.ireturn, 1) := by decide +kernel
theorem dL_law_1568 : decode cL_law 1568 = .ok (.goto 1430, 3) := by decide +kernel
theorem dL_law_1571 : decode cL_law 1571 = .ok (.aload_n 1, 1) := by decide +kernel
theorem dL_law_1572 : decode cL_law 1572 = .ok (.aload_n 3, 1) := by decide +kernel
theorem dL_law_1573 : decode cL_law 1573 = .ok (.invokestatic 256, 3) := by decide +kernel
theorem dL_law_1576 : decode cL_law 1576 = .ok (.istore 6, 2) := by decide +kernel
theorem dL_law_1578 : decode cL_law 1578 = .ok (.aload_n 2, 1) := by decide +kernel
theorem dL_law_1579 : decode cL_law 1579 = .ok (.invokevirtual 258, 3) := by decide +kernel
theorem dL_law_1582 : decode cL_law 1582 = .ok (.istore 7, 2) := by decide +kernel
theorem dL_law_1584 : decode cL_law 1584 = .ok (.aload_n 2, 1) := by decide +kernel
theorem dL_law_1585 : decode cL_law 1585 = .ok (.invokevirtual 173, 3) := by decide +kernel
theorem dL_law_1588 : decode cL_law 1588 = .ok (.iload 6, 2) := by decide +kernel
theorem dL_law_1590 : decode cL_law 1590 = .ok (.if_icmp .eq 5, 3) := by decide +kernel
theorem dL_law_1593 : decode cL_law 1593 = .ok (.iconst 0, 1) := by decide +kernel
theorem dL_law_1594 : decode cL_law 1594 = .ok (.ireturn, 1) := by decide +kernel
theorem dL_law_1595 : decode cL_law 1595 = .ok (.iload 6, 2) := by decide +kernel
theorem dL_law_1597 : decode cL_law 1597 = .ok (.ifCond .ne 15, 3) := by decide +kernel
theorem dL_law_1600 : decode cL_law 1600 = .ok (.aload_n 3, 1) := by decide +kernel
theorem dL_law_1601 : decode cL_law 1601 = .ok (.iconst 0, 1) := by decide +kernel
theorem dL_law_1602 : decode cL_law 1602 = .ok (.laload, 1) := by decide +kernel
theorem dL_law_1603 : decode cL_law 1603 = .ok (.iload 7, 2) := by decide +kernel
theorem dL_law_1605 : decode cL_law 1605 = .ok (.i2l, 1) := by decide +kernel
theorem dL_law_1606 : decode cL_law 1606 = .ok (.lcmp, 1) := by decide +kernel
theorem dL_law_1607 : decode cL_law 1607 = .ok (.ifCond .eq 5, 3) := by decide +kernel
theorem dL_law_1610 : decode cL_law 1610 = .ok (.iconst 0, 1) := by decide +kernel
theorem dL_law_1611 : decode cL_law 1611 = .ok (.ireturn, 1) := by decide +kernel
theorem dL_law_1612 : decode cL_law 1612 = .ok (.goto 1386, 3) := by decide +kernel
theorem dL_law_1615 : decode cL_law 1615 = .ok (.aload_n 1, 1) := by decide +kernel
theorem dL_law_1616 : decode cL_law 1616 = .ok (.invokevirtual 259, 3) := by decide +kernel
theorem dL_law_1619 : decode cL_law 1619 = .ok (.aload_n 2, 1) := by decide +kernel
theorem dL_law_1620 : decode cL_law 1620 = .ok (.invokevirtual 262, 3) := by decide +kernel
theorem dL_law_1623 : decode cL_law 1623 = .ok (.if_icmp .eq 1375, 3) := by decide +kernel
theorem dL_law_1626 : decode cL_law 1626 = .ok (.iconst 0, 1) := by decide +kernel
theorem dL_law_1627 : decode cL_law 1627 = .ok (.ireturn, 1) := by decide +kernel
theorem dL_law_1628 : decode cL_law 1628 = .ok (.aload_n 1, 1) := by decide +kernel
theorem dL_law_1629 : decode cL_law 1629 = .ok (.invokevirtual 263, 3) := by decide +kernel
theorem dL_law_1632 : decode cL_law 1632 = .ok (.aload_n 2, 1) := by decide +kernel
theorem dL_law_1633 : decode cL_law 1633 = .ok (.invokevirtual 266, 3) := by decide +kernel
theorem dL_law_1636 : decode cL_law 1636 = .ok (.if_icmp .eq 1362, 3) := by decide +kernel
theorem dL_law_1639 : decode cL_law 1639 = .ok (.iconst 0, 1) := by decide +kernel
theorem dL_law_1640 : decode cL_law 1640 = .ok (.ireturn, 1) := by decide +kernel
theorem dL_law_1641 : decode cL_law 1641 = .ok (.aload_n 1, 1) := by decide +kernel
theorem dL_law_1642 : decode cL_law 1642 = .ok (.invokevirtual 267, 3) := by decide +kernel
theorem dL_law_1645 : decode cL_law 1645 = .ok (.aload_n 2, 1) := by decide +kernel
theorem dL_law_1646 : decode cL_law 1646 = .ok (.invokevirtual 270, 3) := by decide +kernel
theorem dL_law_1649 : decode cL_law 1649 = .ok (.if_icmp .eq 1349, 3) := by decide +kernel
theorem dL_law_1652 : decode cL_law 1652 = .ok (.iconst 0, 1) := by decide +kernel
theorem dL_law_1653 : decode cL_law 1653 = .ok (.ireturn, 1) := by decide +kernel
theorem dL_law_1654 : decode cL_law 1654 = .ok (.aload_n 1, 1) := by decide +kernel
theorem dL_law_1655 : decode cL_law 1655 = .ok (.invokevirtual 271, 3) := by decide +kernel
theorem dL_law_1658 : decode cL_law 1658 = .ok (.aload_n 2, 1) := by decide +kernel
theorem dL_law_1659 : decode cL_law 1659 = .ok (.invokevirtual 274, 3) := by decide +kernel
theorem dL_law_1662 : decode cL_law 1662 = .ok (.if_icmp .eq 1336, 3) := by decide +kernel
theorem dL_law_1665 : decode cL_law 1665 = .ok (.iconst 0, 1) := by decide +kernel
theorem dL_law_1666 : decode cL_law 1666 = .ok (.ireturn, 1) := by decide +kernel
theorem dL_law_1667 : decode cL_law 1667 = .ok (.aload_n 1, 1) := by decide +kernel
theorem dL_law_1668 : decode cL_law 1668 = .ok (.aload_n 0, 1) := by decide +kernel
theorem dL_law_1669 : decode cL_law 1669 = .ok (.iload 5, 2) := by decide +kernel
theorem dL_law_1671 : decode cL_law 1671 = .ok (.iconst 1, 1) := by decide +kernel
theorem dL_law_1672 : decode cL_law 1672 = .ok (.iadd, 1) := by decide +kernel
theorem dL_law_1673 : decode cL_law 1673 = .ok (.iaload, 1) := by decide +kernel
theorem dL_law_1674 : decode cL_law 1674 = .ok (.aload_n 3, 1) := by decide +kernel
theorem dL_law_1675 : decode cL_law 1675 = .ok (.invokestatic 275, 3) := by decide +kernel
theorem dL_law_1678 : decode cL_law 1678 = .ok (.istore 6, 2) := by decide +kernel
theorem dL_law_1680 : decode cL_law 1680 = .ok (.aload_n 2, 1) := by decide +kernel
theorem dL_law_1681 : decode cL_law 1681 = .ok (.aload_n 0, 1) := by decide +kernel
theorem dL_law_1682 : decode cL_law 1682 = .ok (.iload 5, 2) := by decide +kernel
theorem dL_law_1684 : decode cL_law 1684 = .ok (.iconst 1, 1) := by decide +kernel
theorem dL_law_1685 : decode cL_law 1685 = .ok (.iadd, 1) := by decide +kernel
theorem dL_law_1686 : decode cL_law 1686 = .ok (.iaload, 1) := by decide +kernel
theorem dL_law_1687 : decode cL_law 1687 = .ok (.invokevirtual 277, 3) := by decide +kernel
theorem dL_law_1690 : decode cL_law 1690 = .ok (.istore 7, 2) := by decide +kernel
theorem dL_law_1692 : decode cL_law 1692 = .ok (.aload_n 2, 1) := by decide +kernel
theorem dL_law_1693 : decode cL_law 1693 = .ok (.invokevirtual 173, 3) := by decide +kernel
theorem dL_law_1696 : decode cL_law 1696 = .ok (.iload 6, 2) := by decide +kernel
theorem dL_law_1698 : decode cL_law 1698 = .ok (.if_icmp .eq 5, 3) := by decide +kernel
theorem dL_law_1701 : decode cL_law 1701 = .ok (.iconst 0, 1) := by decide +kernel
theorem dL_law_1702 : decode cL_law 1702 = .ok (.ireturn, 1) := by decide +kernel
theorem dL_law_1703 : decode cL_law 1703 = .ok (.iload 6, 2) := by decide +kernel
theorem dL_law_1705 : decode cL_law 1705 = .ok (.ifCond .ne 15, 3) := by decide +kernel
theorem dL_law_1708 : decode cL_law 1708 = .ok (.aload_n 3, 1) := by decide +kernel
theorem dL_law_1709 : decode cL_law 1709 = .ok (.iconst 0, 1) := by decide +kernel
theorem dL_law_1710 : decode cL_law 1710 = .ok (.laload, 1) := by decide +kernel
theorem dL_law_1711 : decode cL_law 1711 = .ok (.iload 7, 2) := by decide +kernel
theorem dL_law_1713 : decode cL_law 1713 = .ok (.i2l, 1) := by decide +kernel
theorem dL_law_1714 : decode cL_law 1714 = .ok (.lcmp, 1) := by decide +kernel
theorem dL_law_1715 : decode cL_law 1715 = .ok (.ifCond .eq 5, 3) := by decide +kernel
theorem dL_law_1718 : decode cL_law 1718 = .ok (.iconst 0, 1) := by decide +kernel
theorem dL_law_1719 : decode cL_law 1719 = .ok (.ireturn, 1) := by decide +kernel
theorem dL_law_1720 : decode cL_law 1720 = .ok (.goto 1278, 3) := by decide +kernel
theorem dL_law_1723 : decode cL_law 1723 = .ok (.aload_n 1, 1) := by decide +kernel
theorem dL_law_1724 : decode cL_law 1724 = .ok (.aload_n 0, 1) := by decide +kernel
theorem dL_law_1725 : decode cL_law 1725 = .ok (.iload 5, 2) := by decide +kernel
theorem dL_law_1727 : decode cL_law 1727 = .ok (.iconst 1, 1) := by decide +kernel
theorem dL_law_1728 : decode cL_law 1728 = .ok (.iadd, 1) := by decide +kernel
theorem dL_law_1729 : decode cL_law 1729 = .ok (.iaload, 1) := by decide +kernel
theorem dL_law_1730 : decode cL_law 1730 = .ok (.aload_n 3, 1) := by decide +kernel
theorem dL_law_1731 : decode cL_law 1731 = .ok (.invokestatic 278, 3) := by decide +kernel
theorem dL_law_1734 : decode cL_law 1734 = .ok (.istore 6, 2) := by decide +kernel
theorem dL_law_1736 : decode cL_law 1736 = .ok (.aload_n 2, 1) := by decide +kernel
theorem dL_law_1737 : decode cL_law 1737 = .ok (.aload_n 0, 1) := by decide +kernel
theorem dL_law_1738 : decode cL_law 1738 = .ok (.iload 5, 2) := by decide +kernel
theorem dL_law_1740 : decode cL_law 1740 = .ok (.iconst 1, 1) := by decide +kernel
theorem dL_law_1741 : decode cL_law 1741 = .ok (.iadd, 1) := by decide +kernel
theorem dL_law_1742 : decode cL_law 1742 = .ok (.iaload, 1) := by decide +kernel
theorem dL_law_1743 : decode cL_law 1743 = .ok (.invokevirtual 280, 3) := by decide +kernel
theorem dL_law_1746 : decode cL_law 1746 = .ok (.istore 7, 2) := by decide +kernel
theorem dL_law_1748 : decode cL_law 1748 = .ok (.aload_n 2, 1) := by decide +kernel
theorem dL_law_1749 : decode cL_law 1749 = .ok (.invokevirtual 173, 3) := by decide +kernel
theorem dL_law_1752 : decode cL_law 1752 = .ok (.iload 6, 2) := by decide +kernel
theorem dL_law_1754 : decode cL_law 1754 = .ok (.if_icmp .eq 5, 3) := by decide +kernel
theorem dL_law_1757 : decode cL_law 1757 = .ok (.iconst 0, 1) := by decide +kernel
theorem dL_law_1758 : decode cL_law 1758 = .ok (.ireturn, 1) := by decide +kernel
theorem dL_law_1759 : decode cL_law 1759 = .ok (.iload 6, 2) := by decide +kernel
theorem dL_law_1761 : decode cL_law 1761 = .ok (.ifCond .ne 22, 3) := by decide +kernel
theorem dL_law_1764 : decode cL_law 1764 = .ok (.aload_n 3, 1) := by decide +kernel
theorem dL_law_1765 : decode cL_law 1765 = .ok (.iconst 0, 1) := by decide +kernel
theorem dL_law_1766 : decode cL_law 1766 = .ok (.laload, 1) := by decide +kernel
theorem dL_law_1767 : decode cL_law 1767 = .ok (.iload 7, 2) := by decide +kernel
theorem dL_law_1769 : decode cL_law 1769 = .ok (.ifCond .eq 7, 3) := by decide +kernel
theorem dL_law_1772 : decode cL_law 1772 = .ok (.lconst 1, 1) := by decide +kernel
theorem dL_law_1773 : decode cL_law 1773 = .ok (.goto 4, 3) := by decide +kernel
theorem dL_law_1776 : decode cL_law 1776 = .ok (.lconst 0, 1) := by decide +kernel
theorem dL_law_1777 : decode cL_law 1777 = .ok (.lcmp, 1) := by decide +kernel
theorem dL_law_1778 : decode cL_law 1778 = .ok (.ifCond .eq 5, 3) := by decide +kernel
theorem dL_law_1781 : decode cL_law 1781 = .ok (.iconst 0, 1) := by decide +kernel
theorem dL_law_1782 : decode cL_law 1782 = .ok (.ireturn, 1) := by decide +kernel
theorem dL_law_1783 : decode cL_law 1783 = .ok (.goto 1215, 3) := by decide +kernel
theorem dL_law_1786 : decode cL_law 1786 = .ok (.aload_n 1, 1) := by decide +kernel
theorem dL_law_1787 : decode cL_law 1787 = .ok (.aload_n 0, 1) := by decide +kernel
theorem dL_law_1788 : decode cL_law 1788 = .ok (.iload 5, 2) := by decide +kernel
theorem dL_law_1790 : decode cL_law 1790 = .ok (.iconst 1, 1) := by decide +kernel
theorem dL_law_1791 : decode cL_law 1791 = .ok (.iadd, 1) := by decide +kernel
theorem dL_law_1792 : decode cL_law 1792 = .ok (.iaload, 1) := by decide +kernel
theorem dL_law_1793 : decode cL_law 1793 = .ok (.aload_n 3, 1) := by decide +kernel
theorem dL_law_1794 : decode cL_law 1794 = .ok (.invokestatic 281, 3) := by decide +kernel
theorem dL_law_1797 : decode cL_law 1797 = .ok (.istore 6, 2) := by decide +kernel
theorem dL_law_1799 : decode cL_law 1799 = .ok (.aload_n 2, 1) := by decide +kernel
theorem dL_law_1800 : decode cL_law 1800 = .ok (.aload_n 0, 1) := by decide +kernel
theorem dL_law_1801 : decode cL_law 1801 = .ok (.iload 5, 2) := by decide +kernel
theorem dL_law_1803 : decode cL_law 1803 = .ok (.iconst 1, 1) := by decide +kernel
theorem dL_law_1804 : decode cL_law 1804 = .ok (.iadd, 1) := by decide +kernel
theorem dL_law_1805 : decode cL_law 1805 = .ok (.iaload, 1) := by decide +kernel
theorem dL_law_1806 : decode cL_law 1806 = .ok (.invokevirtual 283, 3) := by decide +kernel
theorem dL_law_1809 : decode cL_law 1809 = .ok (.istore 7, 2) := by decide +kernel
theorem dL_law_1811 : decode cL_law 1811 = .ok (.aload_n 2, 1) := by decide +kernel
theorem dL_law_1812 : decode cL_law 1812 = .ok (.invokevirtual 173, 3) := by decide +kernel
theorem dL_law_1815 : decode cL_law 1815 = .ok (.iload 6, 2) := by decide +kernel
theorem dL_law_1817 : decode cL_law 1817 = .ok (.if_icmp .eq 5, 3) := by decide +kernel
theorem dL_law_1820 : decode cL_law 1820 = .ok (.iconst 0, 1) := by decide +kernel
theorem dL_law_1821 : decode cL_law 1821 = .ok (.ireturn, 1) := by decide +kernel
theorem dL_law_1822 : decode cL_law 1822 = .ok (.iload 6, 2) := by decide +kernel
theorem dL_law_1824 : decode cL_law 1824 = .ok (.ifCond .ne 15, 3) := by decide +kernel
theorem dL_law_1827 : decode cL_law 1827 = .ok (.aload_n 3, 1) := by decide +kernel
theorem dL_law_1828 : decode cL_law 1828 = .ok (.iconst 0, 1) := by decide +kernel
theorem dL_law_1829 : decode cL_law 1829 = .ok (.laload, 1) := by decide +kernel
theorem dL_law_1830 : decode cL_law 1830 = .ok (.iload 7, 2) := by decide +kernel
theorem dL_law_1832 : decode cL_law 1832 = .ok (.i2l, 1) := by decide +kernel
theorem dL_law_1833 : decode cL_law 1833 = .ok (.lcmp, 1) := by decide +kernel
theorem dL_law_1834 : decode cL_law 1834 = .ok (.ifCond .eq 5, 3) := by decide +kernel
theorem dL_law_1837 : decode cL_law 1837 = .ok (.iconst 0, 1) := by decide +kernel
theorem dL_law_1838 : decode cL_law 1838 = .ok (.ireturn, 1) := by decide +kernel
theorem dL_law_1839 : decode cL_law 1839 = .ok (.goto 1159, 3) := by decide +kernel
theorem dL_law_1842 : decode cL_law 1842 = .ok (.aload_n 1, 1) := by decide +kernel
theorem dL_law_1843 : decode cL_law 1843 = .ok (.aload_n 0, 1) := by decide +kernel
theorem dL_law_1844 : decode cL_law 1844 = .ok (.iload 5, 2) := by decide +kernel
theorem dL_law_1846 : decode cL_law 1846 = .ok (.iconst 1, 1) := by decide +kernel
theorem dL_law_1847 : decode cL_law 1847 = .ok (.iadd, 1) := by decide +kernel
theorem dL_law_1848 : decode cL_law 1848 = .ok (.iaload, 1) := by decide +kernel
theorem dL_law_1849 : decode cL_law 1849 = .ok (.aload_n 3, 1) := by decide +kernel
theorem dL_law_1850 : decode cL_law 1850 = .ok (.invokestatic 284, 3) := by decide +kernel
theorem dL_law_1853 : decode cL_law 1853 = .ok (.istore 6, 2) := by decide +kernel
theorem dL_law_1855 : decode cL_law 1855 = .ok (.aload_n 2, 1) := by decide +kernel
theorem dL_law_1856 : decode cL_law 1856 = .ok (.aload_n 0, 1) := by decide +kernel
theorem dL_law_1857 : decode cL_law 1857 = .ok (.iload 5, 2) := by decide +kernel
theorem dL_law_1859 : decode cL_law 1859 = .ok (.iconst 1, 1) := by decide +kernel
theorem dL_law_1860 : decode cL_law 1860 = .ok (.iadd, 1) := by decide +kernel
theorem dL_law_1861 : decode cL_law 1861 = .ok (.iaload, 1) := by decide +kernel
theorem dL_law_1862 : decode cL_law 1862 = .ok (.invokevirtual 286, 3) := by decide +kernel
theorem dL_law_1865 : decode cL_law 1865 = .ok (.istore 7, 2) := by decide +kernel
theorem dL_law_1867 : decode cL_law 1867 = .ok (.aload_n 2, 1) := by decide +kernel
theorem dL_law_1868 : decode cL_law 1868 = .ok (.invokevirtual 173, 3) := by decide +kernel
theorem dL_law_1871 : decode cL_law 1871 = .ok (.iload 6, 2) := by decide +kernel
theorem dL_law_1873 : decode cL_law 1873 = .ok (.if_icmp .eq 5, 3) := by decide +kernel
theorem dL_law_1876 : decode cL_law 1876 = .ok (.iconst 0, 1) := by decide +kernel
theorem dL_law_1877 : decode cL_law 1877 = .ok (.ireturn, 1) := by decide +kernel
theorem dL_law_1878 : decode cL_law 1878 = .ok (.iload 6, 2) := by decide +kernel
theorem dL_law_1880 : decode cL_law 1880 = .ok (.ifCond .ne 22, 3) := by decide +kernel
theorem dL_law_1883 : decode cL_law 1883 = .ok (.aload_n 3, 1) := by decide +kernel
theorem dL_law_1884 : decode cL_law 1884 = .ok (.iconst 0, 1) := by decide +kernel
theorem dL_law_1885 : decode cL_law 1885 = .ok (.laload, 1) := by decide +kernel
theorem dL_law_1886 : decode cL_law 1886 = .ok (.iload 7, 2) := by decide +kernel
theorem dL_law_1888 : decode cL_law 1888 = .ok (.ifCond .eq 7, 3) := by decide +kernel
theorem dL_law_1891 : decode cL_law 1891 = .ok (.lconst 1, 1) := by decide +kernel
theorem dL_law_1892 : decode cL_law 1892 = .ok (.goto 4, 3) := by decide +kernel
theorem dL_law_1895 : decode cL_law 1895 = .ok (.lconst 0, 1) := by decide +kernel
theorem dL_law_1896 : decode cL_law 1896 = .ok (.lcmp, 1) := by decide +kernel
theorem dL_law_1897 : decode cL_law 1897 = .ok (.ifCond .eq 5, 3) := by decide +kernel
theorem dL_law_1900 : decode cL_law 1900 = .ok (.iconst 0, 1) := by decide +kernel
theorem dL_law_1901 : decode cL_law 1901 = .ok (.ireturn, 1) := by decide +kernel
theorem dL_law_1902 : decode cL_law 1902 = .ok (.goto 1096, 3) := by decide +kernel
theorem dL_law_1905 : decode cL_law 1905 = .ok (.aload_n 1, 1) := by decide +kernel
theorem dL_law_1906 : decode cL_law 1906 = .ok (.aload_n 0, 1) := by decide +kernel
theorem dL_law_1907 : decode cL_law 1907 = .ok (.iload 5, 2) := by decide +kernel
theorem dL_law_1909 : decode cL_law 1909 = .ok (.iconst 1, 1) := by decide +kernel
theorem dL_law_1910 : decode cL_law 1910 = .ok (.iadd, 1) := by decide +kernel
theorem dL_law_1911 : decode cL_law 1911 = .ok (.iaload, 1) := by decide +kernel
theorem dL_law_1912 : decode cL_law 1912 = .ok (.aload_n 3, 1) := by decide +kernel
theorem dL_law_1913 : decode cL_law 1913 = .ok (.invokestatic 287, 3) := by decide +kernel
theorem dL_law_1916 : decode cL_law 1916 = .ok (.istore 6, 2) := by decide +kernel
theorem dL_law_1918 : decode cL_law 1918 = .ok (.aload_n 2, 1) := by decide +kernel
theorem dL_law_1919 : decode cL_law 1919 = .ok (.aload_n 0, 1) := by decide +kernel
theorem dL_law_1920 : decode cL_law 1920 = .ok (.iload 5, 2) := by decide +kernel
theorem dL_law_1922 : decode cL_law 1922 = .ok (.iconst 1, 1) := by decide +kernel
theorem dL_law_1923 : decode cL_law 1923 = .ok (.iadd, 1) := by decide +kernel
theorem dL_law_1924 : decode cL_law 1924 = .ok (.iaload, 1) := by decide +kernel
theorem dL_law_1925 : decode cL_law 1925 = .ok (.invokevirtual 289, 3) := by decide +kernel
theorem dL_law_1928 : decode cL_law 1928 = .ok (.istore 7, 2) := by decide +kernel
theorem dL_law_1930 : decode cL_law 1930 = .ok (.aload_n 2, 1) := by decide +kernel
theorem dL_law_1931 : decode cL_law 1931 = .ok (.invokevirtual 173, 3) := by decide +kernel
theorem dL_law_1934 : decode cL_law 1934 = .ok (.iload 6, 2) := by decide +kernel
theorem dL_law_1936 : decode cL_law 1936 = .ok (.if_icmp .eq 5, 3) := by decide +kernel
theorem dL_law_1939 : decode cL_law 1939 = .ok (.iconst 0, 1) := by decide +kernel
theorem dL_law_1940 : decode cL_law 1940 = .ok (.ireturn, 1) := by decide +kernel
theorem dL_law_1941 : decode cL_law 1941 = .ok (.iload 6, 2) := by decide +kernel
theorem dL_law_1943 : decode cL_law 1943 = .ok (.ifCond .ne 15, 3) := by decide +kernel
theorem dL_law_1946 : decode cL_law 1946 = .ok (.aload_n 3, 1) := by decide +kernel
theorem dL_law_1947 : decode cL_law 1947 = .ok (.iconst 0, 1) := by decide +kernel
theorem dL_law_1948 : decode cL_law 1948 = .ok (.laload, 1) := by decide +kernel
theorem dL_law_1949 : decode cL_law 1949 = .ok (.iload 7, 2) := by decide +kernel
theorem dL_law_1951 : decode cL_law 1951 = .ok (.i2l, 1) := by decide +kernel
theorem dL_law_1952 : decode cL_law 1952 = .ok (.lcmp, 1) := by decide +kernel
theorem dL_law_1953 : decode cL_law 1953 = .ok (.ifCond .eq 5, 3) := by decide +kernel
theorem dL_law_1956 : decode cL_law 1956 = .ok (.iconst 0, 1) := by decide +kernel
theorem dL_law_1957 : decode cL_law 1957 = .ok (.ireturn, 1) := by decide +kernel
theorem dL_law_1958 : decode cL_law 1958 = .ok (.goto 1040, 3) := by decide +kernel
theorem dL_law_1961 : decode cL_law 1961 = .ok (.aload_n 1, 1) := by decide +kernel
theorem dL_law_1962 : decode cL_law 1962 = .ok (.aload_n 0, 1) := by decide +kernel
theorem dL_law_1963 : decode cL_law 1963 = .ok (.iload 5, 2) := by decide +kernel
theorem dL_law_1965 : decode cL_law 1965 = .ok (.iconst 1, 1) := by decide +kernel
theorem dL_law_1966 : decode cL_law 1966 = .ok (.iadd, 1) := by decide +kernel
theorem dL_law_1967 : decode cL_law 1967 = .ok (.iaload, 1) := by decide +kernel
theorem dL_law_1968 : decode cL_law 1968 = .ok (.aload_n 3, 1) := by decide +kernel
theorem dL_law_1969 : decode cL_law 1969 = .ok (.invokestatic 290, 3) := by decide +kernel
theorem dL_law_1972 : decode cL_law 1972 = .ok (.istore 6, 2) := by decide +kernel
theorem dL_law_1974 : decode cL_law 1974 = .ok (.aload_n 2, 1) := by decide +kernel
theorem dL_law_1975 : decode cL_law 1975 = .ok (.aload_n 0, 1) := by decide +kernel
theorem dL_law_1976 : decode cL_law 1976 = .ok (.iload 5, 2) := by decide +kernel
theorem dL_law_1978 : decode cL_law 1978 = .ok (.iconst 1, 1) := by decide +kernel
theorem dL_law_1979 : decode cL_law 1979 = .ok (.iadd, 1) := by decide +kernel
theorem dL_law_1980 : decode cL_law 1980 = .ok (.iaload, 1) := by decide +kernel
theorem dL_law_1981 : decode cL_law 1981 = .ok (.invokevirtual 292, 3) := by decide +kernel
theorem dL_law_1984 : decode cL_law 1984 = .ok (.istore 7, 2) := by decide +kernel
theorem dL_law_1986 : decode cL_law 1986 = .ok (.aload_n 2, 1) := by decide +kernel
theorem dL_law_1987 : decode cL_law 1987 = .ok (.invokevirtual 173, 3) := by decide +kernel
theorem dL_law_1990 : decode cL_law 1990 = .ok (.iload 6, 2) := by decide +kernel
theorem dL_law_1992 : decode cL_law 1992 = .ok (.if_icmp .eq 5, 3) := by decide +kernel
theorem dL_law_1995 : decode cL_law 1995 = .ok (.iconst 0, 1) := by decide +kernel
theorem dL_law_1996 : decode cL_law 1996 = .ok (.ireturn, 1) := by decide +kernel
theorem dL_law_1997 : decode cL_law 1997 = .ok (.iload 6, 2) := by decide +kernel
theorem dL_law_1999 : decode cL_law 1999 = .ok (.ifCond .ne 15, 3) := by decide +kernel
theorem dL_law_2002 : decode cL_law 2002 = .ok (.aload_n 3, 1) := by decide +kernel
theorem dL_law_2003 : decode cL_law 2003 = .ok (.iconst 0, 1) := by decide +kernel
theorem dL_law_2004 : decode cL_law 2004 = .ok (.laload, 1) := by decide +kernel
theorem dL_law_2005 : decode cL_law 2005 = .ok (.iload 7, 2) := by decide +kernel
theorem dL_law_2007 : decode cL_law 2007 = .ok (.i2l, 1) := by decide +kernel
theorem dL_law_2008 : decode cL_law 2008 = .ok (.lcmp, 1) := by decide +kernel
theorem dL_law_2009 : decode cL_law 2009 = .ok (.ifCond .eq 5, 3) := by decide +kernel
theorem dL_law_2012 : decode cL_law 2012 = .ok (.iconst 0, 1) := by decide +kernel
theorem dL_law_2013 : decode cL_law 2013 = .ok (.ireturn, 1) := by decide +kernel
theorem dL_law_2014 : decode cL_law 2014 = .ok (.goto 984, 3) := by decide +kernel
theorem dL_law_2017 : decode cL_law 2017 = .ok (.aload_n 1, 1) := by decide +kernel
theorem dL_law_2018 : decode cL_law 2018 = .ok (.aload_n 0, 1) := by decide +kernel
theorem dL_law_2019 : decode cL_law 2019 = .ok (.iload 5, 2) := by decide +kernel
theorem dL_law_2021 : decode cL_law 2021 = .ok (.iconst 1, 1) := by decide +kernel
theorem dL_law_2022 : decode cL_law 2022 = .ok (.iadd, 1) := by decide +kernel
theorem dL_law_2023 : decode cL_law 2023 = .ok (.iaload, 1) := by decide +kernel
theorem dL_law_2024 : decode cL_law 2024 = .ok (.aload_n 3, 1) := by decide +kernel
theorem dL_law_2025 : decode cL_law 2025 = .ok (.invokestatic 293, 3) := by decide +kernel
theorem dL_law_2028 : decode cL_law 2028 = .ok (.istore 6, 2) := by decide +kernel
theorem dL_law_2030 : decode cL_law 2030 = .ok (.aload_n 2, 1) := by decide +kernel
theorem dL_law_2031 : decode cL_law 2031 = .ok (.aload_n 0, 1) := by decide +kernel
theorem dL_law_2032 : decode cL_law 2032 = .ok (.iload 5, 2) := by decide +kernel
theorem dL_law_2034 : decode cL_law 2034 = .ok (.iconst 1, 1) := by decide +kernel
theorem dL_law_2035 : decode cL_law 2035 = .ok (.iadd, 1) := by decide +kernel
theorem dL_law_2036 : decode cL_law 2036 = .ok (.iaload, 1) := by decide +kernel
theorem dL_law_2037 : decode cL_law 2037 = .ok (.invokevirtual 295, 3) := by decide +kernel
theorem dL_law_2040 : decode cL_law 2040 = .ok (.istore 7, 2) := by decide +kernel
theorem dL_law_2042 : decode cL_law 2042 = .ok (.aload_n 2, 1) := by decide +kernel
theorem dL_law_2043 : decode cL_law 2043 = .ok (.invokevirtual 173, 3) := by decide +kernel
theorem dL_law_2046 : decode cL_law 2046 = .ok (.iload 6, 2) := by decide +kernel
theorem dL_law_2048 : decode cL_law 2048 = .ok (.if_icmp .eq 5, 3) := by decide +kernel
theorem dL_law_2051 : decode cL_law 2051 = .ok (.iconst 0, 1) := by decide +kernel
theorem dL_law_2052 : decode cL_law 2052 = .ok (.ireturn, 1) := by decide +kernel
theorem dL_law_2053 : decode cL_law 2053 = .ok (.iload 6, 2) := by decide +kernel
theorem dL_law_2055 : decode cL_law 2055 = .ok (.ifCond .ne 15, 3) := by decide +kernel
theorem dL_law_2058 : decode cL_law 2058 = .ok (.aload_n 3, 1) := by decide +kernel
theorem dL_law_2059 : decode cL_law 2059 = .ok (.iconst 0, 1) := by decide +kernel
theorem dL_law_2060 : decode cL_law 2060 = .ok (.laload, 1) := by decide +kernel
theorem dL_law_2061 : decode cL_law 2061 = .ok (.iload 7, 2) := by decide +kernel
theorem dL_law_2063 : decode cL_law 2063 = .ok (.i2l, 1) := by decide +kernel
theorem dL_law_2064 : decode cL_law 2064 = .ok (.lcmp, 1) := by decide +kernel
theorem dL_law_2065 : decode cL_law 2065 = .ok (.ifCond .eq 5, 3) := by decide +kernel
theorem dL_law_2068 : decode cL_law 2068 = .ok (.iconst 0, 1) := by decide +kernel
theorem dL_law_2069 : decode cL_law 2069 = .ok (.ireturn, 1) := by decide +kernel
theorem dL_law_2070 : decode cL_law 2070 = .ok (.goto 928, 3) := by decide +kernel
theorem dL_law_2073 : decode cL_law 2073 = .ok (.aload_n 1, 1) := by decide +kernel
theorem dL_law_2074 : decode cL_law 2074 = .ok (.aload_n 0, 1) := by decide +kernel
theorem dL_law_2075 : decode cL_law 2075 = .ok (.iload 5, 2) := by decide +kernel
theorem dL_law_2077 : decode cL_law 2077 = .ok (.iconst 1, 1) := by decide +kernel
theorem dL_law_2078 : decode cL_law 2078 = .ok (.iadd, 1) := by decide +kernel
theorem dL_law_2079 : decode cL_law 2079 = .ok (.iaload, 1) := by decide +kernel
theorem dL_law_2080 : decode cL_law 2080 = .ok (.aload_n 3, 1) := by decide +kernel
theorem dL_law_2081 : decode cL_law 2081 = .ok (.invokestatic 296, 3) := by decide +kernel
theorem dL_law_2084 : decode cL_law 2084 = .ok (.istore 6, 2) := by decide +kernel
theorem dL_law_2086 : decode cL_law 2086 = .ok (.aload_n 2, 1) := by decide +kernel
theorem dL_law_2087 : decode cL_law 2087 = .ok (.aload_n 0, 1) := by decide +kernel
theorem dL_law_2088 : decode cL_law 2088 = .ok (.iload 5, 2) := by decide +kernel
theorem dL_law_2090 : decode cL_law 2090 = .ok (.iconst 1, 1) := by decide +kernel
theorem dL_law_2091 : decode cL_law 2091 = .ok (.iadd, 1) := by decide +kernel
theorem dL_law_2092 : decode cL_law 2092 = .ok (.iaload, 1) := by decide +kernel
theorem dL_law_2093 : decode cL_law 2093 = .ok (.invokevirtual 298, 3) := by decide +kernel
theorem dL_law_2096 : decode cL_law 2096 = .ok (.istore 7, 2) := by decide +kernel
theorem dL_law_2098 : decode cL_law 2098 = .ok (.aload_n 2, 1) := by decide +kernel
theorem dL_law_2099 : decode cL_law 2099 = .ok (.invokevirtual 173, 3) := by decide +kernel
theorem dL_law_2102 : decode cL_law 2102 = .ok (.iload 6, 2) := by decide +kernel
theorem dL_law_2104 : decode cL_law 2104 = .ok (.if_icmp .eq 5, 3) := by decide +kernel
theorem dL_law_2107 : decode cL_law 2107 = .ok (.iconst 0, 1) := by decide +kernel
theorem dL_law_2108 : decode cL_law 2108 = .ok (.ireturn, 1) := by decide +kernel
theorem dL_law_2109 : decode cL_law 2109 = .ok (.iload 6, 2) := by decide +kernel
theorem dL_law_2111 : decode cL_law 2111 = .ok (.ifCond .ne 15, 3) := by decide +kernel
theorem dL_law_2114 : decode cL_law 2114 = .ok (.aload_n 3, 1) := by decide +kernel
theorem dL_law_2115 : decode cL_law 2115 = .ok (.iconst 0, 1) := by decide +kernel
theorem dL_law_2116 : decode cL_law 2116 = .ok (.laload, 1) := by decide +kernel
theorem dL_law_2117 : decode cL_law 2117 = .ok (.iload 7, 2) := by decide +kernel
theorem dL_law_2119 : decode cL_law 2119 = .ok (.i2l, 1) := by decide +kernel
theorem dL_law_2120 : decode cL_law 2120 = .ok (.lcmp, 1) := by decide +kernel
theorem dL_law_2121 : decode cL_law 2121 = .ok (.ifCond .eq 5, 3) := by decide +kernel
theorem dL_law_2124 : decode cL_law 2124 = .ok (.iconst 0, 1) := by decide +kernel
theorem dL_law_2125 : decode cL_law 2125 = .ok (.ireturn, 1) := by decide +kernel
theorem dL_law_2126 : decode cL_law 2126 = .ok (.goto 872, 3) := by decide +kernel
theorem dL_law_2129 : decode cL_law 2129 = .ok (.aload_n 1, 1) := by decide +kernel
theorem dL_law_2130 : decode cL_law 2130 = .ok (.aload_n 0, 1) := by decide +kernel
theorem dL_law_2131 : decode cL_law 2131 = .ok (.iload 5, 2) := by decide +kernel
theorem dL_law_2133 : decode cL_law 2133 = .ok (.iconst 1, 1) := by decide +kernel
theorem dL_law_2134 : decode cL_law 2134 = .ok (.iadd, 1) := by decide +kernel
theorem dL_law_2135 : decode cL_law 2135 = .ok (.iaload, 1) := by decide +kernel
theorem dL_law_2136 : decode cL_law 2136 = .ok (.aload_n 3, 1) := by decide +kernel
theorem dL_law_2137 : decode cL_law 2137 = .ok (.invokestatic 299, 3) := by decide +kernel
theorem dL_law_2140 : decode cL_law 2140 = .ok (.istore 6, 2) := by decide +kernel
theorem dL_law_2142 : decode cL_law 2142 = .ok (.aload_n 2, 1) := by decide +kernel
theorem dL_law_2143 : decode cL_law 2143 = .ok (.aload_n 0, 1) := by decide +kernel
theorem dL_law_2144 : decode cL_law 2144 = .ok (.iload 5, 2) := by decide +kernel
theorem dL_law_2146 : decode cL_law 2146 = .ok (.iconst 1, 1) := by decide +kernel
theorem dL_law_2147 : decode cL_law 2147 = .ok (.iadd, 1) := by decide +kernel
theorem dL_law_2148 : decode cL_law 2148 = .ok (.iaload, 1) := by decide +kernel
theorem dL_law_2149 : decode cL_law 2149 = .ok (.invokevirtual 301, 3) := by decide +kernel
theorem dL_law_2152 : decode cL_law 2152 = .ok (.istore 7, 2) := by decide +kernel
theorem dL_law_2154 : decode cL_law 2154 = .ok (.aload_n 2, 1) := by decide +kernel
theorem dL_law_2155 : decode cL_law 2155 = .ok (.invokevirtual 173, 3) := by decide +kernel
theorem dL_law_2158 : decode cL_law 2158 = .ok (.iload 6, 2) := by decide +kernel
theorem dL_law_2160 : decode cL_law 2160 = .ok (.if_icmp .eq 5, 3) := by decide +kernel
theorem dL_law_2163 : decode cL_law 2163 = .ok (.iconst 0, 1) := by decide +kernel
theorem dL_law_2164 : decode cL_law 2164 = .ok (.ireturn, 1) := by decide +kernel
theorem dL_law_2165 : decode cL_law 2165 = .ok (.iload 6, 2) := by decide +kernel
theorem dL_law_2167 : decode cL_law 2167 = .ok (.ifCond .ne 15, 3) := by decide +kernel
theorem dL_law_2170 : decode cL_law 2170 = .ok (.aload_n 3, 1) := by decide +kernel
theorem dL_law_2171 : decode cL_law 2171 = .ok (.iconst 0, 1) := by decide +kernel
theorem dL_law_2172 : decode cL_law 2172 = .ok (.laload, 1) := by decide +kernel
theorem dL_law_2173 : decode cL_law 2173 = .ok (.iload 7, 2) := by decide +kernel
theorem dL_law_2175 : decode cL_law 2175 = .ok (.i2l, 1) := by decide +kernel
theorem dL_law_2176 : decode cL_law 2176 = .ok (.lcmp, 1) := by decide +kernel
theorem dL_law_2177 : decode cL_law 2177 = .ok (.ifCond .eq 5, 3) := by decide +kernel
theorem dL_law_2180 : decode cL_law 2180 = .ok (.iconst 0, 1) := by decide +kernel
theorem dL_law_2181 : decode cL_law 2181 = .ok (.ireturn, 1) := by decide +kernel
theorem dL_law_2182 : decode cL_law 2182 = .ok (.goto 816, 3) := by decide +kernel
theorem dL_law_2185 : decode cL_law 2185 = .ok (.aload_n 1, 1) := by decide +kernel
theorem dL_law_2186 : decode cL_law 2186 = .ok (.invokevirtual 302, 3) := by decide +kernel
theorem dL_law_2189 : decode cL_law 2189 = .ok (.aload_n 2, 1) := by decide +kernel
theorem dL_law_2190 : decode cL_law 2190 = .ok (.invokevirtual 305, 3) := by decide +kernel
theorem dL_law_2193 : decode cL_law 2193 = .ok (.if_icmp .eq 805, 3) := by decide +kernel
theorem dL_law_2196 : decode cL_law 2196 = .ok (.iconst 0, 1) := by decide +kernel
theorem dL_law_2197 : decode cL_law 2197 = .ok (.ireturn, 1) := by decide +kernel
theorem dL_law_2198 : decode cL_law 2198 = .ok (.aload_n 1, 1) := by decide +kernel
theorem dL_law_2199 : decode cL_law 2199 = .ok (.invokevirtual 306, 3) := by decide +kernel
theorem dL_law_2202 : decode cL_law 2202 = .ok (.aload_n 2, 1) := by decide +kernel
theorem dL_law_2203 : decode cL_law 2203 = .ok (.invokevirtual 309, 3) := by decide +kernel
theorem dL_law_2206 : decode cL_law 2206 = .ok (.if_icmp .eq 792, 3) := by decide +kernel
theorem dL_law_2209 : decode cL_law 2209 = .ok (.iconst 0, 1) := by decide +kernel
theorem dL_law_2210 : decode cL_law 2210 = .ok (.ireturn, 1) := by decide +kernel
theorem dL_law_2211 : decode cL_law 2211 = .ok (.aload_n 1, 1) := by decide +kernel
theorem dL_law_2212 : decode cL_law 2212 = .ok (.invokevirtual 310, 3) := by decide +kernel
theorem dL_law_2215 : decode cL_law 2215 = .ok (.aload_n 2, 1) := by decide +kernel
theorem dL_law_2216 : decode cL_law 2216 = .ok (.invokevirtual 313, 3) := by decide +kernel
theorem dL_law_2219 : decode cL_law 2219 = .ok (.if_icmp .eq 779, 3) := by decide +kernel
theorem dL_law_2222 : decode cL_law 2222 = .ok (.iconst 0, 1) := by decide +kernel
theorem dL_law_2223 : decode cL_law 2223 = .ok (.ireturn, 1) := by decide +kernel
theorem dL_law_2224 : decode cL_law 2224 = .ok (.aload_n 1, 1) := by decide +kernel
theorem dL_law_2225 : decode cL_law 2225 = .ok (.aload_n 0, 1) := by decide +kernel
theorem dL_law_2226 : decode cL_law 2226 = .ok (.iload 5, 2) := by decide +kernel
theorem dL_law_2228 : decode cL_law 2228 = .ok (.iconst 1, 1) := by decide +kernel
theorem dL_law_2229 : decode cL_law 2229 = .ok (.iadd, 1) := by decide +kernel
theorem dL_law_2230 : decode cL_law 2230 = .ok (.iaload, 1) := by decide +kernel
theorem dL_law_2231 : decode cL_law 2231 = .ok (.aload_n 3, 1) := by decide +kernel
theorem dL_law_2232 : decode cL_law 2232 = .ok (.invokestatic 314, 3) := by decide +kernel
theorem dL_law_2235 : decode cL_law 2235 = .ok (.istore 6, 2) := by decide +kernel
theorem dL_law_2237 : decode cL_law 2237 = .ok (.aload_n 2, 1) := by decide +kernel
theorem dL_law_2238 : decode cL_law 2238 = .ok (.aload_n 0, 1) := by decide +kernel
theorem dL_law_2239 : decode cL_law 2239 = .ok (.iload 5, 2) := by decide +kernel
theorem dL_law_2241 : decode cL_law 2241 = .ok (.iconst 1, 1) := by decide +kernel
theorem dL_law_2242 : decode cL_law 2242 = .ok (.iadd, 1) := by decide +kernel
theorem dL_law_2243 : decode cL_law 2243 = .ok (.iaload, 1) := by decide +kernel
theorem dL_law_2244 : decode cL_law 2244 = .ok (.invokevirtual 316, 3) := by decide +kernel
theorem dL_law_2247 : decode cL_law 2247 = .ok (.istore 7, 2) := by decide +kernel
theorem dL_law_2249 : decode cL_law 2249 = .ok (.aload_n 2, 1) := by decide +kernel
theorem dL_law_2250 : decode cL_law 2250 = .ok (.invokevirtual 173, 3) := by decide +kernel
theorem dL_law_2253 : decode cL_law 2253 = .ok (.iload 6, 2) := by decide +kernel
theorem dL_law_2255 : decode cL_law 2255 = .ok (.if_icmp .eq 5, 3) := by decide +kernel
theorem dL_law_2258 : decode cL_law 2258 = .ok (.iconst 0, 1) := by decide +kernel
theorem dL_law_2259 : decode cL_law 2259 = .ok (.ireturn, 1) := by decide +kernel
theorem dL_law_2260 : decode cL_law 2260 = .ok (.iload 6, 2) := by decide +kernel
theorem dL_law_2262 : decode cL_law 2262 = .ok (.ifCond .ne 15, 3) := by decide +kernel
theorem dL_law_2265 : decode cL_law 2265 = .ok (.aload_n 3, 1) := by decide +kernel
theorem dL_law_2266 : decode cL_law 2266 = .ok (.iconst 0, 1) := by decide +kernel
theorem dL_law_2267 : decode cL_law 2267 = .ok (.laload, 1) := by decide +kernel
theorem dL_law_2268 : decode cL_law 2268 = .ok (.iload 7, 2) := by decide +kernel
theorem dL_law_2270 : decode cL_law 2270 = .ok (.i2l, 1) := by decide +kernel
theorem dL_law_2271 : decode cL_law 2271 = .ok (.lcmp, 1) := by decide +kernel
theorem dL_law_2272 : decode cL_law 2272 = .ok (.ifCond .eq 5, 3) := by decide +kernel
theorem dL_law_2275 : decode cL_law 2275 = .ok (.iconst 0, 1) := by decide +kernel
theorem dL_law_2276 : decode cL_law 2276 = .ok (.ireturn, 1) := by decide +kernel
theorem dL_law_2277 : decode cL_law 2277 = .ok (.goto 721, 3) := by decide +kernel
theorem dL_law_2280 : decode cL_law 2280 = .ok (.aload_n 1, 1) := by decide +kernel
theorem dL_law_2281 : decode cL_law 2281 = .ok (.aload_n 0, 1) := by decide +kernel
theorem dL_law_2282 : decode cL_law 2282 = .ok (.iload 5, 2) := by decide +kernel
theorem dL_law_2284 : decode cL_law 2284 = .ok (.iconst 1, 1) := by decide +kernel
theorem dL_law_2285 : decode cL_law 2285 = .ok (.iadd, 1) := by decide +kernel
theorem dL_law_2286 : decode cL_law 2286 = .ok (.iaload, 1) := by decide +kernel
theorem dL_law_2287 : decode cL_law 2287 = .ok (.aload_n 3, 1) := by decide +kernel
theorem dL_law_2288 : decode cL_law 2288 = .ok (.invokestatic 317, 3) := by decide +kernel
theorem dL_law_2291 : decode cL_law 2291 = .ok (.istore 6, 2) := by decide +kernel
theorem dL_law_2293 : decode cL_law 2293 = .ok (.aload_n 2, 1) := by decide +kernel
theorem dL_law_2294 : decode cL_law 2294 = .ok (.aload_n 0, 1) := by decide +kernel
theorem dL_law_2295 : decode cL_law 2295 = .ok (.iload 5, 2) := by decide +kernel
theorem dL_law_2297 : decode cL_law 2297 = .ok (.iconst 1, 1) := by decide +kernel
theorem dL_law_2298 : decode cL_law 2298 = .ok (.iadd, 1) := by decide +kernel
theorem dL_law_2299 : decode cL_law 2299 = .ok (.iaload, 1) := by decide +kernel
theorem dL_law_2300 : decode cL_law 2300 = .ok (.invokevirtual 319, 3) := by decide +kernel
theorem dL_law_2303 : decode cL_law 2303 = .ok (.istore 7, 2) := by decide +kernel
theorem dL_law_2305 : decode cL_law 2305 = .ok (.aload_n 2, 1) := by decide +kernel
theorem dL_law_2306 : decode cL_law 2306 = .ok (.invokevirtual 173, 3) := by decide +kernel
theorem dL_law_2309 : decode cL_law 2309 = .ok (.iload 6, 2) := by decide +kernel
theorem dL_law_2311 : decode cL_law 2311 = .ok (.if_icmp .eq 5, 3) := by decide +kernel
theorem dL_law_2314 : decode cL_law 2314 = .ok (.iconst 0, 1) := by decide +kernel
theorem dL_law_2315 : decode cL_law 2315 = .ok (.ireturn, 1) := by decide +kernel
theorem dL_law_2316 : decode cL_law 2316 = .ok (.iload 6, 2) := by decide +kernel
theorem dL_law_2318 : decode cL_law 2318 = .ok (.ifCond .ne 15, 3) := by decide +kernel
theorem dL_law_2321 : decode cL_law 2321 = .ok (.aload_n 3, 1) := by decide +kernel
theorem dL_law_2322 : decode cL_law 2322 = .ok (.iconst 0, 1) := by decide +kernel
theorem dL_law_2323 : decode cL_law 2323 = .ok (.laload, 1) := by decide +kernel
theorem dL_law_2324 : decode cL_law 2324 = .ok (.iload 7, 2) := by decide +kernel
theorem dL_law_2326 : decode cL_law 2326 = .ok (.i2l, 1) := by decide +kernel
theorem dL_law_2327 : decode cL_law 2327 = .ok (.lcmp, 1) := by decide +kernel
theorem dL_law_2328 : decode cL_law 2328 = .ok (.ifCond .eq 5, 3) := by decide +kernel
theorem dL_law_2331 : decode cL_law 2331 = .ok (.iconst 0, 1) := by decide +kernel
theorem dL_law_2332 : decode cL_law 2332 = .ok (.ireturn, 1) := by decide +kernel
theorem dL_law_2333 : decode cL_law 2333 = .ok (.goto 665, 3) := by decide +kernel
theorem dL_law_2336 : decode cL_law 2336 = .ok (.aload_n 1, 1) := by decide +kernel
theorem dL_law_2337 : decode cL_law 2337 = .ok (.aload_n 0, 1) := by decide +kernel
theorem dL_law_2338 : decode cL_law 2338 = .ok (.iload 5, 2) := by decide +kernel
theorem dL_law_2340 : decode cL_law 2340 = .ok (.iconst 1, 1) := by decide +kernel
theorem dL_law_2341 : decode cL_law 2341 = .ok (.iadd, 1) := by decide +kernel
theorem dL_law_2342 : decode cL_law 2342 = .ok (.iaload, 1) := by decide +kernel
theorem dL_law_2343 : decode cL_law 2343 = .ok (.aload_n 3, 1) := by decide +kernel
theorem dL_law_2344 : decode cL_law 2344 = .ok (.invokestatic 320, 3) := by decide +kernel
theorem dL_law_2347 : decode cL_law 2347 = .ok (.istore 6, 2) := by decide +kernel
theorem dL_law_2349 : decode cL_law 2349 = .ok (.aload_n 2, 1) := by decide +kernel
theorem dL_law_2350 : decode cL_law 2350 = .ok (.aload_n 0, 1) := by decide +kernel
theorem dL_law_2351 : decode cL_law 2351 = .ok (.iload 5, 2) := by decide +kernel
theorem dL_law_2353 : decode cL_law 2353 = .ok (.iconst 1, 1) := by decide +kernel
theorem dL_law_2354 : decode cL_law 2354 = .ok (.iadd, 1) := by decide +kernel
theorem dL_law_2355 : decode cL_law 2355 = .ok (.iaload, 1) := by decide +kernel
theorem dL_law_2356 : decode cL_law 2356 = .ok (.invokevirtual 322, 3) := by decide +kernel
theorem dL_law_2359 : decode cL_law 2359 = .ok (.istore 7, 2) := by decide +kernel
theorem dL_law_2361 : decode cL_law 2361 = .ok (.aload_n 2, 1) := by decide +kernel
theorem dL_law_2362 : decode cL_law 2362 = .ok (.invokevirtual 173, 3) := by decide +kernel
theorem dL_law_2365 : decode cL_law 2365 = .ok (.iload 6, 2) := by decide +kernel
theorem dL_law_2367 : decode cL_law 2367 = .ok (.if_icmp .eq 5, 3) := by decide +kernel
theorem dL_law_2370 : decode cL_law 2370 = .ok (.iconst 0, 1) := by decide +kernel
theorem dL_law_2371 : decode cL_law 2371 = .ok (.ireturn, 1) := by decide +kernel
theorem dL_law_2372 : decode cL_law 2372 = .ok (.iload 6, 2) := by decide +kernel
theorem dL_law_2374 : decode cL_law 2374 = .ok (.ifCond .ne 15, 3) := by decide +kernel
theorem dL_law_2377 : decode cL_law 2377 = .ok (.aload_n 3, 1) := by decide +kernel
theorem dL_law_2378 : decode cL_law 2378 = .ok (.iconst 0, 1) := by decide +kernel
theorem dL_law_2379 : decode cL_law 2379 = .ok (.laload, 1) := by decide +kernel
theorem dL_law_2380 : decode cL_law 2380 = .ok (.iload 7, 2) := by decide +kernel
theorem dL_law_2382 : decode cL_law 2382 = .ok (.i2l, 1) := by decide +kernel
theorem dL_law_2383 : decode cL_law 2383 = .ok (.lcmp, 1) := by decide +kernel
theorem dL_law_2384 : decode cL_law 2384 = .ok (.ifCond .eq 5, 3) := by decide +kernel
theorem dL_law_2387 : decode cL_law 2387 = .ok (.iconst 0, 1) := by decide +kernel
theorem dL_law_2388 : decode cL_law 2388 = .ok (.ireturn, 1) := by decide +kernel
theorem dL_law_2389 : decode cL_law 2389 = .ok (.goto 609, 3) := by decide +kernel
theorem dL_law_2392 : decode cL_law 2392 = .ok (.aload_n 1, 1) := by decide +kernel
theorem dL_law_2393 : decode cL_law 2393 = .ok (.invokevirtual 323, 3) := by decide +kernel
theorem dL_law_2396 : decode cL_law 2396 = .ok (.dstore 6, 2) := by decide +kernel
theorem dL_law_2398 : decode cL_law 2398 = .ok (.aload_n 2, 1) := by decide +kernel
theorem dL_law_2399 : decode cL_law 2399 = .ok (.invokevirtual 327, 3) := by decide +kernel
theorem dL_law_2402 : decode cL_law 2402 = .ok (.dstore 8, 2) := by decide +kernel
theorem dL_law_2404 : decode cL_law 2404 = .ok (.dload 6, 2) := by decide +kernel
theorem dL_law_2406 : decode cL_law 2406 = .ok (.dload 8, 2) := by decide +kernel
theorem dL_law_2408 : decode cL_law 2408 = .ok (.dcmp .l, 1) := by decide +kernel
theorem dL_law_2409 : decode cL_law 2409 = .ok (.ifCond .eq 21, 3) := by decide +kernel
theorem dL_law_2412 : decode cL_law 2412 = .ok (.dload 6, 2) := by decide +kernel
theorem dL_law_2414 : decode cL_law 2414 = .ok (.dload 6, 2) := by decide +kernel
theorem dL_law_2416 : decode cL_law 2416 = .ok (.dcmp .l, 1) := by decide +kernel
theorem dL_law_2417 : decode cL_law 2417 = .ok (.ifCond .eq 11, 3) := by decide +kernel
theorem dL_law_2420 : decode cL_law 2420 = .ok (.dload 8, 2) := by decide +kernel
theorem dL_law_2422 : decode cL_law 2422 = .ok (.dload 8, 2) := by decide +kernel
theorem dL_law_2424 : decode cL_law 2424 = .ok (.dcmp .l, 1) := by decide +kernel
theorem dL_law_2425 : decode cL_law 2425 = .ok (.ifCond .ne 5, 3) := by decide +kernel
theorem dL_law_2428 : decode cL_law 2428 = .ok (.iconst 0, 1) := by decide +kernel
theorem dL_law_2429 : decode cL_law 2429 = .ok (.ireturn, 1) := by decide +kernel
theorem dL_law_2430 : decode cL_law 2430 = .ok (.goto 568, 3) := by decide +kernel
theorem dL_law_2433 : decode cL_law 2433 = .ok (.aload_n 1, 1) := by decide +kernel
theorem dL_law_2434 : decode cL_law 2434 = .ok (.aload_n 0, 1) := by decide +kernel
theorem dL_law_2435 : decode cL_law 2435 = .ok (.iload 5, 2) := by decide +kernel
theorem dL_law_2437 : decode cL_law 2437 = .ok (.iconst 1, 1) := by decide +kernel
theorem dL_law_2438 : decode cL_law 2438 = .ok (.iadd, 1) := by decide +kernel
theorem dL_law_2439 : decode cL_law 2439 = .ok (.iaload, 1) := by decide +kernel
theorem dL_law_2440 : decode cL_law 2440 = .ok (.aload 4, 2) := by decide +kernel
theorem dL_law_2442 : decode cL_law 2442 = .ok (.invokestatic 328, 3) := by decide +kernel
theorem dL_law_2445 : decode cL_law 2445 = .ok (.istore 6, 2) := by decide +kernel
theorem dL_law_2447 : decode cL_law 2447 = .ok (.aload_n 2, 1) := by decide +kernel
theorem dL_law_2448 : decode cL_law 2448 = .ok (.aload_n 0, 1) := by decide +kernel
theorem dL_law_2449 : decode cL_law 2449 = .ok (.iload 5, 2) := by decide +kernel
theorem dL_law_2451 : decode cL_law 2451 = .ok (.iconst 1, 1) := by decide +kernel
theorem dL_law_2452 : decode cL_law 2452 = .ok (.iadd, 1) := by decide +kernel
theorem dL_law_2453 : decode cL_law 2453 = .ok (.iaload, 1) := by decide +kernel
theorem dL_law_2454 : decode cL_law 2454 = .ok (.invokevirtual 331, 3) := by decide +kernel
theorem dL_law_2457 : decode cL_law 2457 = .ok (.fstore 7, 2) := by decide +kernel
theorem dL_law_2459 : decode cL_law 2459 = .ok (.aload_n 2, 1) := by decide +kernel
theorem dL_law_2460 : decode cL_law 2460 = .ok (.invokevirtual 173, 3) := by decide +kernel
theorem dL_law_2463 : decode cL_law 2463 = .ok (.iload 6, 2) := by decide +kernel
theorem dL_law_2465 : decode cL_law 2465 = .ok (.if_icmp .eq 5, 3) := by decide +kernel
theorem dL_law_2468 : decode cL_law 2468 = .ok (.iconst 0, 1) := by decide +kernel
theorem dL_law_2469 : decode cL_law 2469 = .ok (.ireturn, 1) := by decide +kernel
theorem dL_law_2470 : decode cL_law 2470 = .ok (.iload 6, 2) := by decide +kernel
theorem dL_law_2472 : decode cL_law 2472 = .ok (.ifCond .ne 36, 3) := by decide +kernel
theorem dL_law_2475 : decode cL_law 2475 = .ok (.aload 4, 2) := by decide +kernel
theorem dL_law_2477 : decode cL_law 2477 = .ok (.iconst 0, 1) := by decide +kernel
theorem dL_law_2478 : decode cL_law 2478 = .ok (.daload, 1) := by decide +kernel
theorem dL_law_2479 : decode cL_law 2479 = .ok (.fload 7, 2) := by decide +kernel
theorem dL_law_2481 : decode cL_law 2481 = .ok (.f2d, 1) := by decide +kernel
theorem dL_law_2482 : decode cL_law 2482 = .ok (.dcmp .l, 1) := by decide +kernel
theorem dL_law_2483 : decode cL_law 2483 = .ok (.ifCond .eq 25, 3) := by decide +kernel
theorem dL_law_2486 : decode cL_law 2486 = .ok (.aload 4, 2) := by decide +kernel
theorem dL_law_2488 : decode cL_law 2488 = .ok (.iconst 0, 1) := by decide +kernel
theorem dL_law_2489 : decode cL_law 2489 = .ok (.daload, 1) := by decide +kernel
theorem dL_law_2490 : decode cL_law 2490 = .ok (.aload 4, 2) := by decide +kernel
theorem dL_law_2492 : decode cL_law 2492 = .ok (.iconst 0, 1) := by decide +kernel
theorem dL_law_2493 : decode cL_law 2493 = .ok (.daload, 1) := by decide +kernel
theorem dL_law_2494 : decode cL_law 2494 = .ok (.dcmp .l, 1) := by decide +kernel
theorem dL_law_2495 : decode cL_law 2495 = .ok (.ifCond .eq 11, 3) := by decide +kernel
theorem dL_law_2498 : decode cL_law 2498 = .ok (.fload 7, 2) := by decide +kernel
theorem dL_law_2500 : decode cL_law 2500 = .ok (.fload 7, 2) := by decide +kernel
theorem dL_law_2502 : decode cL_law 2502 = .ok (.fcmp .l, 1) := by decide +kernel
theorem dL_law_2503 : decode cL_law 2503 = .ok (.ifCond .ne 5, 3) := by decide +kernel
theorem dL_law_2506 : decode cL_law 2506 = .ok (.iconst 0, 1) := by decide +kernel
theorem dL_law_2507 : decode cL_law 2507 = .ok (.ireturn, 1) := by decide +kernel
theorem dL_law_2508 : decode cL_law 2508 = .ok (.goto 490, 3) := by decide +kernel
theorem dL_law_2511 : decode cL_law 2511 = .ok (.aload_n 1, 1) := by decide +kernel
theorem dL_law_2512 : decode cL_law 2512 = .ok (.invokevirtual 332, 3) := by decide +kernel
theorem dL_law_2515 : decode cL_law 2515 = .ok (.aload_n 2, 1) := by decide +kernel
theorem dL_law_2516 : decode cL_law 2516 = .ok (.invokevirtual 335, 3) := by decide +kernel
theorem dL_law_2519 : decode cL_law 2519 = .ok (.if_icmp .eq 479, 3) := by decide +kernel
theorem dL_law_2522 : decode cL_law 2522 = .ok (.iconst 0, 1) := by decide +kernel
theorem dL_law_2523 : decode cL_law 2523 = .ok (.ireturn, 1) := by decide +kernel
theorem dL_law_2524 : decode cL_law 2524 = .ok (.aload_n 1, 1) := by decide +kernel
theorem dL_law_2525 : decode cL_law 2525 = .ok (.aload_n 3, 1) := by decide +kernel
theorem dL_law_2526 : decode cL_law 2526 = .ok (.invokestatic 336, 3) := by decide +kernel
theorem dL_law_2529 : decode cL_law 2529 = .ok (.istore 6, 2) := by decide +kernel
theorem dL_law_2531 : decode cL_law 2531 = .ok (.aload_n 2, 1) := by decide +kernel
theorem dL_law_2532 : decode cL_law 2532 = .ok (.invokevirtual 338, 3) := by decide +kernel
theorem dL_law_2535 : decode cL_law 2535 = .ok (.istore 7, 2) := by decide +kernel
theorem dL_law_2537 : decode cL_law 2537 = .ok (.aload_n 2, 1) := by decide +kernel
theorem dL_law_2538 : decode cL_law 2538 = .ok (.invokevirtual 173, 3) := by decide +kernel
theorem dL_law_2541 : decode cL_law 2541 = .ok (.iload 6, 2) := by decide +kernel
theorem dL_law_2543 : decode cL_law 2543 = .ok (.if_icmp .eq 5, 3) := by decide +kernel
theorem dL_law_2546 : decode cL_law 2546 = .ok (.iconst 0, 1) := by decide +kernel
theorem dL_law_2547 : decode cL_law 2547 = .ok (.ireturn, 1) := by decide +kernel
theorem dL_law_2548 : decode cL_law 2548 = .ok (.iload 6, 2) := by decide +kernel
theorem dL_law_2550 : decode cL_law 2550 = .ok (.ifCond .ne 15, 3) := by decide +kernel
theorem dL_law_2553 : decode cL_law 2553 = .ok (.aload_n 3, 1) := by decide +kernel
theorem dL_law_2554 : decode cL_law 2554 = .ok (.iconst 0, 1) := by decide +kernel
theorem dL_law_2555 : decode cL_law 2555 = .ok (.laload, 1) := by decide +kernel
theorem dL_law_2556 : decode cL_law 2556 = .ok (.iload 7, 2) := by decide +kernel
theorem dL_law_2558 : decode cL_law 2558 = .ok (.i2l, 1) := by decide +kernel
theorem dL_law_2559 : decode cL_law 2559 = .ok (.lcmp, 1) := by decide +kernel
theorem dL_law_2560 : decode cL_law 2560 = .ok (.ifCond .eq 5, 3) := by decide +kernel
theorem dL_law_2563 : decode cL_law 2563 = .ok (.iconst 0, 1) := by decide +kernel
theorem dL_law_2564 : decode cL_law 2564 = .ok (.ireturn, 1) := by decide +kernel
theorem dL_law_2565 : decode cL_law 2565 = .ok (.goto 433, 3) := by decide +kernel
theorem dL_law_2568 : decode cL_law 2568 = .ok (.aload_n 1, 1) := by decide +kernel
theorem dL_law_2569 : decode cL_law 2569 = .ok (.aload_n 3, 1) := by decide +kernel
theorem dL_law_2570 : decode cL_law 2570 = .ok (.invokestatic 339, 3) := by decide +kernel
theorem dL_law_2573 : decode cL_law 2573 = .ok (.istore 6, 2) := by decide +kernel
theorem dL_law_2575 : decode cL_law 2575 = .ok (.aload_n 2, 1) := by decide +kernel
theorem dL_law_2576 : decode cL_law 2576 = .ok (.invokevirtual 341, 3) := by decide +kernel
theorem dL_law_2579 : decode cL_law 2579 = .ok (.istore 7, 2) := by decide +kernel
theorem dL_law_2581 : decode cL_law 2581 = .ok (.aload_n 2, 1) := by decide +kernel
theorem dL_law_2582 : decode cL_law 2582 = .ok (.invokevirtual 173, 3) := by decide +kernel
theorem dL_law_2585 : decode cL_law 2585 = .ok (.iload 6, 2) := by decide +kernel
theorem dL_law_2587 : decode cL_law 2587 = .ok (.if_icmp .eq 5, 3) := by decide +kernel
theorem dL_law_2590 : decode cL_law 2590 = .ok (.iconst 0, 1) := by decide +kernel
theorem dL_law_2591 : decode cL_law 2591 = .ok (.ireturn, 1) := by decide +kernel
theorem dL_law_2592 : decode cL_law 2592 = .ok (.iload 6, 2) := by decide +kernel
theorem dL_law_2594 : decode cL_law 2594 = .ok (.ifCond .ne 15, 3) := by decide +kernel
theorem dL_law_2597 : decode cL_law 2597 = .ok (.aload_n 3, 1) := by decide +kernel
theorem dL_law_2598 : decode cL_law 2598 = .ok (.iconst 0, 1) := by decide +kernel
theorem dL_law_2599 : decode cL_law 2599 = .ok (.laload, 1) := by decide +kernel
theorem dL_law_2600 : decode cL_law 2600 = .ok (.iload 7, 2) := by decide +kernel
theorem dL_law_2602 : decode cL_law 2602 = .ok (.i2l, 1) := by decide +kernel
theorem dL_law_2603 : decode cL_law 2603 = .ok (.lcmp, 1) := by decide +kernel
theorem dL_law_2604 : decode cL_law 2604 = .ok (.ifCond .eq 5, 3) := by decide +kernel
theorem dL_law_2607 : decode cL_law 2607 = .ok (.iconst 0, 1) := by decide +kernel
theorem dL_law_2608 : decode cL_law 2608 = .ok (.ireturn, 1) := by decide +kernel
theorem dL_law_2609 : decode cL_law 2609 = .ok (.goto 389, 3) := by decide +kernel
theorem dL_law_2612 : decode cL_law 2612 = .ok (.aload_n 1, 1) := by decide +kernel
theorem dL_law_2613 : decode cL_law 2613 = .ok (.aload_n 3, 1) := by decide +kernel
theorem dL_law_2614 : decode cL_law 2614 = .ok (.invokestatic 342, 3) := by decide +kernel
theorem dL_law_2617 : decode cL_law 2617 = .ok (.istore 6, 2) := by decide +kernel
theorem dL_law_2619 : decode cL_law 2619 = .ok (.aload_n 2, 1) := by decide +kernel
theorem dL_law_2620 : decode cL_law 2620 = .ok (.invokevirtual 344, 3) := by decide +kernel
theorem dL_law_2623 : decode cL_law 2623 = .ok (.istore 7, 2) := by decide +kernel
theorem dL_law_2625 : decode cL_law 2625 = .ok (.aload_n 2, 1) := by decide +kernel
theorem dL_law_2626 : decode cL_law 2626 = .ok (.invokevirtual 173, 3) := by decide +kernel
theorem dL_law_2629 : decode cL_law 2629 = .ok (.iload 6, 2) := by decide +kernel
theorem dL_law_2631 : decode cL_law 2631 = .ok (.if_icmp .eq 5, 3) := by decide +kernel
theorem dL_law_2634 : decode cL_law 2634 = .ok (.iconst 0, 1) := by decide +kernel
theorem dL_law_2635 : decode cL_law 2635 = .ok (.ireturn, 1) := by decide +kernel
theorem dL_law_2636 : decode cL_law 2636 = .ok (.iload 6, 2) := by decide +kernel
theorem dL_law_2638 : decode cL_law 2638 = .ok (.ifCond .ne 15, 3) := by decide +kernel
theorem dL_law_2641 : decode cL_law 2641 = .ok (.aload_n 3, 1) := by decide +kernel
theorem dL_law_2642 : decode cL_law 2642 = .ok (.iconst 0, 1) := by decide +kernel
theorem dL_law_2643 : decode cL_law 2643 = .ok (.laload, 1) := by decide +kernel
theorem dL_law_2644 : decode cL_law 2644 = .ok (.iload 7, 2) := by decide +kernel
theorem dL_law_2646 : decode cL_law 2646 = .ok (.i2l, 1) := by decide +kernel
theorem dL_law_2647 : decode cL_law 2647 = .ok (.lcmp, 1) := by decide +kernel
theorem dL_law_2648 : decode cL_law 2648 = .ok (.ifCond .eq 5, 3) := by decide +kernel
theorem dL_law_2651 : decode cL_law 2651 = .ok (.iconst 0, 1) := by decide +kernel
theorem dL_law_2652 : decode cL_law 2652 = .ok (.ireturn, 1) := by decide +kernel
theorem dL_law_2653 : decode cL_law 2653 = .ok (.goto 345, 3) := by decide +kernel
theorem dL_law_2656 : decode cL_law 2656 = .ok (.aload_n 1, 1) := by decide +kernel
theorem dL_law_2657 : decode cL_law 2657 = .ok (.aload_n 0, 1) := by decide +kernel
theorem dL_law_2658 : decode cL_law 2658 = .ok (.iload 5, 2) := by decide +kernel
theorem dL_law_2660 : decode cL_law 2660 = .ok (.iconst 1, 1) := by decide +kernel
theorem dL_law_2661 : decode cL_law 2661 = .ok (.iadd, 1) := by decide +kernel
theorem dL_law_2662 : decode cL_law 2662 = .ok (.iaload, 1) := by decide +kernel
theorem dL_law_2663 : decode cL_law 2663 = .ok (.i2c, 1) := by decide +kernel
theorem dL_law_2664 : decode cL_law 2664 = .ok (.aload_n 3, 1) := by decide +kernel
theorem dL_law_2665 : decode cL_law 2665 = .ok (.invokestatic 345, 3) := by decide +kernel
theorem dL_law_2668 : decode cL_law 2668 = .ok (.istore 6, 2) := by decide +kernel
theorem dL_law_2670 : decode cL_law 2670 = .ok (.aload_n 2, 1) := by decide +kernel
theorem dL_law_2671 : decode cL_law 2671 = .ok (.aload_n 0, 1) := by decide +kernel
theorem dL_law_2672 : decode cL_law 2672 = .ok (.iload 5, 2) := by decide +kernel
theorem dL_law_2674 : decode cL_law 2674 = .ok (.iconst 1, 1) := by decide +kernel
theorem dL_law_2675 : decode cL_law 2675 = .ok (.iadd, 1) := by decide +kernel
theorem dL_law_2676 : decode cL_law 2676 = .ok (.iaload, 1) := by decide +kernel
theorem dL_law_2677 : decode cL_law 2677 = .ok (.i2c, 1) := by decide +kernel
theorem dL_law_2678 : decode cL_law 2678 = .ok (.invokevirtual 348, 3) := by decide +kernel
theorem dL_law_2681 : decode cL_law 2681 = .ok (.istore 7, 2) := by decide +kernel
theorem dL_law_2683 : decode cL_law 2683 = .ok (.aload_n 2, 1) := by decide +kernel
theorem dL_law_2684 : decode cL_law 2684 = .ok (.invokevirtual 173, 3) := by decide +kernel
theorem dL_law_2687 : decode cL_law 2687 = .ok (.iload 6, 2) := by decide +kernel
theorem dL_law_2689 : decode cL_law 2689 = .ok (.if_icmp .eq 5, 3) := by decide +kernel
theorem dL_law_2692 : decode cL_law 2692 = .ok (.iconst 0, 1) := by decide +kernel
theorem dL_law_2693 : decode cL_law 2693 = .ok (.ireturn, 1) := by decide +kernel
theorem dL_law_2694 : decode cL_law 2694 = .ok (.iload 6, 2) := by decide +kernel
theorem dL_law_2696 : decode cL_law 2696 = .ok (.ifCond .ne 15, 3) := by decide +kernel
theorem dL_law_2699 : decode cL_law 2699 = .ok (.aload_n 3, 1) := by decide +kernel
theorem dL_law_2700 : decode cL_law 2700 = .ok (.iconst 0, 1) := by decide +kernel
theorem dL_law_2701 : decode cL_law 2701 = .ok (.laload, 1) := by decide +kernel
theorem dL_law_2702 : decode cL_law 2702 = .ok (.iload 7, 2) := by decide +kernel
theorem dL_law_2704 : decode cL_law 2704 = .ok (.i2l, 1) := by decide +kernel
theorem dL_law_2705 : decode cL_law 2705 = .ok (.lcmp, 1) := by decide +kernel
theorem dL_law_2706 : decode cL_law 2706 = .ok (.ifCond .eq 5, 3) := by decide +kernel
theorem dL_law_2709 : decode cL_law 2709 = .ok (.iconst 0, 1) := by decide +kernel
theorem dL_law_2710 : decode cL_law 2710 = .ok (.ireturn, 1) := by decide +kernel
theorem dL_law_2711 : decode cL_law 2711 = .ok (.goto 287, 3) := by decide +kernel
theorem dL_law_2714 : decode cL_law 2714 = .ok (.aload_n 1, 1) := by decide +kernel
theorem dL_law_2715 : decode cL_law 2715 = .ok (.aload_n 3, 1) := by decide +kernel
theorem dL_law_2716 : decode cL_law 2716 = .ok (.invokestatic 349, 3) := by decide +kernel
theorem dL_law_2719 : decode cL_law 2719 = .ok (.istore 6, 2) := by decide +kernel
theorem dL_law_2721 : decode cL_law 2721 = .ok (.aload_n 2, 1) := by decide +kernel
theorem dL_law_2722 : decode cL_law 2722 = .ok (.invokevirtual 351, 3) := by decide +kernel
theorem dL_law_2725 : decode cL_law 2725 = .ok (.istore 7, 2) := by decide +kernel
theorem dL_law_2727 : decode cL_law 2727 = .ok (.aload_n 2, 1) := by decide +kernel
theorem dL_law_2728 : decode cL_law 2728 = .ok (.invokevirtual 173, 3) := by decide +kernel
theorem dL_law_2731 : decode cL_law 2731 = .ok (.iload 6, 2) := by decide +kernel
theorem dL_law_2733 : decode cL_law 2733 = .ok (.if_icmp .eq 5, 3) := by decide +kernel
theorem dL_law_2736 : decode cL_law 2736 = .ok (.iconst 0, 1) := by decide +kernel
theorem dL_law_2737 : decode cL_law 2737 = .ok (.ireturn, 1) := by decide +kernel
theorem dL_law_2738 : decode cL_law 2738 = .ok (.iload 6, 2) := by decide +kernel
theorem dL_law_2740 : decode cL_law 2740 = .ok (.ifCond .ne 15, 3) := by decide +kernel
theorem dL_law_2743 : decode cL_law 2743 = .ok (.aload_n 3, 1) := by decide +kernel
theorem dL_law_2744 : decode cL_law 2744 = .ok (.iconst 0, 1) := by decide +kernel
theorem dL_law_2745 : decode cL_law 2745 = .ok (.laload, 1) := by decide +kernel
theorem dL_law_2746 : decode cL_law 2746 = .ok (.iload 7, 2) := by decide +kernel
theorem dL_law_2748 : decode cL_law 2748 = .ok (.i2l, 1) := by decide +kernel
theorem dL_law_2749 : decode cL_law 2749 = .ok (.lcmp, 1) := by decide +kernel
theorem dL_law_2750 : decode cL_law 2750 = .ok (.ifCond .eq 5, 3) := by decide +kernel
theorem dL_law_2753 : decode cL_law 2753 = .ok (.iconst 0, 1) := by decide +kernel
theorem dL_law_2754 : decode cL_law 2754 = .ok (.ireturn, 1) := by decide +kernel
theorem dL_law_2755 : decode cL_law 2755 = .ok (.goto 243, 3) := by decide +kernel
theorem dL_law_2758 : decode cL_law 2758 = .ok (.aload_n 1, 1) := by decide +kernel
theorem dL_law_2759 : decode cL_law 2759 = .ok (.aload_n 3, 1) := by decide +kernel
theorem dL_law_2760 : decode cL_law 2760 = .ok (.invokestatic 352, 3) := by decide +kernel
theorem dL_law_2763 : decode cL_law 2763 = .ok (.istore 6, 2) := by decide +kernel
theorem dL_law_2765 : decode cL_law 2765 = .ok (.aload_n 2, 1) := by decide +kernel
theorem dL_law_2766 : decode cL_law 2766 = .ok (.invokevirtual 354, 3) := by decide +kernel
theorem dL_law_2769 : decode cL_law 2769 = .ok (.istore 7, 2) := by decide +kernel
theorem dL_law_2771 : decode cL_law 2771 = .ok (.aload_n 2, 1) := by decide +kernel
theorem dL_law_2772 : decode cL_law 2772 = .ok (.invokevirtual 173, 3) := by decide +kernel
theorem dL_law_2775 : decode cL_law 2775 = .ok (.iload 6, 2) := by decide +kernel
theorem dL_law_2777 : decode cL_law 2777 = .ok (.if_icmp .eq 5, 3) := by decide +kernel
theorem dL_law_2780 : decode cL_law 2780 = .ok (.iconst 0, 1) := by decide +kernel
theorem dL_law_2781 : decode cL_law 2781 = .ok (.ireturn, 1) := by decide +kernel
theorem dL_law_2782 : decode cL_law 2782 = .ok (.iload 6, 2) := by decide +kernel
theorem dL_law_2784 : decode cL_law 2784 = .ok (.ifCond .ne 15, 3) := by decide +kernel
theorem dL_law_2787 : decode cL_law 2787 = .ok (.aload_n 3, 1) := by decide +kernel
theorem dL_law_2788 : decode cL_law 2788 = .ok (.iconst 0, 1) := by decide +kernel
theorem dL_law_2789 : decode cL_law 2789 = .ok (.laload, 1) := by decide +kernel
theorem dL_law_2790 : decode cL_law 2790 = .ok (.iload 7, 2) := by decide +kernel
theorem dL_law_2792 : decode cL_law 2792 = .ok (.i2l, 1) := by decide +kernel
theorem dL_law_2793 : decode cL_law 2793 = .ok (.lcmp, 1) := by decide +kernel
theorem dL_law_2794 : decode cL_law 2794 = .ok (.ifCond .eq 5, 3) := by decide +kernel
theorem dL_law_2797 : decode cL_law 2797 = .ok (.iconst 0, 1) := by decide +kernel
theorem dL_law_2798 : decode cL_law 2798 = .ok (.ireturn, 1) := by decide +kernel
theorem dL_law_2799 : decode cL_law 2799 = .ok (.goto 199, 3) := by decide +kernel
theorem dL_law_2802 : decode cL_law 2802 = .ok (.aload_n 1, 1) := by decide +kernel
theorem dL_law_2803 : decode cL_law 2803 = .ok (.invokevirtual 355, 3) := by decide +kernel
theorem dL_law_2806 : decode cL_law 2806 = .ok (.aload_n 2, 1) := by decide +kernel
theorem dL_law_2807 : decode cL_law 2807 = .ok (.invokevirtual 358, 3) := by decide +kernel
theorem dL_law_2810 : decode cL_law 2810 = .ok (.if_icmp .eq 188, 3) := by decide +kernel
theorem dL_law_2813 : decode cL_law 2813 = .ok (.iconst 0, 1) := by decide +kernel
theorem dL_law_2814 : decode cL_law 2814 = .ok (.ireturn, 1) := by decide +kernel
theorem dL_law_2815 : decode cL_law 2815 = .ok (.aload_n 1, 1) := by decide +kernel
theorem dL_law_2816 : decode cL_law 2816 = .ok (.invokevirtual 359, 3) := by decide +kernel
theorem dL_law_2819 : decode cL_law 2819 = .ok (.aload_n 2, 1) := by decide +kernel
theorem dL_law_2820 : decode cL_law 2820 = .ok (.invokevirtual 362, 3) := by decide +kernel
theorem dL_law_2823 : decode cL_law 2823 = .ok (.if_icmp .eq 175, 3) := by decide +kernel
theorem dL_law_2826 : decode cL_law 2826 = .ok (.iconst 0, 1) := by decide +kernel
theorem dL_law_2827 : decode cL_law 2827 = .ok (.ireturn, 1) := by decide +kernel
theorem dL_law_2828 : decode cL_law 2828 = .ok (.aload_n 1, 1) := by decide +kernel
theorem dL_law_2829 : decode cL_law 2829 = .ok (.aload_n 0, 1) := by decide +kernel
theorem dL_law_2830 : decode cL_law 2830 = .ok (.iload 5, 2) := by decide +kernel
theorem dL_law_2832 : decode cL_law 2832 = .ok (.iconst 1, 1) := by decide +kernel
theorem dL_law_2833 : decode cL_law 2833 = .ok (.iadd, 1) := by decide +kernel
theorem dL_law_2834 : decode cL_law 2834 = .ok (.iaload, 1) := by decide +kernel
theorem dL_law_2835 : decode cL_law 2835 = .ok (.aload_n 3, 1) := by decide +kernel
theorem dL_law_2836 : decode cL_law 2836 = .ok (.invokestatic 363, 3) := by decide +kernel
theorem dL_law_2839 : decode cL_law 2839 = .ok (.istore 6, 2) := by decide +kernel
theorem dL_law_2841 : decode cL_law 2841 = .ok (.aload_n 2, 1) := by decide +kernel
theorem dL_law_2842 : decode cL_law 2842 = .ok (.aload_n 0, 1) := by decide +kernel
theorem dL_law_2843 : decode cL_law 2843 = .ok (.iload 5, 2) := by decide +kernel
theorem dL_law_2845 : decode cL_law 2845 = .ok (.iconst 1, 1) := by decide +kernel
theorem dL_law_2846 : decode cL_law 2846 = .ok (.iadd, 1) := by decide +kernel
theorem dL_law_2847 : decode cL_law 2847 = .ok (.iaload, 1) := by decide +kernel
theorem dL_law_2848 : decode cL_law 2848 = .ok (.invokevirtual 365, 3) := by decide +kernel
theorem dL_law_2851 : decode cL_law 2851 = .ok (.istore 7, 2) := by decide +kernel
theorem dL_law_2853 : decode cL_law 2853 = .ok (.aload_n 2, 1) := by decide +kernel
theorem dL_law_2854 : decode cL_law 2854 = .ok (.invokevirtual 173, 3) := by decide +kernel
theorem dL_law_2857 : decode cL_law 2857 = .ok (.iload 6, 2) := by decide +kernel
theorem dL_law_2859 : decode cL_law 2859 = .ok (.if_icmp .eq 5, 3) := by decide +kernel
theorem dL_law_2862 : decode cL_law 2862 = .ok (.iconst 0, 1) := by decide +kernel
theorem dL_law_2863 : decode cL_law 2863 = .ok (.ireturn, 1) := by decide +kernel
theorem dL_law_2864 : decode cL_law 2864 = .ok (.iload 6, 2) := by decide +kernel
theorem dL_law_2866 : decode cL_law 2866 = .ok (.ifCond .ne 15, 3) := by decide +kernel
theorem dL_law_2869 : decode cL_law 2869 = .ok (.aload_n 3, 1) := by decide +kernel
theorem dL_law_2870 : decode cL_law 2870 = .ok (.iconst 0, 1) := by decide +kernel
theorem dL_law_2871 : decode cL_law 2871 = .ok (.laload, 1) := by decide +kernel
theorem dL_law_2872 : decode cL_law 2872 = .ok (.iload 7, 2) := by decide +kernel
theorem dL_law_2874 : decode cL_law 2874 = .ok (.i2l, 1) := by decide +kernel
theorem dL_law_2875 : decode cL_law 2875 = .ok (.lcmp, 1) := by decide +kernel
theorem dL_law_2876 : decode cL_law 2876 = .ok (.ifCond .eq 5, 3) := by decide +kernel
theorem dL_law_2879 : decode cL_law 2879 = .ok (.iconst 0, 1) := by decide +kernel
theorem dL_law_2880 : decode cL_law 2880 = .ok (.ireturn, 1) := by decide +kernel
theorem dL_law_2881 : decode cL_law 2881 = .ok (.goto 117, 3) := by decide +kernel
theorem dL_law_2884 : decode cL_law 2884 = .ok (.aload_n 1, 1) := by decide +kernel
theorem dL_law_2885 : decode cL_law 2885 = .ok (.invokevirtual 366, 3) := by decide +kernel
theorem dL_law_2888 : decode cL_law 2888 = .ok (.aload_n 2, 1) := by decide +kernel
theorem dL_law_2889 : decode cL_law 2889 = .ok (.invokevirtual 369, 3) := by decide +kernel
theorem dL_law_2892 : decode cL_law 2892 = .ok (.if_icmp .eq 106, 3) := by decide +kernel
theorem dL_law_2895 : decode cL_law 2895 = .ok (.iconst 0, 1) := by decide +kernel
theorem dL_law_2896 : decode cL_law 2896 = .ok (.ireturn, 1) := by decide +kernel
theorem dL_law_2897 : decode cL_law 2897 = .ok (.aload_n 1, 1) := by decide +kernel
theorem dL_law_2898 : decode cL_law 2898 = .ok (.aload_n 3, 1) := by decide +kernel
theorem dL_law_2899 : decode cL_law 2899 = .ok (.invokestatic 370, 3) := by decide +kernel
theorem dL_law_2902 : decode cL_law 2902 = .ok (.istore 6, 2) := by decide +kernel
theorem dL_law_2904 : decode cL_law 2904 = .ok (.aload_n 2, 1) := by decide +kernel
theorem dL_law_2905 : decode cL_law 2905 = .ok (.invokevirtual 372, 3) := by decide +kernel
theorem dL_law_2908 : decode cL_law 2908 = .ok (.istore 7, 2) := by decide +kernel
theorem dL_law_2910 : decode cL_law 2910 = .ok (.aload_n 2, 1) := by decide +kernel
theorem dL_law_2911 : decode cL_law 2911 = .ok (.invokevirtual 173, 3) := by decide +kernel
theorem dL_law_2914 : decode cL_law 2914 = .ok (.iload 6, 2) := by decide +kernel
theorem dL_law_2916 : decode cL_law 2916 = .ok (.if_icmp .eq 5, 3) := by decide +kernel
theorem dL_law_2919 : decode cL_law 2919 = .ok (.iconst 0, 1) := by decide +kernel
theorem dL_law_2920 : decode cL_law 2920 = .ok (.ireturn, 1) := by decide +kernel
theorem dL_law_2921 : decode cL_law 2921 = .ok (.iload 6, 2) := by decide +kernel
theorem dL_law_2923 : decode cL_law 2923 = .ok (.ifCond .ne 15, 3) := by decide +kernel
theorem dL_law_2926 : decode cL_law 2926 = .ok (.aload_n 3, 1) := by decide +kernel
theorem dL_law_2927 : decode cL_law 2927 = .ok (.iconst 0, 1) := by decide +kernel
theorem dL_law_2928 : decode cL_law 2928 = .ok (.laload, 1) := by decide +kernel
theorem dL_law_2929 : decode cL_law 2929 = .ok (.iload 7, 2) := by decide +kernel
theorem dL_law_2931 : decode cL_law 2931 = .ok (.i2l, 1) := by decide +kernel
theorem dL_law_2932 : decode cL_law 2932 = .ok (.lcmp, 1) := by decide +kernel
theorem dL_law_2933 : decode cL_law 2933 = .ok (.ifCond .eq 5, 3) := by decide +kernel
theorem dL_law_2936 : decode cL_law 2936 = .ok (.iconst 0, 1) := by decide +kernel
theorem dL_law_2937 : decode cL_law 2937 = .ok (.ireturn, 1) := by decide +kernel
theorem dL_law_2938 : decode cL_law 2938 = .ok (.goto 60, 3) := by decide +kernel
theorem dL_law_2941 : decode cL_law 2941 = .ok (.aload_n 1, 1) := by decide +kernel
theorem dL_law_2942 : decode cL_law 2942 = .ok (.invokevirtual 373, 3) := by decide +kernel
theorem dL_law_2945 : decode cL_law 2945 = .ok (.aload_n 2, 1) := by decide +kernel
theorem dL_law_2946 : decode cL_law 2946 = .ok (.invokevirtual 376, 3) := by decide +kernel
theorem dL_law_2949 : decode cL_law 2949 = .ok (.if_icmp .eq 49, 3) := by decide +kernel
theorem dL_law_2952 : decode cL_law 2952 = .ok (.iconst 0, 1) := by decide +kernel
theorem dL_law_2953 : decode cL_law 2953 = .ok (.ireturn, 1) := by decide +kernel
theorem dL_law_2954 : decode cL_law 2954 = .ok (.aload_n 1, 1) := by decide +kernel
theorem dL_law_2955 : decode cL_law 2955 = .ok (.aload_n 3, 1) := by decide +kernel
theorem dL_law_2956 : decode cL_law 2956 = .ok (.invokestatic 377, 3) := by decide +kernel
theorem dL_law_2959 : decode cL_law 2959 = .ok (.istore 6, 2) := by decide +kernel
theorem dL_law_2961 : decode cL_law 2961 = .ok (.aload_n 2, 1) := by decide +kernel
theorem dL_law_2962 : decode cL_law 2962 = .ok (.invokevirtual 379, 3) := by decide +kernel
theorem dL_law_2965 : decode cL_law 2965 = .ok (.istore 7, 2) := by decide +kernel
theorem dL_law_2967 : decode cL_law 2967 = .ok (.aload_n 2, 1) := by decide +kernel
theorem dL_law_2968 : decode cL_law 2968 = .ok (.invokevirtual 173, 3) := by decide +kernel
theorem dL_law_2971 : decode cL_law 2971 = .ok (.iload 6, 2) := by decide +kernel
theorem dL_law_2973 : decode cL_law 2973 = .ok (.if_icmp .eq 5, 3) := by decide +kernel
theorem dL_law_2976 : decode cL_law 2976 = .ok (.iconst 0, 1) := by decide +kernel
theorem dL_law_2977 : decode cL_law 2977 = .ok (.ireturn, 1) := by decide +kernel
theorem dL_law_2978 : decode cL_law 2978 = .ok (.iload 6, 2) := by decide +kernel
theorem dL_law_2980 : decode cL_law 2980 = .ok (.ifCond .ne 15, 3) := by decide +kernel
theorem dL_law_2983 : decode cL_law 2983 = .ok (.aload_n 3, 1) := by decide +kernel
theorem dL_law_2984 : decode cL_law 2984 = .ok (.iconst 0, 1) := by decide +kernel
theorem dL_law_2985 : decode cL_law 2985 = .ok (.laload, 1) := by decide +kernel
theorem dL_law_2986 : decode cL_law 2986 = .ok (.iload 7, 2) := by decide +kernel
theorem dL_law_2988 : decode cL_law 2988 = .ok (.i2l, 1) := by decide +kernel
theorem dL_law_2989 : decode cL_law 2989 = .ok (.lcmp, 1) := by decide +kernel
theorem dL_law_2990 : decode cL_law 2990 = .ok (.ifCond .eq 5, 3) := by decide +kernel
theorem dL_law_2993 : decode cL_law 2993 = .ok (.iconst 0, 1) := by decide +kernel
theorem dL_law_2994 : decode cL_law 2994 = .ok (.ireturn, 1) := by decide +kernel
theorem dL_law_2995 : decode cL_law 2995 = .ok (.goto 3, 3) := by decide +kernel
theorem dL_law_2998 : decode cL_law 2998 = .ok (.iinc 5 5, 3) := by decide +kernel
theorem dL_law_3001 : decode cL_law 3001 = .ok (.goto (-2973), 3) := by decide +kernel
theorem dL_law_3004 : decode cL_law 3004 = .ok (.iconst 1, 1) := by decide +kernel
theorem dL_law_3005 : decode cL_law 3005 = .ok (.ireturn, 1) := by decide +kernel

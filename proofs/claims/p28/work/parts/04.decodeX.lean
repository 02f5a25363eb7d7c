/-! decode rows (printed by program) -/
theorem dX0_init_0 : decode cX0_init 0 = .ok (.aload_n 0, 1) := by decide +kernel
theorem dX0_init_1 : decode cX0_init 1 = .ok (.invokespecial 3, 3) := by decide +kernel
theorem dX0_init_4 : decode cX0_init 4 = .ok (.aload_n 0, 1) := by decide +kernel
theorem dX0_init_5 : decode cX0_init 5 = .ok (.bipush 60, 2) := by decide +kernel
theorem dX0_init_7 : decode cX0_init 7 = .ok (.newarray .char, 2) := by decide +kernel
theorem dX0_init_9 : decode cX0_init 9 = .ok (.putfield 9, 3) := by decide +kernel
theorem dX0_init_12 : decode cX0_init 12 = .ok (.return_, 1) := by decide +kernel
theorem dX1_init_0 : decode cX1_init 0 = .ok (.aload_n 0, 1) := by decide +kernel
theorem dX1_init_1 : decode cX1_init 1 = .ok (.invokespecial 3, 3) := by decide +kernel
theorem dX1_init_4 : decode cX1_init 4 = .ok (.aload_n 0, 1) := by decide +kernel
theorem dX1_init_5 : decode cX1_init 5 = .ok (.iconst 4, 1) := by decide +kernel
theorem dX1_init_6 : decode cX1_init 6 = .ok (.newarray .int, 2) := by decide +kernel
theorem dX1_init_8 : decode cX1_init 8 = .ok (.putfield 9, 3) := by decide +kernel
theorem dX1_init_11 : decode cX1_init 11 = .ok (.aload_n 0, 1) := by decide +kernel
theorem dX1_init_12 : decode cX1_init 12 = .ok (.iconst 4, 1) := by decide +kernel
theorem dX1_init_13 : decode cX1_init 13 = .ok (.newarray .int, 2) := by decide +kernel
theorem dX1_init_15 : decode cX1_init 15 = .ok (.putfield 15, 3) := by decide +kernel
theorem dX1_init_18 : decode cX1_init 18 = .ok (.aload_n 0, 1) := by decide +kernel
theorem dX1_init_19 : decode cX1_init 19 = .ok (.bipush 10, 2) := by decide +kernel
theorem dX1_init_21 : decode cX1_init 21 = .ok (.putfield 18, 3) := by decide +kernel
theorem dX1_init_24 : decode cX1_init 24 = .ok (.aload_n 0, 1) := by decide +kernel
theorem dX1_init_25 : decode cX1_init 25 = .ok (.iconst 1, 1) := by decide +kernel
theorem dX1_init_26 : decode cX1_init 26 = .ok (.putfield 22, 3) := by decide +kernel
theorem dX1_init_29 : decode cX1_init 29 = .ok (.return_, 1) := by decide +kernel
theorem dX1_copyRoom_0 : decode cX1_copyRoom 0 = .ok (.aload_n 1, 1) := by decide +kernel
theorem dX1_copyRoom_1 : decode cX1_copyRoom 1 = .ok (.getfield 9, 3) := by decide +kernel
theorem dX1_copyRoom_4 : decode cX1_copyRoom 4 = .ok (.iconst 0, 1) := by decide +kernel
theorem dX1_copyRoom_5 : decode cX1_copyRoom 5 = .ok (.aload_n 0, 1) := by decide +kernel
theorem dX1_copyRoom_6 : decode cX1_copyRoom 6 = .ok (.getfield 9, 3) := by decide +kernel
theorem dX1_copyRoom_9 : decode cX1_copyRoom 9 = .ok (.iconst 0, 1) := by decide +kernel
theorem dX1_copyRoom_10 : decode cX1_copyRoom 10 = .ok (.iconst 4, 1) := by decide +kernel
theorem dX1_copyRoom_11 : decode cX1_copyRoom 11 = .ok (.invokestatic 26, 3) := by decide +kernel
theorem dX1_copyRoom_14 : decode cX1_copyRoom 14 = .ok (.aload_n 1, 1) := by decide +kernel
theorem dX1_copyRoom_15 : decode cX1_copyRoom 15 = .ok (.getfield 15, 3) := by decide +kernel
theorem dX1_copyRoom_18 : decode cX1_copyRoom 18 = .ok (.iconst 0, 1) := by decide +kernel
theorem dX1_copyRoom_19 : decode cX1_copyRoom 19 = .ok (.aload_n 0, 1) := by decide +kernel
theorem dX1_copyRoom_20 : decode cX1_copyRoom 20 = .ok (.getfield 15, 3) := by decide +kernel
theorem dX1_copyRoom_23 : decode cX1_copyRoom 23 = .ok (.iconst 0, 1) := by decide +kernel
theorem dX1_copyRoom_24 : decode cX1_copyRoom 24 = .ok (.iconst 4, 1) := by decide +kernel
theorem dX1_copyRoom_25 : decode cX1_copyRoom 25 = .ok (.invokestatic 26, 3) := by decide +kernel
theorem dX1_copyRoom_28 : decode cX1_copyRoom 28 = .ok (.aload_n 0, 1) := by decide +kernel
theorem dX1_copyRoom_29 : decode cX1_copyRoom 29 = .ok (.aload_n 1, 1) := by decide +kernel
theorem dX1_copyRoom_30 : decode cX1_copyRoom 30 = .ok (.getfield 32, 3) := by decide +kernel
theorem dX1_copyRoom_33 : decode cX1_copyRoom 33 = .ok (.putfield 32, 3) := by decide +kernel
theorem dX1_copyRoom_36 : decode cX1_copyRoom 36 = .ok (.aload_n 0, 1) := by decide +kernel
theorem dX1_copyRoom_37 : decode cX1_copyRoom 37 = .ok (.aload_n 1, 1) := by decide +kernel
theorem dX1_copyRoom_38 : decode cX1_copyRoom 38 = .ok (.getfield 18, 3) := by decide +kernel
theorem dX1_copyRoom_41 : decode cX1_copyRoom 41 = .ok (.putfield 18, 3) := by decide +kernel
theorem dX1_copyRoom_44 : decode cX1_copyRoom 44 = .ok (.aload_n 0, 1) := by decide +kernel
theorem dX1_copyRoom_45 : decode cX1_copyRoom 45 = .ok (.aload_n 1, 1) := by decide +kernel
theorem dX1_copyRoom_46 : decode cX1_copyRoom 46 = .ok (.getfield 35, 3) := by decide +kernel
theorem dX1_copyRoom_49 : decode cX1_copyRoom 49 = .ok (.putfield 35, 3) := by decide +kernel
theorem dX1_copyRoom_52 : decode cX1_copyRoom 52 = .ok (.aload_n 0, 1) := by decide +kernel
theorem dX1_copyRoom_53 : decode cX1_copyRoom 53 = .ok (.aload_n 1, 1) := by decide +kernel
theorem dX1_copyRoom_54 : decode cX1_copyRoom 54 = .ok (.getfield 38, 3) := by decide +kernel
theorem dX1_copyRoom_57 : decode cX1_copyRoom 57 = .ok (.putfield 38, 3) := by decide +kernel
theorem dX1_copyRoom_60 : decode cX1_copyRoom 60 = .ok (.aload_n 0, 1) := by decide +kernel
theorem dX1_copyRoom_61 : decode cX1_copyRoom 61 = .ok (.aload_n 1, 1) := by decide +kernel
theorem dX1_copyRoom_62 : decode cX1_copyRoom 62 = .ok (.getfield 41, 3) := by decide +kernel
theorem dX1_copyRoom_65 : decode cX1_copyRoom 65 = .ok (.putfield 41, 3) := by decide +kernel
theorem dX1_copyRoom_68 : decode cX1_copyRoom 68 = .ok (.aload_n 0, 1) := by decide +kernel
theorem dX1_copyRoom_69 : decode cX1_copyRoom 69 = .ok (.aload_n 1, 1) := by decide +kernel
theorem dX1_copyRoom_70 : decode cX1_copyRoom 70 = .ok (.getfield 22, 3) := by decide +kernel
theorem dX1_copyRoom_73 : decode cX1_copyRoom 73 = .ok (.putfield 22, 3) := by decide +kernel
theorem dX1_copyRoom_76 : decode cX1_copyRoom 76 = .ok (.aload_n 0, 1) := by decide +kernel
theorem dX1_copyRoom_77 : decode cX1_copyRoom 77 = .ok (.aload_n 1, 1) := by decide +kernel
theorem dX1_copyRoom_78 : decode cX1_copyRoom 78 = .ok (.getfield 44, 3) := by decide +kernel
theorem dX1_copyRoom_81 : decode cX1_copyRoom 81 = .ok (.putfield 44, 3) := by decide +kernel
theorem dX1_copyRoom_84 : decode cX1_copyRoom 84 = .ok (.return_, 1) := by decide +kernel
theorem dX1_number_0 : decode cX1_number 0 = .ok (.iload_n 1, 1) := by decide +kernel
theorem dX1_number_1 : decode cX1_number 1 = .ok (.tableswitch 87 0 6 #[43, 48, 56, 61, 69, 74, 82], 43) := by decide +kernel
theorem dX1_number_44 : decode cX1_number 44 = .ok (.aload_n 0, 1) := by decide +kernel
theorem dX1_number_45 : decode cX1_number 45 = .ok (.getfield 18, 3) := by decide +kernel
theorem dX1_number_48 : decode cX1_number 48 = .ok (.ireturn, 1) := by decide +kernel
theorem dX1_number_49 : decode cX1_number 49 = .ok (.aload_n 0, 1) := by decide +kernel
theorem dX1_number_50 : decode cX1_number 50 = .ok (.getfield 35, 3) := by decide +kernel
theorem dX1_number_53 : decode cX1_number 53 = .ok (.invokestatic 47, 3) := by decide +kernel
theorem dX1_number_56 : decode cX1_number 56 = .ok (.ireturn, 1) := by decide +kernel
theorem dX1_number_57 : decode cX1_number 57 = .ok (.aload_n 0, 1) := by decide +kernel
theorem dX1_number_58 : decode cX1_number 58 = .ok (.getfield 38, 3) := by decide +kernel
theorem dX1_number_61 : decode cX1_number 61 = .ok (.ireturn, 1) := by decide +kernel
theorem dX1_number_62 : decode cX1_number 62 = .ok (.aload_n 0, 1) := by decide +kernel
theorem dX1_number_63 : decode cX1_number 63 = .ok (.getfield 41, 3) := by decide +kernel
theorem dX1_number_66 : decode cX1_number 66 = .ok (.invokestatic 47, 3) := by decide +kernel
theorem dX1_number_69 : decode cX1_number 69 = .ok (.ireturn, 1) := by decide +kernel
theorem dX1_number_70 : decode cX1_number 70 = .ok (.aload_n 0, 1) := by decide +kernel
theorem dX1_number_71 : decode cX1_number 71 = .ok (.getfield 32, 3) := by decide +kernel
theorem dX1_number_74 : decode cX1_number 74 = .ok (.ireturn, 1) := by decide +kernel
theorem dX1_number_75 : decode cX1_number 75 = .ok (.aload_n 0, 1) := by decide +kernel
theorem dX1_number_76 : decode cX1_number 76 = .ok (.getfield 22, 3) := by decide +kernel
theorem dX1_number_79 : decode cX1_number 79 = .ok (.invokestatic 47, 3) := by decide +kernel
theorem dX1_number_82 : decode cX1_number 82 = .ok (.ireturn, 1) := by decide +kernel
theorem dX1_number_83 : decode cX1_number 83 = .ok (.aload_n 0, 1) := by decide +kernel
theorem dX1_number_84 : decode cX1_number 84 = .ok (.getfield 44, 3) := by decide +kernel
theorem dX1_number_87 : decode cX1_number 87 = .ok (.ireturn, 1) := by decide +kernel
theorem dX1_number_88 : decode cX1_number 88 = .ok (.aload_n 0, 1) := by decide +kernel
theorem dX1_number_89 : decode cX1_number 89 = .ok (.iconst 0, 1) := by decide +kernel
theorem dX1_number_90 : decode cX1_number 90 = .ok (.invokevirtual 51, 3) := by decide +kernel
theorem dX1_number_93 : decode cX1_number 93 = .ok (.ireturn, 1) := by decide +kernel
theorem dX1_keyAt_0 : decode cX1_keyAt 0 = .ok (.iload_n 1, 1) := by decide +kernel
theorem dX1_keyAt_1 : decode cX1_keyAt 1 = .ok (.ifCond .lt 20, 3) := by decide +kernel
theorem dX1_keyAt_4 : decode cX1_keyAt 4 = .ok (.iload_n 1, 1) := by decide +kernel
theorem dX1_keyAt_5 : decode cX1_keyAt 5 = .ok (.aload_n 0, 1) := by decide +kernel
theorem dX1_keyAt_6 : decode cX1_keyAt 6 = .ok (.getfield 32, 3) := by decide +kernel
theorem dX1_keyAt_9 : decode cX1_keyAt 9 = .ok (.if_icmp .ge 12, 3) := by decide +kernel
theorem dX1_keyAt_12 : decode cX1_keyAt 12 = .ok (.aload_n 0, 1) := by decide +kernel
theorem dX1_keyAt_13 : decode cX1_keyAt 13 = .ok (.getfield 9, 3) := by decide +kernel
theorem dX1_keyAt_16 : decode cX1_keyAt 16 = .ok (.iload_n 1, 1) := by decide +kernel
theorem dX1_keyAt_17 : decode cX1_keyAt 17 = .ok (.iaload, 1) := by decide +kernel
theorem dX1_keyAt_18 : decode cX1_keyAt 18 = .ok (.goto 4, 3) := by decide +kernel
theorem dX1_keyAt_21 : decode cX1_keyAt 21 = .ok (.iconst (-1), 1) := by decide +kernel
theorem dX1_keyAt_22 : decode cX1_keyAt 22 = .ok (.ireturn, 1) := by decide +kernel
theorem dX1_darkAt_0 : decode cX1_darkAt 0 = .ok (.iload_n 1, 1) := by decide +kernel
theorem dX1_darkAt_1 : decode cX1_darkAt 1 = .ok (.ifCond .lt 20, 3) := by decide +kernel
theorem dX1_darkAt_4 : decode cX1_darkAt 4 = .ok (.iload_n 1, 1) := by decide +kernel
theorem dX1_darkAt_5 : decode cX1_darkAt 5 = .ok (.aload_n 0, 1) := by decide +kernel
theorem dX1_darkAt_6 : decode cX1_darkAt 6 = .ok (.getfield 32, 3) := by decide +kernel
theorem dX1_darkAt_9 : decode cX1_darkAt 9 = .ok (.if_icmp .ge 12, 3) := by decide +kernel
theorem dX1_darkAt_12 : decode cX1_darkAt 12 = .ok (.aload_n 0, 1) := by decide +kernel
theorem dX1_darkAt_13 : decode cX1_darkAt 13 = .ok (.getfield 15, 3) := by decide +kernel
theorem dX1_darkAt_16 : decode cX1_darkAt 16 = .ok (.iload_n 1, 1) := by decide +kernel
theorem dX1_darkAt_17 : decode cX1_darkAt 17 = .ok (.iaload, 1) := by decide +kernel
theorem dX1_darkAt_18 : decode cX1_darkAt 18 = .ok (.goto 4, 3) := by decide +kernel
theorem dX1_darkAt_21 : decode cX1_darkAt 21 = .ok (.iconst (-1), 1) := by decide +kernel
theorem dX1_darkAt_22 : decode cX1_darkAt 22 = .ok (.ireturn, 1) := by decide +kernel
theorem dX1_placeOf_0 : decode cX1_placeOf 0 = .ok (.iconst 0, 1) := by decide +kernel
theorem dX1_placeOf_1 : decode cX1_placeOf 1 = .ok (.istore_n 2, 1) := by decide +kernel
theorem dX1_placeOf_2 : decode cX1_placeOf 2 = .ok (.iload_n 2, 1) := by decide +kernel
theorem dX1_placeOf_3 : decode cX1_placeOf 3 = .ok (.aload_n 0, 1) := by decide +kernel
theorem dX1_placeOf_4 : decode cX1_placeOf 4 = .ok (.getfield 32, 3) := by decide +kernel
theorem dX1_placeOf_7 : decode cX1_placeOf 7 = .ok (.if_icmp .ge 21, 3) := by decide +kernel
theorem dX1_placeOf_10 : decode cX1_placeOf 10 = .ok (.aload_n 0, 1) := by decide +kernel
theorem dX1_placeOf_11 : decode cX1_placeOf 11 = .ok (.getfield 9, 3) := by decide +kernel
theorem dX1_placeOf_14 : decode cX1_placeOf 14 = .ok (.iload_n 2, 1) := by decide +kernel
theorem dX1_placeOf_15 : decode cX1_placeOf 15 = .ok (.iaload, 1) := by decide +kernel
theorem dX1_placeOf_16 : decode cX1_placeOf 16 = .ok (.iload_n 1, 1) := by decide +kernel
theorem dX1_placeOf_17 : decode cX1_placeOf 17 = .ok (.if_icmp .ne 5, 3) := by decide +kernel
theorem dX1_placeOf_20 : decode cX1_placeOf 20 = .ok (.iload_n 2, 1) := by decide +kernel
theorem dX1_placeOf_21 : decode cX1_placeOf 21 = .ok (.ireturn, 1) := by decide +kernel
theorem dX1_placeOf_22 : decode cX1_placeOf 22 = .ok (.iinc 2 1, 3) := by decide +kernel
theorem dX1_placeOf_25 : decode cX1_placeOf 25 = .ok (.goto (-23), 3) := by decide +kernel
theorem dX1_placeOf_28 : decode cX1_placeOf 28 = .ok (.iconst (-1), 1) := by decide +kernel
theorem dX1_placeOf_29 : decode cX1_placeOf 29 = .ok (.ireturn, 1) := by decide +kernel
theorem dX1_addThing_0 : decode cX1_addThing 0 = .ok (.aload_n 0, 1) := by decide +kernel
theorem dX1_addThing_1 : decode cX1_addThing 1 = .ok (.getfield 32, 3) := by decide +kernel
theorem dX1_addThing_4 : decode cX1_addThing 4 = .ok (.iconst 4, 1) := by decide +kernel
theorem dX1_addThing_5 : decode cX1_addThing 5 = .ok (.if_icmp .ge 33, 3) := by decide +kernel
theorem dX1_addThing_8 : decode cX1_addThing 8 = .ok (.aload_n 0, 1) := by decide +kernel
theorem dX1_addThing_9 : decode cX1_addThing 9 = .ok (.getfield 9, 3) := by decide +kernel
theorem dX1_addThing_12 : decode cX1_addThing 12 = .ok (.aload_n 0, 1) := by decide +kernel
theorem dX1_addThing_13 : decode cX1_addThing 13 = .ok (.getfield 32, 3) := by decide +kernel
theorem dX1_addThing_16 : decode cX1_addThing 16 = .ok (.iload_n 1, 1) := by decide +kernel
theorem dX1_addThing_17 : decode cX1_addThing 17 = .ok (.iastore, 1) := by decide +kernel
theorem dX1_addThing_18 : decode cX1_addThing 18 = .ok (.aload_n 0, 1) := by decide +kernel
theorem dX1_addThing_19 : decode cX1_addThing 19 = .ok (.getfield 15, 3) := by decide +kernel
theorem dX1_addThing_22 : decode cX1_addThing 22 = .ok (.aload_n 0, 1) := by decide +kernel
theorem dX1_addThing_23 : decode cX1_addThing 23 = .ok (.getfield 32, 3) := by decide +kernel
theorem dX1_addThing_26 : decode cX1_addThing 26 = .ok (.iconst 0, 1) := by decide +kernel
theorem dX1_addThing_27 : decode cX1_addThing 27 = .ok (.iastore, 1) := by decide +kernel
theorem dX1_addThing_28 : decode cX1_addThing 28 = .ok (.aload_n 0, 1) := by decide +kernel
theorem dX1_addThing_29 : decode cX1_addThing 29 = .ok (.dup, 1) := by decide +kernel
theorem dX1_addThing_30 : decode cX1_addThing 30 = .ok (.getfield 32, 3) := by decide +kernel
theorem dX1_addThing_33 : decode cX1_addThing 33 = .ok (.iconst 1, 1) := by decide +kernel
theorem dX1_addThing_34 : decode cX1_addThing 34 = .ok (.iadd, 1) := by decide +kernel
theorem dX1_addThing_35 : decode cX1_addThing 35 = .ok (.putfield 32, 3) := by decide +kernel
theorem dX1_addThing_38 : decode cX1_addThing 38 = .ok (.return_, 1) := by decide +kernel
theorem dX1_takeNewCandle_0 : decode cX1_takeNewCandle 0 = .ok (.aload_n 0, 1) := by decide +kernel
theorem dX1_takeNewCandle_1 : decode cX1_takeNewCandle 1 = .ok (.bipush 20, 2) := by decide +kernel
theorem dX1_takeNewCandle_3 : decode cX1_takeNewCandle 3 = .ok (.putfield 18, 3) := by decide +kernel
theorem dX1_takeNewCandle_6 : decode cX1_takeNewCandle 6 = .ok (.aload_n 0, 1) := by decide +kernel
theorem dX1_takeNewCandle_7 : decode cX1_takeNewCandle 7 = .ok (.iconst 0, 1) := by decide +kernel
theorem dX1_takeNewCandle_8 : decode cX1_takeNewCandle 8 = .ok (.putfield 38, 3) := by decide +kernel
theorem dX1_takeNewCandle_11 : decode cX1_takeNewCandle 11 = .ok (.aload_n 0, 1) := by decide +kernel
theorem dX1_takeNewCandle_12 : decode cX1_takeNewCandle 12 = .ok (.iconst 0, 1) := by decide +kernel
theorem dX1_takeNewCandle_13 : decode cX1_takeNewCandle 13 = .ok (.putfield 35, 3) := by decide +kernel
theorem dX1_takeNewCandle_16 : decode cX1_takeNewCandle 16 = .ok (.return_, 1) := by decide +kernel
theorem dX1_burntInBeat_0 : decode cX1_burntInBeat 0 = .ok (.iconst 1, 1) := by decide +kernel
theorem dX1_burntInBeat_1 : decode cX1_burntInBeat 1 = .ok (.iload_n 0, 1) := by decide +kernel
theorem dX1_burntInBeat_2 : decode cX1_burntInBeat 2 = .ok (.iconst 3, 1) := by decide +kernel
theorem dX1_burntInBeat_3 : decode cX1_burntInBeat 3 = .ok (.if_icmp .lt 7, 3) := by decide +kernel
theorem dX1_burntInBeat_6 : decode cX1_burntInBeat 6 = .ok (.iconst 1, 1) := by decide +kernel
theorem dX1_burntInBeat_7 : decode cX1_burntInBeat 7 = .ok (.goto 4, 3) := by decide +kernel
theorem dX1_burntInBeat_10 : decode cX1_burntInBeat 10 = .ok (.iconst 0, 1) := by decide +kernel
theorem dX1_burntInBeat_11 : decode cX1_burntInBeat 11 = .ok (.invokestatic 47, 3) := by decide +kernel
theorem dX1_burntInBeat_14 : decode cX1_burntInBeat 14 = .ok (.iadd, 1) := by decide +kernel
theorem dX1_burntInBeat_15 : decode cX1_burntInBeat 15 = .ok (.iload_n 0, 1) := by decide +kernel
theorem dX1_burntInBeat_16 : decode cX1_burntInBeat 16 = .ok (.bipush 6, 2) := by decide +kernel
theorem dX1_burntInBeat_18 : decode cX1_burntInBeat 18 = .ok (.if_icmp .lt 7, 3) := by decide +kernel
theorem dX1_burntInBeat_21 : decode cX1_burntInBeat 21 = .ok (.iconst 1, 1) := by decide +kernel
theorem dX1_burntInBeat_22 : decode cX1_burntInBeat 22 = .ok (.goto 4, 3) := by decide +kernel
theorem dX1_burntInBeat_25 : decode cX1_burntInBeat 25 = .ok (.iconst 0, 1) := by decide +kernel
theorem dX1_burntInBeat_26 : decode cX1_burntInBeat 26 = .ok (.invokestatic 47, 3) := by decide +kernel
theorem dX1_burntInBeat_29 : decode cX1_burntInBeat 29 = .ok (.iadd, 1) := by decide +kernel
theorem dX1_burntInBeat_30 : decode cX1_burntInBeat 30 = .ok (.ireturn, 1) := by decide +kernel
theorem dX1_burnForBeat_0 : decode cX1_burnForBeat 0 = .ok (.aload_n 0, 1) := by decide +kernel
theorem dX1_burnForBeat_1 : decode cX1_burnForBeat 1 = .ok (.getfield 35, 3) := by decide +kernel
theorem dX1_burnForBeat_4 : decode cX1_burnForBeat 4 = .ok (.ifCond .ne 4, 3) := by decide +kernel
theorem dX1_burnForBeat_7 : decode cX1_burnForBeat 7 = .ok (.return_, 1) := by decide +kernel
theorem dX1_burnForBeat_8 : decode cX1_burnForBeat 8 = .ok (.aload_n 0, 1) := by decide +kernel
theorem dX1_burnForBeat_9 : decode cX1_burnForBeat 9 = .ok (.dup, 1) := by decide +kernel
theorem dX1_burnForBeat_10 : decode cX1_burnForBeat 10 = .ok (.getfield 44, 3) := by decide +kernel
theorem dX1_burnForBeat_13 : decode cX1_burnForBeat 13 = .ok (.iconst 1, 1) := by decide +kernel
theorem dX1_burnForBeat_14 : decode cX1_burnForBeat 14 = .ok (.iadd, 1) := by decide +kernel
theorem dX1_burnForBeat_15 : decode cX1_burnForBeat 15 = .ok (.putfield 44, 3) := by decide +kernel
theorem dX1_burnForBeat_18 : decode cX1_burnForBeat 18 = .ok (.aload_n 0, 1) := by decide +kernel
theorem dX1_burnForBeat_19 : decode cX1_burnForBeat 19 = .ok (.iconst 0, 1) := by decide +kernel
theorem dX1_burnForBeat_20 : decode cX1_burnForBeat 20 = .ok (.aload_n 0, 1) := by decide +kernel
theorem dX1_burnForBeat_21 : decode cX1_burnForBeat 21 = .ok (.getfield 18, 3) := by decide +kernel
theorem dX1_burnForBeat_24 : decode cX1_burnForBeat 24 = .ok (.aload_n 0, 1) := by decide +kernel
theorem dX1_burnForBeat_25 : decode cX1_burnForBeat 25 = .ok (.getfield 38, 3) := by decide +kernel
theorem dX1_burnForBeat_28 : decode cX1_burnForBeat 28 = .ok (.invokestatic 55, 3) := by decide +kernel
theorem dX1_burnForBeat_31 : decode cX1_burnForBeat 31 = .ok (.isub, 1) := by decide +kernel
theorem dX1_burnForBeat_32 : decode cX1_burnForBeat 32 = .ok (.invokestatic 58, 3) := by decide +kernel
theorem dX1_burnForBeat_35 : decode cX1_burnForBeat 35 = .ok (.putfield 18, 3) := by decide +kernel
theorem dX1_burnForBeat_38 : decode cX1_burnForBeat 38 = .ok (.aload_n 0, 1) := by decide +kernel
theorem dX1_burnForBeat_39 : decode cX1_burnForBeat 39 = .ok (.aload_n 0, 1) := by decide +kernel
theorem dX1_burnForBeat_40 : decode cX1_burnForBeat 40 = .ok (.getfield 18, 3) := by decide +kernel
theorem dX1_burnForBeat_43 : decode cX1_burnForBeat 43 = .ok (.ifCond .le 7, 3) := by decide +kernel
theorem dX1_burnForBeat_46 : decode cX1_burnForBeat 46 = .ok (.iconst 1, 1) := by decide +kernel
theorem dX1_burnForBeat_47 : decode cX1_burnForBeat 47 = .ok (.goto 4, 3) := by decide +kernel
theorem dX1_burnForBeat_50 : decode cX1_burnForBeat 50 = .ok (.iconst 0, 1) := by decide +kernel
theorem dX1_burnForBeat_51 : decode cX1_burnForBeat 51 = .ok (.putfield 35, 3) := by decide +kernel
theorem dX1_burnForBeat_54 : decode cX1_burnForBeat 54 = .ok (.aload_n 0, 1) := by decide +kernel
theorem dX1_burnForBeat_55 : decode cX1_burnForBeat 55 = .ok (.getfield 35, 3) := by decide +kernel
theorem dX1_burnForBeat_58 : decode cX1_burnForBeat 58 = .ok (.ifCond .eq 18, 3) := by decide +kernel
theorem dX1_burnForBeat_61 : decode cX1_burnForBeat 61 = .ok (.aload_n 0, 1) := by decide +kernel
theorem dX1_burnForBeat_62 : decode cX1_burnForBeat 62 = .ok (.bipush 9, 2) := by decide +kernel
theorem dX1_burnForBeat_64 : decode cX1_burnForBeat 64 = .ok (.aload_n 0, 1) := by decide +kernel
theorem dX1_burnForBeat_65 : decode cX1_burnForBeat 65 = .ok (.getfield 38, 3) := by decide +kernel
theorem dX1_burnForBeat_68 : decode cX1_burnForBeat 68 = .ok (.iconst 1, 1) := by decide +kernel
theorem dX1_burnForBeat_69 : decode cX1_burnForBeat 69 = .ok (.iadd, 1) := by decide +kernel
theorem dX1_burnForBeat_70 : decode cX1_burnForBeat 70 = .ok (.invokestatic 64, 3) := by decide +kernel
theorem dX1_burnForBeat_73 : decode cX1_burnForBeat 73 = .ok (.putfield 38, 3) := by decide +kernel
theorem dX1_burnForBeat_76 : decode cX1_burnForBeat 76 = .ok (.return_, 1) := by decide +kernel
theorem dX1_beatsUntrimmed_0 : decode cX1_beatsUntrimmed 0 = .ok (.aload_n 0, 1) := by decide +kernel
theorem dX1_beatsUntrimmed_1 : decode cX1_beatsUntrimmed 1 = .ok (.getfield 18, 3) := by decide +kernel
theorem dX1_beatsUntrimmed_4 : decode cX1_beatsUntrimmed 4 = .ok (.istore_n 1, 1) := by decide +kernel
theorem dX1_beatsUntrimmed_5 : decode cX1_beatsUntrimmed 5 = .ok (.aload_n 0, 1) := by decide +kernel
theorem dX1_beatsUntrimmed_6 : decode cX1_beatsUntrimmed 6 = .ok (.getfield 38, 3) := by decide +kernel
theorem dX1_beatsUntrimmed_9 : decode cX1_beatsUntrimmed 9 = .ok (.istore_n 2, 1) := by decide +kernel
theorem dX1_beatsUntrimmed_10 : decode cX1_beatsUntrimmed 10 = .ok (.iconst 0, 1) := by decide +kernel
theorem dX1_beatsUntrimmed_11 : decode cX1_beatsUntrimmed 11 = .ok (.istore_n 3, 1) := by decide +kernel
theorem dX1_beatsUntrimmed_12 : decode cX1_beatsUntrimmed 12 = .ok (.iload_n 3, 1) := by decide +kernel
theorem dX1_beatsUntrimmed_13 : decode cX1_beatsUntrimmed 13 = .ok (.bipush 60, 2) := by decide +kernel
theorem dX1_beatsUntrimmed_15 : decode cX1_beatsUntrimmed 15 = .ok (.if_icmp .ge 31, 3) := by decide +kernel
theorem dX1_beatsUntrimmed_18 : decode cX1_beatsUntrimmed 18 = .ok (.iload_n 1, 1) := by decide +kernel
theorem dX1_beatsUntrimmed_19 : decode cX1_beatsUntrimmed 19 = .ok (.ifCond .gt 5, 3) := by decide +kernel
theorem dX1_beatsUntrimmed_22 : decode cX1_beatsUntrimmed 22 = .ok (.iload_n 3, 1) := by decide +kernel
theorem dX1_beatsUntrimmed_23 : decode cX1_beatsUntrimmed 23 = .ok (.ireturn, 1) := by decide +kernel
theorem dX1_beatsUntrimmed_24 : decode cX1_beatsUntrimmed 24 = .ok (.iload_n 1, 1) := by decide +kernel
theorem dX1_beatsUntrimmed_25 : decode cX1_beatsUntrimmed 25 = .ok (.iload_n 2, 1) := by decide +kernel
theorem dX1_beatsUntrimmed_26 : decode cX1_beatsUntrimmed 26 = .ok (.invokestatic 55, 3) := by decide +kernel
theorem dX1_beatsUntrimmed_29 : decode cX1_beatsUntrimmed 29 = .ok (.isub, 1) := by decide +kernel
theorem dX1_beatsUntrimmed_30 : decode cX1_beatsUntrimmed 30 = .ok (.istore_n 1, 1) := by decide +kernel
theorem dX1_beatsUntrimmed_31 : decode cX1_beatsUntrimmed 31 = .ok (.bipush 9, 2) := by decide +kernel
theorem dX1_beatsUntrimmed_33 : decode cX1_beatsUntrimmed 33 = .ok (.iload_n 2, 1) := by decide +kernel
theorem dX1_beatsUntrimmed_34 : decode cX1_beatsUntrimmed 34 = .ok (.iconst 1, 1) := by decide +kernel
theorem dX1_beatsUntrimmed_35 : decode cX1_beatsUntrimmed 35 = .ok (.iadd, 1) := by decide +kernel
theorem dX1_beatsUntrimmed_36 : decode cX1_beatsUntrimmed 36 = .ok (.invokestatic 64, 3) := by decide +kernel
theorem dX1_beatsUntrimmed_39 : decode cX1_beatsUntrimmed 39 = .ok (.istore_n 2, 1) := by decide +kernel
theorem dX1_beatsUntrimmed_40 : decode cX1_beatsUntrimmed 40 = .ok (.iinc 3 1, 3) := by decide +kernel
theorem dX1_beatsUntrimmed_43 : decode cX1_beatsUntrimmed 43 = .ok (.goto (-31), 3) := by decide +kernel
theorem dX1_beatsUntrimmed_46 : decode cX1_beatsUntrimmed 46 = .ok (.bipush 60, 2) := by decide +kernel
theorem dX1_beatsUntrimmed_48 : decode cX1_beatsUntrimmed 48 = .ok (.ireturn, 1) := by decide +kernel
theorem dX1_beatsSaved_0 : decode cX1_beatsSaved 0 = .ok (.aload_n 0, 1) := by decide +kernel
theorem dX1_beatsSaved_1 : decode cX1_beatsSaved 1 = .ok (.getfield 35, 3) := by decide +kernel
theorem dX1_beatsSaved_4 : decode cX1_beatsSaved 4 = .ok (.ifCond .eq 15, 3) := by decide +kernel
theorem dX1_beatsSaved_7 : decode cX1_beatsSaved 7 = .ok (.aload_n 0, 1) := by decide +kernel
theorem dX1_beatsSaved_8 : decode cX1_beatsSaved 8 = .ok (.getfield 18, 3) := by decide +kernel
theorem dX1_beatsSaved_11 : decode cX1_beatsSaved 11 = .ok (.aload_n 0, 1) := by decide +kernel
theorem dX1_beatsSaved_12 : decode cX1_beatsSaved 12 = .ok (.invokevirtual 67, 3) := by decide +kernel
theorem dX1_beatsSaved_15 : decode cX1_beatsSaved 15 = .ok (.isub, 1) := by decide +kernel
theorem dX1_beatsSaved_16 : decode cX1_beatsSaved 16 = .ok (.goto 4, 3) := by decide +kernel
theorem dX1_beatsSaved_19 : decode cX1_beatsSaved 19 = .ok (.iconst 0, 1) := by decide +kernel
theorem dX1_beatsSaved_20 : decode cX1_beatsSaved 20 = .ok (.ireturn, 1) := by decide +kernel
theorem dX1_ageThings_0 : decode cX1_ageThings 0 = .ok (.iconst 0, 1) := by decide +kernel
theorem dX1_ageThings_1 : decode cX1_ageThings 1 = .ok (.istore_n 2, 1) := by decide +kernel
theorem dX1_ageThings_2 : decode cX1_ageThings 2 = .ok (.iconst 0, 1) := by decide +kernel
theorem dX1_ageThings_3 : decode cX1_ageThings 3 = .ok (.istore_n 3, 1) := by decide +kernel
theorem dX1_ageThings_4 : decode cX1_ageThings 4 = .ok (.iload_n 3, 1) := by decide +kernel
theorem dX1_ageThings_5 : decode cX1_ageThings 5 = .ok (.aload_n 0, 1) := by decide +kernel
theorem dX1_ageThings_6 : decode cX1_ageThings 6 = .ok (.getfield 32, 3) := by decide +kernel
theorem dX1_ageThings_9 : decode cX1_ageThings 9 = .ok (.if_icmp .ge 59, 3) := by decide +kernel
theorem dX1_ageThings_12 : decode cX1_ageThings 12 = .ok (.aload_n 0, 1) := by decide +kernel
theorem dX1_ageThings_13 : decode cX1_ageThings 13 = .ok (.getfield 35, 3) := by decide +kernel
theorem dX1_ageThings_16 : decode cX1_ageThings 16 = .ok (.ifCond .eq 7, 3) := by decide +kernel
theorem dX1_ageThings_19 : decode cX1_ageThings 19 = .ok (.iconst 0, 1) := by decide +kernel
theorem dX1_ageThings_20 : decode cX1_ageThings 20 = .ok (.goto 11, 3) := by decide +kernel
theorem dX1_ageThings_23 : decode cX1_ageThings 23 = .ok (.aload_n 0, 1) := by decide +kernel
theorem dX1_ageThings_24 : decode cX1_ageThings 24 = .ok (.getfield 15, 3) := by decide +kernel
theorem dX1_ageThings_27 : decode cX1_ageThings 27 = .ok (.iload_n 3, 1) := by decide +kernel
theorem dX1_ageThings_28 : decode cX1_ageThings 28 = .ok (.iaload, 1) := by decide +kernel
theorem dX1_ageThings_29 : decode cX1_ageThings 29 = .ok (.iconst 1, 1) := by decide +kernel
theorem dX1_ageThings_30 : decode cX1_ageThings 30 = .ok (.iadd, 1) := by decide +kernel
theorem dX1_ageThings_31 : decode cX1_ageThings 31 = .ok (.istore 4, 2) := by decide +kernel
theorem dX1_ageThings_33 : decode cX1_ageThings 33 = .ok (.iload 4, 2) := by decide +kernel
theorem dX1_ageThings_35 : decode cX1_ageThings 35 = .ok (.iload_n 1, 1) := by decide +kernel
theorem dX1_ageThings_36 : decode cX1_ageThings 36 = .ok (.if_icmp .ge 26, 3) := by decide +kernel
theorem dX1_ageThings_39 : decode cX1_ageThings 39 = .ok (.aload_n 0, 1) := by decide +kernel
theorem dX1_ageThings_40 : decode cX1_ageThings 40 = .ok (.getfield 9, 3) := by decide +kernel
theorem dX1_ageThings_43 : decode cX1_ageThings 43 = .ok (.iload_n 2, 1) := by decide +kernel
theorem dX1_ageThings_44 : decode cX1_ageThings 44 = .ok (.aload_n 0, 1) := by decide +kernel
theorem dX1_ageThings_45 : decode cX1_ageThings 45 = .ok (.getfield 9, 3) := by decide +kernel
theorem dX1_ageThings_48 : decode cX1_ageThings 48 = .ok (.iload_n 3, 1) := by decide +kernel
theorem dX1_ageThings_49 : decode cX1_ageThings 49 = .ok (.iaload, 1) := by decide +kernel
theorem dX1_ageThings_50 : decode cX1_ageThings 50 = .ok (.iastore, 1) := by decide +kernel
theorem dX1_ageThings_51 : decode cX1_ageThings 51 = .ok (.aload_n 0, 1) := by decide +kernel
theorem dX1_ageThings_52 : decode cX1_ageThings 52 = .ok (.getfield 15, 3) := by decide +kernel
theorem dX1_ageThings_55 : decode cX1_ageThings 55 = .ok (.iload_n 2, 1) := by decide +kernel
theorem dX1_ageThings_56 : decode cX1_ageThings 56 = .ok (.iload 4, 2) := by decide +kernel
theorem dX1_ageThings_58 : decode cX1_ageThings 58 = .ok (.iastore, 1) := by decide +kernel
theorem dX1_ageThings_59 : decode cX1_ageThings 59 = .ok (.iinc 2 1, 3) := by decide +kernel
theorem dX1_ageThings_62 : decode cX1_ageThings 62 = .ok (.iinc 3 1, 3) := by decide +kernel
theorem dX1_ageThings_65 : decode cX1_ageThings 65 = .ok (.goto (-61), 3) := by decide +kernel
theorem dX1_ageThings_68 : decode cX1_ageThings 68 = .ok (.aload_n 0, 1) := by decide +kernel
theorem dX1_ageThings_69 : decode cX1_ageThings 69 = .ok (.getfield 32, 3) := by decide +kernel
theorem dX1_ageThings_72 : decode cX1_ageThings 72 = .ok (.iload_n 2, 1) := by decide +kernel
theorem dX1_ageThings_73 : decode cX1_ageThings 73 = .ok (.isub, 1) := by decide +kernel
theorem dX1_ageThings_74 : decode cX1_ageThings 74 = .ok (.istore_n 3, 1) := by decide +kernel
theorem dX1_ageThings_75 : decode cX1_ageThings 75 = .ok (.aload_n 0, 1) := by decide +kernel
theorem dX1_ageThings_76 : decode cX1_ageThings 76 = .ok (.iload_n 2, 1) := by decide +kernel
theorem dX1_ageThings_77 : decode cX1_ageThings 77 = .ok (.putfield 32, 3) := by decide +kernel
theorem dX1_ageThings_80 : decode cX1_ageThings 80 = .ok (.iload_n 3, 1) := by decide +kernel
theorem dX1_ageThings_81 : decode cX1_ageThings 81 = .ok (.ireturn, 1) := by decide +kernel
theorem dX1_beatsToFirstForgotten_0 : decode cX1_beatsToFirstForgotten 0 = .ok (.iload_n 1, 1) := by decide +kernel
theorem dX1_beatsToFirstForgotten_1 : decode cX1_beatsToFirstForgotten 1 = .ok (.iconst 1, 1) := by decide +kernel
theorem dX1_beatsToFirstForgotten_2 : decode cX1_beatsToFirstForgotten 2 = .ok (.if_icmp .le 9, 3) := by decide +kernel
theorem dX1_beatsToFirstForgotten_5 : decode cX1_beatsToFirstForgotten 5 = .ok (.iload_n 1, 1) := by decide +kernel
theorem dX1_beatsToFirstForgotten_6 : decode cX1_beatsToFirstForgotten 6 = .ok (.iload_n 2, 1) := by decide +kernel
theorem dX1_beatsToFirstForgotten_7 : decode cX1_beatsToFirstForgotten 7 = .ok (.iadd, 1) := by decide +kernel
theorem dX1_beatsToFirstForgotten_8 : decode cX1_beatsToFirstForgotten 8 = .ok (.iconst 1, 1) := by decide +kernel
theorem dX1_beatsToFirstForgotten_9 : decode cX1_beatsToFirstForgotten 9 = .ok (.isub, 1) := by decide +kernel
theorem dX1_beatsToFirstForgotten_10 : decode cX1_beatsToFirstForgotten 10 = .ok (.ireturn, 1) := by decide +kernel
theorem dX1_beatsToFirstForgotten_11 : decode cX1_beatsToFirstForgotten 11 = .ok (.iconst 0, 1) := by decide +kernel
theorem dX1_beatsToFirstForgotten_12 : decode cX1_beatsToFirstForgotten 12 = .ok (.istore_n 3, 1) := by decide +kernel
theorem dX1_beatsToFirstForgotten_13 : decode cX1_beatsToFirstForgotten 13 = .ok (.iconst 0, 1) := by decide +kernel
theorem dX1_beatsToFirstForgotten_14 : decode cX1_beatsToFirstForgotten 14 = .ok (.istore 4, 2) := by decide +kernel
theorem dX1_beatsToFirstForgotten_16 : decode cX1_beatsToFirstForgotten 16 = .ok (.iload 4, 2) := by decide +kernel
theorem dX1_beatsToFirstForgotten_18 : decode cX1_beatsToFirstForgotten 18 = .ok (.aload_n 0, 1) := by decide +kernel
theorem dX1_beatsToFirstForgotten_19 : decode cX1_beatsToFirstForgotten 19 = .ok (.getfield 32, 3) := by decide +kernel
theorem dX1_beatsToFirstForgotten_22 : decode cX1_beatsToFirstForgotten 22 = .ok (.if_icmp .ge 21, 3) := by decide +kernel
theorem dX1_beatsToFirstForgotten_25 : decode cX1_beatsToFirstForgotten 25 = .ok (.iload_n 3, 1) := by decide +kernel
theorem dX1_beatsToFirstForgotten_26 : decode cX1_beatsToFirstForgotten 26 = .ok (.aload_n 0, 1) := by decide +kernel
theorem dX1_beatsToFirstForgotten_27 : decode cX1_beatsToFirstForgotten 27 = .ok (.getfield 15, 3) := by decide +kernel
theorem dX1_beatsToFirstForgotten_30 : decode cX1_beatsToFirstForgotten 30 = .ok (.iload 4, 2) := by decide +kernel
theorem dX1_beatsToFirstForgotten_32 : decode cX1_beatsToFirstForgotten 32 = .ok (.iaload, 1) := by decide +kernel
theorem dX1_beatsToFirstForgotten_33 : decode cX1_beatsToFirstForgotten 33 = .ok (.invokestatic 58, 3) := by decide +kernel
theorem dX1_beatsToFirstForgotten_36 : decode cX1_beatsToFirstForgotten 36 = .ok (.istore_n 3, 1) := by decide +kernel
theorem dX1_beatsToFirstForgotten_37 : decode cX1_beatsToFirstForgotten 37 = .ok (.iinc 4 1, 3) := by decide +kernel
theorem dX1_beatsToFirstForgotten_40 : decode cX1_beatsToFirstForgotten 40 = .ok (.goto (-24), 3) := by decide +kernel
theorem dX1_beatsToFirstForgotten_43 : decode cX1_beatsToFirstForgotten 43 = .ok (.iconst 1, 1) := by decide +kernel
theorem dX1_beatsToFirstForgotten_44 : decode cX1_beatsToFirstForgotten 44 = .ok (.iload_n 2, 1) := by decide +kernel
theorem dX1_beatsToFirstForgotten_45 : decode cX1_beatsToFirstForgotten 45 = .ok (.iload_n 3, 1) := by decide +kernel
theorem dX1_beatsToFirstForgotten_46 : decode cX1_beatsToFirstForgotten 46 = .ok (.isub, 1) := by decide +kernel
theorem dX1_beatsToFirstForgotten_47 : decode cX1_beatsToFirstForgotten 47 = .ok (.invokestatic 58, 3) := by decide +kernel
theorem dX1_beatsToFirstForgotten_50 : decode cX1_beatsToFirstForgotten 50 = .ok (.ireturn, 1) := by decide +kernel
theorem dX2_init_0 : decode cX2_init 0 = .ok (.aload_n 0, 1) := by decide +kernel
theorem dX2_init_1 : decode cX2_init 1 = .ok (.invokespecial 3, 3) := by decide +kernel
theorem dX2_init_4 : decode cX2_init 4 = .ok (.aload_n 0, 1) := by decide +kernel
theorem dX2_init_5 : decode cX2_init 5 = .ok (.bipush 6, 2) := by decide +kernel
theorem dX2_init_7 : decode cX2_init 7 = .ok (.anewarray 9, 3) := by decide +kernel
theorem dX2_init_10 : decode cX2_init 10 = .ok (.putfield 11, 3) := by decide +kernel
theorem dX2_init_13 : decode cX2_init 13 = .ok (.iconst 0, 1) := by decide +kernel
theorem dX2_init_14 : decode cX2_init 14 = .ok (.istore_n 1, 1) := by decide +kernel
theorem dX2_init_15 : decode cX2_init 15 = .ok (.iload_n 1, 1) := by decide +kernel
theorem dX2_init_16 : decode cX2_init 16 = .ok (.bipush 6, 2) := by decide +kernel
theorem dX2_init_18 : decode cX2_init 18 = .ok (.if_icmp .ge 22, 3) := by decide +kernel
theorem dX2_init_21 : decode cX2_init 21 = .ok (.aload_n 0, 1) := by decide +kernel
theorem dX2_init_22 : decode cX2_init 22 = .ok (.getfield 11, 3) := by decide +kernel
theorem dX2_init_25 : decode cX2_init 25 = .ok (.iload_n 1, 1) := by decide +kernel
theorem dX2_init_26 : decode cX2_init 26 = .ok (.new 9, 3) := by decide +kernel
theorem dX2_init_29 : decode cX2_init 29 = .ok (.dup, 1) := by decide +kernel
theorem dX2_init_30 : decode cX2_init 30 = .ok (.invokespecial 17, 3) := by decide +kernel
theorem dX2_init_33 : decode cX2_init 33 = .ok (.aastore, 1) := by decide +kernel
theorem dX2_init_34 : decode cX2_init 34 = .ok (.iinc 1 1, 3) := by decide +kernel
theorem dX2_init_37 : decode cX2_init 37 = .ok (.goto (-22), 3) := by decide +kernel
theorem dX2_init_40 : decode cX2_init 40 = .ok (.return_, 1) := by decide +kernel
theorem dX2_push_0 : decode cX2_push 0 = .ok (.aload_n 0, 1) := by decide +kernel
theorem dX2_push_1 : decode cX2_push 1 = .ok (.getfield 18, 3) := by decide +kernel
theorem dX2_push_4 : decode cX2_push 4 = .ok (.bipush 6, 2) := by decide +kernel
theorem dX2_push_6 : decode cX2_push 6 = .ok (.if_icmp .lt 7, 3) := by decide +kernel
theorem dX2_push_9 : decode cX2_push 9 = .ok (.aload_n 0, 1) := by decide +kernel
theorem dX2_push_10 : decode cX2_push 10 = .ok (.invokevirtual 22, 3) := by decide +kernel
theorem dX2_push_13 : decode cX2_push 13 = .ok (.aload_n 0, 1) := by decide +kernel
theorem dX2_push_14 : decode cX2_push 14 = .ok (.getfield 11, 3) := by decide +kernel
theorem dX2_push_17 : decode cX2_push 17 = .ok (.aload_n 0, 1) := by decide +kernel
theorem dX2_push_18 : decode cX2_push 18 = .ok (.getfield 18, 3) := by decide +kernel
theorem dX2_push_21 : decode cX2_push 21 = .ok (.aaload, 1) := by decide +kernel
theorem dX2_push_22 : decode cX2_push 22 = .ok (.aload_n 1, 1) := by decide +kernel
theorem dX2_push_23 : decode cX2_push 23 = .ok (.invokevirtual 25, 3) := by decide +kernel
theorem dX2_push_26 : decode cX2_push 26 = .ok (.aload_n 0, 1) := by decide +kernel
theorem dX2_push_27 : decode cX2_push 27 = .ok (.dup, 1) := by decide +kernel
theorem dX2_push_28 : decode cX2_push 28 = .ok (.getfield 18, 3) := by decide +kernel
theorem dX2_push_31 : decode cX2_push 31 = .ok (.iconst 1, 1) := by decide +kernel
theorem dX2_push_32 : decode cX2_push 32 = .ok (.iadd, 1) := by decide +kernel
theorem dX2_push_33 : decode cX2_push 33 = .ok (.putfield 18, 3) := by decide +kernel
theorem dX2_push_36 : decode cX2_push 36 = .ok (.return_, 1) := by decide +kernel
theorem dX2_dropOldest_0 : decode cX2_dropOldest 0 = .ok (.aload_n 0, 1) := by decide +kernel
theorem dX2_dropOldest_1 : decode cX2_dropOldest 1 = .ok (.getfield 11, 3) := by decide +kernel
theorem dX2_dropOldest_4 : decode cX2_dropOldest 4 = .ok (.iconst 0, 1) := by decide +kernel
theorem dX2_dropOldest_5 : decode cX2_dropOldest 5 = .ok (.aaload, 1) := by decide +kernel
theorem dX2_dropOldest_6 : decode cX2_dropOldest 6 = .ok (.astore_n 1, 1) := by decide +kernel
theorem dX2_dropOldest_7 : decode cX2_dropOldest 7 = .ok (.iconst 1, 1) := by decide +kernel
theorem dX2_dropOldest_8 : decode cX2_dropOldest 8 = .ok (.istore_n 2, 1) := by decide +kernel
theorem dX2_dropOldest_9 : decode cX2_dropOldest 9 = .ok (.iload_n 2, 1) := by decide +kernel
theorem dX2_dropOldest_10 : decode cX2_dropOldest 10 = .ok (.bipush 6, 2) := by decide +kernel
theorem dX2_dropOldest_12 : decode cX2_dropOldest 12 = .ok (.if_icmp .ge 23, 3) := by decide +kernel
theorem dX2_dropOldest_15 : decode cX2_dropOldest 15 = .ok (.aload_n 0, 1) := by decide +kernel
theorem dX2_dropOldest_16 : decode cX2_dropOldest 16 = .ok (.getfield 11, 3) := by decide +kernel
theorem dX2_dropOldest_19 : decode cX2_dropOldest 19 = .ok (.iload_n 2, 1) := by decide +kernel
theorem dX2_dropOldest_20 : decode cX2_dropOldest 20 = .ok (.iconst 1, 1) := by decide +kernel
theorem dX2_dropOldest_21 : decode cX2_dropOldest 21 = .ok (.isub, 1) := by decide +kernel
theorem dX2_dropOldest_22 : decode cX2_dropOldest 22 = .ok (.aload_n 0, 1) := by decide +kernel
theorem dX2_dropOldest_23 : decode cX2_dropOldest 23 = .ok (.getfield 11, 3) := by decide +kernel
theorem dX2_dropOldest_26 : decode cX2_dropOldest 26 = .ok (.iload_n 2, 1) := by decide +kernel
theorem dX2_dropOldest_27 : decode cX2_dropOldest 27 = .ok (.aaload, 1) := by decide +kernel
theorem dX2_dropOldest_28 : decode cX2_dropOldest 28 = .ok (.aastore, 1) := by decide +kernel
theorem dX2_dropOldest_29 : decode cX2_dropOldest 29 = .ok (.iinc 2 1, 3) := by decide +kernel
theorem dX2_dropOldest_32 : decode cX2_dropOldest 32 = .ok (.goto (-23), 3) := by decide +kernel
theorem dX2_dropOldest_35 : decode cX2_dropOldest 35 = .ok (.aload_n 0, 1) := by decide +kernel
theorem dX2_dropOldest_36 : decode cX2_dropOldest 36 = .ok (.getfield 11, 3) := by decide +kernel
theorem dX2_dropOldest_39 : decode cX2_dropOldest 39 = .ok (.iconst 5, 1) := by decide +kernel
theorem dX2_dropOldest_40 : decode cX2_dropOldest 40 = .ok (.aload_n 1, 1) := by decide +kernel
theorem dX2_dropOldest_41 : decode cX2_dropOldest 41 = .ok (.aastore, 1) := by decide +kernel
theorem dX2_dropOldest_42 : decode cX2_dropOldest 42 = .ok (.aload_n 0, 1) := by decide +kernel
theorem dX2_dropOldest_43 : decode cX2_dropOldest 43 = .ok (.iconst 5, 1) := by decide +kernel
theorem dX2_dropOldest_44 : decode cX2_dropOldest 44 = .ok (.putfield 18, 3) := by decide +kernel
theorem dX2_dropOldest_47 : decode cX2_dropOldest 47 = .ok (.return_, 1) := by decide +kernel
theorem dX2_popInto_0 : decode cX2_popInto 0 = .ok (.aload_n 0, 1) := by decide +kernel
theorem dX2_popInto_1 : decode cX2_popInto 1 = .ok (.getfield 18, 3) := by decide +kernel
theorem dX2_popInto_4 : decode cX2_popInto 4 = .ok (.ifCond .le 26, 3) := by decide +kernel
theorem dX2_popInto_7 : decode cX2_popInto 7 = .ok (.aload_n 0, 1) := by decide +kernel
theorem dX2_popInto_8 : decode cX2_popInto 8 = .ok (.dup, 1) := by decide +kernel
theorem dX2_popInto_9 : decode cX2_popInto 9 = .ok (.getfield 18, 3) := by decide +kernel
theorem dX2_popInto_12 : decode cX2_popInto 12 = .ok (.iconst 1, 1) := by decide +kernel
theorem dX2_popInto_13 : decode cX2_popInto 13 = .ok (.isub, 1) := by decide +kernel
theorem dX2_popInto_14 : decode cX2_popInto 14 = .ok (.putfield 18, 3) := by decide +kernel
theorem dX2_popInto_17 : decode cX2_popInto 17 = .ok (.aload_n 1, 1) := by decide +kernel
theorem dX2_popInto_18 : decode cX2_popInto 18 = .ok (.aload_n 0, 1) := by decide +kernel
theorem dX2_popInto_19 : decode cX2_popInto 19 = .ok (.getfield 11, 3) := by decide +kernel
theorem dX2_popInto_22 : decode cX2_popInto 22 = .ok (.aload_n 0, 1) := by decide +kernel
theorem dX2_popInto_23 : decode cX2_popInto 23 = .ok (.getfield 18, 3) := by decide +kernel
theorem dX2_popInto_26 : decode cX2_popInto 26 = .ok (.aaload, 1) := by decide +kernel
theorem dX2_popInto_27 : decode cX2_popInto 27 = .ok (.invokevirtual 25, 3) := by decide +kernel
theorem dX2_popInto_30 : decode cX2_popInto 30 = .ok (.aload_n 0, 1) := by decide +kernel
theorem dX2_popInto_31 : decode cX2_popInto 31 = .ok (.getfield 18, 3) := by decide +kernel
theorem dX2_popInto_34 : decode cX2_popInto 34 = .ok (.ireturn, 1) := by decide +kernel
theorem dX3_init_0 : decode cX3_init 0 = .ok (.aload_n 0, 1) := by decide +kernel
theorem dX3_init_1 : decode cX3_init 1 = .ok (.invokespecial 3, 3) := by decide +kernel
theorem dX3_init_4 : decode cX3_init 4 = .ok (.aload_n 0, 1) := by decide +kernel
theorem dX3_init_5 : decode cX3_init 5 = .ok (.bipush 6, 2) := by decide +kernel
theorem dX3_init_7 : decode cX3_init 7 = .ok (.anewarray 9, 3) := by decide +kernel
theorem dX3_init_10 : decode cX3_init 10 = .ok (.putfield 11, 3) := by decide +kernel
theorem dX3_init_13 : decode cX3_init 13 = .ok (.iconst 0, 1) := by decide +kernel
theorem dX3_init_14 : decode cX3_init 14 = .ok (.istore_n 1, 1) := by decide +kernel
theorem dX3_init_15 : decode cX3_init 15 = .ok (.iload_n 1, 1) := by decide +kernel
theorem dX3_init_16 : decode cX3_init 16 = .ok (.bipush 6, 2) := by decide +kernel
theorem dX3_init_18 : decode cX3_init 18 = .ok (.if_icmp .ge 22, 3) := by decide +kernel
theorem dX3_init_21 : decode cX3_init 21 = .ok (.aload_n 0, 1) := by decide +kernel
theorem dX3_init_22 : decode cX3_init 22 = .ok (.getfield 11, 3) := by decide +kernel
theorem dX3_init_25 : decode cX3_init 25 = .ok (.iload_n 1, 1) := by decide +kernel
theorem dX3_init_26 : decode cX3_init 26 = .ok (.new 9, 3) := by decide +kernel
theorem dX3_init_29 : decode cX3_init 29 = .ok (.dup, 1) := by decide +kernel
theorem dX3_init_30 : decode cX3_init 30 = .ok (.invokespecial 17, 3) := by decide +kernel
theorem dX3_init_33 : decode cX3_init 33 = .ok (.aastore, 1) := by decide +kernel
theorem dX3_init_34 : decode cX3_init 34 = .ok (.iinc 1 1, 3) := by decide +kernel
theorem dX3_init_37 : decode cX3_init 37 = .ok (.goto (-22), 3) := by decide +kernel
theorem dX3_init_40 : decode cX3_init 40 = .ok (.aload_n 0, 1) := by decide +kernel
theorem dX3_init_41 : decode cX3_init 41 = .ok (.bipush 12, 2) := by decide +kernel
theorem dX3_init_43 : decode cX3_init 43 = .ok (.putfield 18, 3) := by decide +kernel
theorem dX3_init_46 : decode cX3_init 46 = .ok (.aload_n 0, 1) := by decide +kernel
theorem dX3_init_47 : decode cX3_init 47 = .ok (.iconst (-1), 1) := by decide +kernel
theorem dX3_init_48 : decode cX3_init 48 = .ok (.putfield 22, 3) := by decide +kernel
theorem dX3_init_51 : decode cX3_init 51 = .ok (.aload_n 0, 1) := by decide +kernel
theorem dX3_init_52 : decode cX3_init 52 = .ok (.bipush 12, 2) := by decide +kernel
theorem dX3_init_54 : decode cX3_init 54 = .ok (.putfield 25, 3) := by decide +kernel
theorem dX3_init_57 : decode cX3_init 57 = .ok (.return_, 1) := by decide +kernel
theorem dX3_copyFrom_0 : decode cX3_copyFrom 0 = .ok (.iconst 0, 1) := by decide +kernel
theorem dX3_copyFrom_1 : decode cX3_copyFrom 1 = .ok (.istore_n 2, 1) := by decide +kernel
theorem dX3_copyFrom_2 : decode cX3_copyFrom 2 = .ok (.iload_n 2, 1) := by decide +kernel
theorem dX3_copyFrom_3 : decode cX3_copyFrom 3 = .ok (.bipush 6, 2) := by decide +kernel
theorem dX3_copyFrom_5 : decode cX3_copyFrom 5 = .ok (.if_icmp .ge 24, 3) := by decide +kernel
theorem dX3_copyFrom_8 : decode cX3_copyFrom 8 = .ok (.aload_n 0, 1) := by decide +kernel
theorem dX3_copyFrom_9 : decode cX3_copyFrom 9 = .ok (.getfield 11, 3) := by decide +kernel
theorem dX3_copyFrom_12 : decode cX3_copyFrom 12 = .ok (.iload_n 2, 1) := by decide +kernel
theorem dX3_copyFrom_13 : decode cX3_copyFrom 13 = .ok (.aaload, 1) := by decide +kernel
theorem dX3_copyFrom_14 : decode cX3_copyFrom 14 = .ok (.aload_n 1, 1) := by decide +kernel
theorem dX3_copyFrom_15 : decode cX3_copyFrom 15 = .ok (.getfield 11, 3) := by decide +kernel
theorem dX3_copyFrom_18 : decode cX3_copyFrom 18 = .ok (.iload_n 2, 1) := by decide +kernel
theorem dX3_copyFrom_19 : decode cX3_copyFrom 19 = .ok (.aaload, 1) := by decide +kernel
theorem dX3_copyFrom_20 : decode cX3_copyFrom 20 = .ok (.invokevirtual 28, 3) := by decide +kernel
theorem dX3_copyFrom_23 : decode cX3_copyFrom 23 = .ok (.iinc 2 1, 3) := by decide +kernel
theorem dX3_copyFrom_26 : decode cX3_copyFrom 26 = .ok (.goto (-24), 3) := by decide +kernel
theorem dX3_copyFrom_29 : decode cX3_copyFrom 29 = .ok (.aload_n 0, 1) := by decide +kernel
theorem dX3_copyFrom_30 : decode cX3_copyFrom 30 = .ok (.aload_n 1, 1) := by decide +kernel
theorem dX3_copyFrom_31 : decode cX3_copyFrom 31 = .ok (.getfield 32, 3) := by decide +kernel
theorem dX3_copyFrom_34 : decode cX3_copyFrom 34 = .ok (.putfield 32, 3) := by decide +kernel
theorem dX3_copyFrom_37 : decode cX3_copyFrom 37 = .ok (.aload_n 0, 1) := by decide +kernel
theorem dX3_copyFrom_38 : decode cX3_copyFrom 38 = .ok (.aload_n 1, 1) := by decide +kernel
theorem dX3_copyFrom_39 : decode cX3_copyFrom 39 = .ok (.getfield 18, 3) := by decide +kernel
theorem dX3_copyFrom_42 : decode cX3_copyFrom 42 = .ok (.putfield 18, 3) := by decide +kernel
theorem dX3_copyFrom_45 : decode cX3_copyFrom 45 = .ok (.aload_n 0, 1) := by decide +kernel
theorem dX3_copyFrom_46 : decode cX3_copyFrom 46 = .ok (.aload_n 1, 1) := by decide +kernel
theorem dX3_copyFrom_47 : decode cX3_copyFrom 47 = .ok (.getfield 35, 3) := by decide +kernel
theorem dX3_copyFrom_50 : decode cX3_copyFrom 50 = .ok (.putfield 35, 3) := by decide +kernel
theorem dX3_copyFrom_53 : decode cX3_copyFrom 53 = .ok (.aload_n 0, 1) := by decide +kernel
theorem dX3_copyFrom_54 : decode cX3_copyFrom 54 = .ok (.aload_n 1, 1) := by decide +kernel
theorem dX3_copyFrom_55 : decode cX3_copyFrom 55 = .ok (.getfield 38, 3) := by decide +kernel
theorem dX3_copyFrom_58 : decode cX3_copyFrom 58 = .ok (.putfield 38, 3) := by decide +kernel
theorem dX3_copyFrom_61 : decode cX3_copyFrom 61 = .ok (.aload_n 0, 1) := by decide +kernel
theorem dX3_copyFrom_62 : decode cX3_copyFrom 62 = .ok (.aload_n 1, 1) := by decide +kernel
theorem dX3_copyFrom_63 : decode cX3_copyFrom 63 = .ok (.getfield 41, 3) := by decide +kernel
theorem dX3_copyFrom_66 : decode cX3_copyFrom 66 = .ok (.putfield 41, 3) := by decide +kernel
theorem dX3_copyFrom_69 : decode cX3_copyFrom 69 = .ok (.aload_n 0, 1) := by decide +kernel
theorem dX3_copyFrom_70 : decode cX3_copyFrom 70 = .ok (.aload_n 1, 1) := by decide +kernel
theorem dX3_copyFrom_71 : decode cX3_copyFrom 71 = .ok (.getfield 44, 3) := by decide +kernel
theorem dX3_copyFrom_74 : decode cX3_copyFrom 74 = .ok (.putfield 44, 3) := by decide +kernel
theorem dX3_copyFrom_77 : decode cX3_copyFrom 77 = .ok (.aload_n 0, 1) := by decide +kernel
theorem dX3_copyFrom_78 : decode cX3_copyFrom 78 = .ok (.aload_n 1, 1) := by decide +kernel
theorem dX3_copyFrom_79 : decode cX3_copyFrom 79 = .ok (.getfield 22, 3) := by decide +kernel
theorem dX3_copyFrom_82 : decode cX3_copyFrom 82 = .ok (.putfield 22, 3) := by decide +kernel
theorem dX3_copyFrom_85 : decode cX3_copyFrom 85 = .ok (.aload_n 0, 1) := by decide +kernel
theorem dX3_copyFrom_86 : decode cX3_copyFrom 86 = .ok (.aload_n 1, 1) := by decide +kernel
theorem dX3_copyFrom_87 : decode cX3_copyFrom 87 = .ok (.getfield 47, 3) := by decide +kernel
theorem dX3_copyFrom_90 : decode cX3_copyFrom 90 = .ok (.putfield 47, 3) := by decide +kernel
theorem dX3_copyFrom_93 : decode cX3_copyFrom 93 = .ok (.aload_n 0, 1) := by decide +kernel
theorem dX3_copyFrom_94 : decode cX3_copyFrom 94 = .ok (.aload_n 1, 1) := by decide +kernel
theorem dX3_copyFrom_95 : decode cX3_copyFrom 95 = .ok (.getfield 25, 3) := by decide +kernel
theorem dX3_copyFrom_98 : decode cX3_copyFrom 98 = .ok (.putfield 25, 3) := by decide +kernel
theorem dX3_copyFrom_101 : decode cX3_copyFrom 101 = .ok (.return_, 1) := by decide +kernel
theorem dX3_roomAt_0 : decode cX3_roomAt 0 = .ok (.aload_n 0, 1) := by decide +kernel
theorem dX3_roomAt_1 : decode cX3_roomAt 1 = .ok (.getfield 11, 3) := by decide +kernel
theorem dX3_roomAt_4 : decode cX3_roomAt 4 = .ok (.iload_n 1, 1) := by decide +kernel
theorem dX3_roomAt_5 : decode cX3_roomAt 5 = .ok (.bipush 6, 2) := by decide +kernel
theorem dX3_roomAt_7 : decode cX3_roomAt 7 = .ok (.invokestatic 50, 3) := by decide +kernel
theorem dX3_roomAt_10 : decode cX3_roomAt 10 = .ok (.aaload, 1) := by decide +kernel
theorem dX3_roomAt_11 : decode cX3_roomAt 11 = .ok (.areturn, 1) := by decide +kernel
theorem dX3_candlesBurning_0 : decode cX3_candlesBurning 0 = .ok (.iconst 0, 1) := by decide +kernel
theorem dX3_candlesBurning_1 : decode cX3_candlesBurning 1 = .ok (.istore_n 1, 1) := by decide +kernel
theorem dX3_candlesBurning_2 : decode cX3_candlesBurning 2 = .ok (.iconst 0, 1) := by decide +kernel
theorem dX3_candlesBurning_3 : decode cX3_candlesBurning 3 = .ok (.istore_n 2, 1) := by decide +kernel
theorem dX3_candlesBurning_4 : decode cX3_candlesBurning 4 = .ok (.iload_n 2, 1) := by decide +kernel
theorem dX3_candlesBurning_5 : decode cX3_candlesBurning 5 = .ok (.bipush 6, 2) := by decide +kernel
theorem dX3_candlesBurning_7 : decode cX3_candlesBurning 7 = .ok (.if_icmp .ge 24, 3) := by decide +kernel
theorem dX3_candlesBurning_10 : decode cX3_candlesBurning 10 = .ok (.iload_n 1, 1) := by decide +kernel
theorem dX3_candlesBurning_11 : decode cX3_candlesBurning 11 = .ok (.aload_n 0, 1) := by decide +kernel
theorem dX3_candlesBurning_12 : decode cX3_candlesBurning 12 = .ok (.getfield 11, 3) := by decide +kernel
theorem dX3_candlesBurning_15 : decode cX3_candlesBurning 15 = .ok (.iload_n 2, 1) := by decide +kernel
theorem dX3_candlesBurning_16 : decode cX3_candlesBurning 16 = .ok (.aaload, 1) := by decide +kernel
theorem dX3_candlesBurning_17 : decode cX3_candlesBurning 17 = .ok (.getfield 56, 3) := by decide +kernel
theorem dX3_candlesBurning_20 : decode cX3_candlesBurning 20 = .ok (.invokestatic 60, 3) := by decide +kernel
theorem dX3_candlesBurning_23 : decode cX3_candlesBurning 23 = .ok (.iadd, 1) := by decide +kernel
theorem dX3_candlesBurning_24 : decode cX3_candlesBurning 24 = .ok (.istore_n 1, 1) := by decide +kernel
theorem dX3_candlesBurning_25 : decode cX3_candlesBurning 25 = .ok (.iinc 2 1, 3) := by decide +kernel
theorem dX3_candlesBurning_28 : decode cX3_candlesBurning 28 = .ok (.goto (-24), 3) := by decide +kernel
theorem dX3_candlesBurning_31 : decode cX3_candlesBurning 31 = .ok (.iload_n 1, 1) := by decide +kernel
theorem dX3_candlesBurning_32 : decode cX3_candlesBurning 32 = .ok (.ireturn, 1) := by decide +kernel
theorem dX3_candlesBurningFrom_0 : decode cX3_candlesBurningFrom 0 = .ok (.iconst 0, 1) := by decide +kernel
theorem dX3_candlesBurningFrom_1 : decode cX3_candlesBurningFrom 1 = .ok (.istore_n 3, 1) := by decide +kernel
theorem dX3_candlesBurningFrom_2 : decode cX3_candlesBurningFrom 2 = .ok (.iconst 0, 1) := by decide +kernel
theorem dX3_candlesBurningFrom_3 : decode cX3_candlesBurningFrom 3 = .ok (.istore 4, 2) := by decide +kernel
theorem dX3_candlesBurningFrom_5 : decode cX3_candlesBurningFrom 5 = .ok (.iload 4, 2) := by decide +kernel
theorem dX3_candlesBurningFrom_7 : decode cX3_candlesBurningFrom 7 = .ok (.iload_n 2, 1) := by decide +kernel
theorem dX3_candlesBurningFrom_8 : decode cX3_candlesBurningFrom 8 = .ok (.if_icmp .ge 26, 3) := by decide +kernel
theorem dX3_candlesBurningFrom_11 : decode cX3_candlesBurningFrom 11 = .ok (.iload_n 3, 1) := by decide +kernel
theorem dX3_candlesBurningFrom_12 : decode cX3_candlesBurningFrom 12 = .ok (.aload_n 0, 1) := by decide +kernel
theorem dX3_candlesBurningFrom_13 : decode cX3_candlesBurningFrom 13 = .ok (.iload_n 1, 1) := by decide +kernel
theorem dX3_candlesBurningFrom_14 : decode cX3_candlesBurningFrom 14 = .ok (.iload 4, 2) := by decide +kernel
theorem dX3_candlesBurningFrom_16 : decode cX3_candlesBurningFrom 16 = .ok (.iadd, 1) := by decide +kernel
theorem dX3_candlesBurningFrom_17 : decode cX3_candlesBurningFrom 17 = .ok (.invokevirtual 64, 3) := by decide +kernel
theorem dX3_candlesBurningFrom_20 : decode cX3_candlesBurningFrom 20 = .ok (.getfield 56, 3) := by decide +kernel
theorem dX3_candlesBurningFrom_23 : decode cX3_candlesBurningFrom 23 = .ok (.invokestatic 60, 3) := by decide +kernel
theorem dX3_candlesBurningFrom_26 : decode cX3_candlesBurningFrom 26 = .ok (.iadd, 1) := by decide +kernel
theorem dX3_candlesBurningFrom_27 : decode cX3_candlesBurningFrom 27 = .ok (.istore_n 3, 1) := by decide +kernel
theorem dX3_candlesBurningFrom_28 : decode cX3_candlesBurningFrom 28 = .ok (.iinc 4 1, 3) := by decide +kernel
theorem dX3_candlesBurningFrom_31 : decode cX3_candlesBurningFrom 31 = .ok (.goto (-26), 3) := by decide +kernel
theorem dX3_candlesBurningFrom_34 : decode cX3_candlesBurningFrom 34 = .ok (.iload_n 3, 1) := by decide +kernel
theorem dX3_candlesBurningFrom_35 : decode cX3_candlesBurningFrom 35 = .ok (.ireturn, 1) := by decide +kernel
theorem dX3_thingsInAll_0 : decode cX3_thingsInAll 0 = .ok (.iconst 0, 1) := by decide +kernel
theorem dX3_thingsInAll_1 : decode cX3_thingsInAll 1 = .ok (.istore_n 1, 1) := by decide +kernel
theorem dX3_thingsInAll_2 : decode cX3_thingsInAll 2 = .ok (.iconst 0, 1) := by decide +kernel
theorem dX3_thingsInAll_3 : decode cX3_thingsInAll 3 = .ok (.istore_n 2, 1) := by decide +kernel
theorem dX3_thingsInAll_4 : decode cX3_thingsInAll 4 = .ok (.iload_n 2, 1) := by decide +kernel
theorem dX3_thingsInAll_5 : decode cX3_thingsInAll 5 = .ok (.bipush 6, 2) := by decide +kernel
theorem dX3_thingsInAll_7 : decode cX3_thingsInAll 7 = .ok (.if_icmp .ge 21, 3) := by decide +kernel
theorem dX3_thingsInAll_10 : decode cX3_thingsInAll 10 = .ok (.iload_n 1, 1) := by decide +kernel
theorem dX3_thingsInAll_11 : decode cX3_thingsInAll 11 = .ok (.aload_n 0, 1) := by decide +kernel
theorem dX3_thingsInAll_12 : decode cX3_thingsInAll 12 = .ok (.getfield 11, 3) := by decide +kernel
theorem dX3_thingsInAll_15 : decode cX3_thingsInAll 15 = .ok (.iload_n 2, 1) := by decide +kernel
theorem dX3_thingsInAll_16 : decode cX3_thingsInAll 16 = .ok (.aaload, 1) := by decide +kernel
theorem dX3_thingsInAll_17 : decode cX3_thingsInAll 17 = .ok (.getfield 68, 3) := by decide +kernel
theorem dX3_thingsInAll_20 : decode cX3_thingsInAll 20 = .ok (.iadd, 1) := by decide +kernel
theorem dX3_thingsInAll_21 : decode cX3_thingsInAll 21 = .ok (.istore_n 1, 1) := by decide +kernel
theorem dX3_thingsInAll_22 : decode cX3_thingsInAll 22 = .ok (.iinc 2 1, 3) := by decide +kernel
theorem dX3_thingsInAll_25 : decode cX3_thingsInAll 25 = .ok (.goto (-21), 3) := by decide +kernel
theorem dX3_thingsInAll_28 : decode cX3_thingsInAll 28 = .ok (.iload_n 1, 1) := by decide +kernel
theorem dX3_thingsInAll_29 : decode cX3_thingsInAll 29 = .ok (.ireturn, 1) := by decide +kernel
theorem dX3_roomOf_0 : decode cX3_roomOf 0 = .ok (.iconst 0, 1) := by decide +kernel
theorem dX3_roomOf_1 : decode cX3_roomOf 1 = .ok (.istore_n 2, 1) := by decide +kernel
theorem dX3_roomOf_2 : decode cX3_roomOf 2 = .ok (.iload_n 2, 1) := by decide +kernel
theorem dX3_roomOf_3 : decode cX3_roomOf 3 = .ok (.bipush 6, 2) := by decide +kernel
theorem dX3_roomOf_5 : decode cX3_roomOf 5 = .ok (.if_icmp .ge 25, 3) := by decide +kernel
theorem dX3_roomOf_8 : decode cX3_roomOf 8 = .ok (.aload_n 0, 1) := by decide +kernel
theorem dX3_roomOf_9 : decode cX3_roomOf 9 = .ok (.getfield 11, 3) := by decide +kernel
theorem dX3_roomOf_12 : decode cX3_roomOf 12 = .ok (.iload_n 2, 1) := by decide +kernel
theorem dX3_roomOf_13 : decode cX3_roomOf 13 = .ok (.aaload, 1) := by decide +kernel
theorem dX3_roomOf_14 : decode cX3_roomOf 14 = .ok (.iload_n 1, 1) := by decide +kernel
theorem dX3_roomOf_15 : decode cX3_roomOf 15 = .ok (.invokevirtual 71, 3) := by decide +kernel
theorem dX3_roomOf_18 : decode cX3_roomOf 18 = .ok (.iconst (-1), 1) := by decide +kernel
theorem dX3_roomOf_19 : decode cX3_roomOf 19 = .ok (.if_icmp .eq 5, 3) := by decide +kernel
theorem dX3_roomOf_22 : decode cX3_roomOf 22 = .ok (.iload_n 2, 1) := by decide +kernel
theorem dX3_roomOf_23 : decode cX3_roomOf 23 = .ok (.ireturn, 1) := by decide +kernel
theorem dX3_roomOf_24 : decode cX3_roomOf 24 = .ok (.iinc 2 1, 3) := by decide +kernel
theorem dX3_roomOf_27 : decode cX3_roomOf 27 = .ok (.goto (-25), 3) := by decide +kernel
theorem dX3_roomOf_30 : decode cX3_roomOf 30 = .ok (.iconst (-1), 1) := by decide +kernel
theorem dX3_roomOf_31 : decode cX3_roomOf 31 = .ok (.ireturn, 1) := by decide +kernel
theorem dX3_thingNumber_0 : decode cX3_thingNumber 0 = .ok (.aload_n 0, 1) := by decide +kernel
theorem dX3_thingNumber_1 : decode cX3_thingNumber 1 = .ok (.iload_n 1, 1) := by decide +kernel
theorem dX3_thingNumber_2 : decode cX3_thingNumber 2 = .ok (.invokevirtual 75, 3) := by decide +kernel
theorem dX3_thingNumber_5 : decode cX3_thingNumber 5 = .ok (.istore_n 3, 1) := by decide +kernel
theorem dX3_thingNumber_6 : decode cX3_thingNumber 6 = .ok (.iload_n 3, 1) := by decide +kernel
theorem dX3_thingNumber_7 : decode cX3_thingNumber 7 = .ok (.iconst (-1), 1) := by decide +kernel
theorem dX3_thingNumber_8 : decode cX3_thingNumber 8 = .ok (.if_icmp .ne 5, 3) := by decide +kernel
theorem dX3_thingNumber_11 : decode cX3_thingNumber 11 = .ok (.iconst (-1), 1) := by decide +kernel
theorem dX3_thingNumber_12 : decode cX3_thingNumber 12 = .ok (.ireturn, 1) := by decide +kernel
theorem dX3_thingNumber_13 : decode cX3_thingNumber 13 = .ok (.aload_n 0, 1) := by decide +kernel
theorem dX3_thingNumber_14 : decode cX3_thingNumber 14 = .ok (.iload_n 3, 1) := by decide +kernel
theorem dX3_thingNumber_15 : decode cX3_thingNumber 15 = .ok (.invokevirtual 64, 3) := by decide +kernel
theorem dX3_thingNumber_18 : decode cX3_thingNumber 18 = .ok (.astore 4, 2) := by decide +kernel
theorem dX3_thingNumber_20 : decode cX3_thingNumber 20 = .ok (.aload 4, 2) := by decide +kernel
theorem dX3_thingNumber_22 : decode cX3_thingNumber 22 = .ok (.iload_n 1, 1) := by decide +kernel
theorem dX3_thingNumber_23 : decode cX3_thingNumber 23 = .ok (.invokevirtual 71, 3) := by decide +kernel
theorem dX3_thingNumber_26 : decode cX3_thingNumber 26 = .ok (.istore 5, 2) := by decide +kernel
theorem dX3_thingNumber_28 : decode cX3_thingNumber 28 = .ok (.iload_n 2, 1) := by decide +kernel
theorem dX3_thingNumber_29 : decode cX3_thingNumber 29 = .ok (.lookupswitch 37 #[(0, 27), (1, 29)], 27) := by decide +kernel
theorem dX3_thingNumber_56 : decode cX3_thingNumber 56 = .ok (.iload_n 3, 1) := by decide +kernel
theorem dX3_thingNumber_57 : decode cX3_thingNumber 57 = .ok (.ireturn, 1) := by decide +kernel
theorem dX3_thingNumber_58 : decode cX3_thingNumber 58 = .ok (.aload 4, 2) := by decide +kernel
theorem dX3_thingNumber_60 : decode cX3_thingNumber 60 = .ok (.iload 5, 2) := by decide +kernel
theorem dX3_thingNumber_62 : decode cX3_thingNumber 62 = .ok (.invokevirtual 78, 3) := by decide +kernel
theorem dX3_thingNumber_65 : decode cX3_thingNumber 65 = .ok (.ireturn, 1) := by decide +kernel
theorem dX3_thingNumber_66 : decode cX3_thingNumber 66 = .ok (.iload 5, 2) := by decide +kernel
theorem dX3_thingNumber_68 : decode cX3_thingNumber 68 = .ok (.ireturn, 1) := by decide +kernel
theorem dX3_canStrike_0 : decode cX3_canStrike 0 = .ok (.aload_n 0, 1) := by decide +kernel
theorem dX3_canStrike_1 : decode cX3_canStrike 1 = .ok (.invokevirtual 81, 3) := by decide +kernel
theorem dX3_canStrike_4 : decode cX3_canStrike 4 = .ok (.ifCond .ne 18, 3) := by decide +kernel
theorem dX3_canStrike_7 : decode cX3_canStrike 7 = .ok (.aload_n 0, 1) := by decide +kernel
theorem dX3_canStrike_8 : decode cX3_canStrike 8 = .ok (.iload_n 1, 1) := by decide +kernel
theorem dX3_canStrike_9 : decode cX3_canStrike 9 = .ok (.invokevirtual 64, 3) := by decide +kernel
theorem dX3_canStrike_12 : decode cX3_canStrike 12 = .ok (.getfield 85, 3) := by decide +kernel
theorem dX3_canStrike_15 : decode cX3_canStrike 15 = .ok (.ifCond .le 7, 3) := by decide +kernel
theorem dX3_canStrike_18 : decode cX3_canStrike 18 = .ok (.iconst 1, 1) := by decide +kernel
theorem dX3_canStrike_19 : decode cX3_canStrike 19 = .ok (.goto 4, 3) := by decide +kernel
theorem dX3_canStrike_22 : decode cX3_canStrike 22 = .ok (.iconst 0, 1) := by decide +kernel
theorem dX3_canStrike_23 : decode cX3_canStrike 23 = .ok (.ireturn, 1) := by decide +kernel
theorem dX3_canLight_0 : decode cX3_canLight 0 = .ok (.aload_n 0, 1) := by decide +kernel
theorem dX3_canLight_1 : decode cX3_canLight 1 = .ok (.iload_n 1, 1) := by decide +kernel
theorem dX3_canLight_2 : decode cX3_canLight 2 = .ok (.invokevirtual 64, 3) := by decide +kernel
theorem dX3_canLight_5 : decode cX3_canLight 5 = .ok (.astore_n 3, 1) := by decide +kernel
theorem dX3_canLight_6 : decode cX3_canLight 6 = .ok (.aload_n 3, 1) := by decide +kernel
theorem dX3_canLight_7 : decode cX3_canLight 7 = .ok (.getfield 56, 3) := by decide +kernel
theorem dX3_canLight_10 : decode cX3_canLight 10 = .ok (.ifCond .ne 34, 3) := by decide +kernel
theorem dX3_canLight_13 : decode cX3_canLight 13 = .ok (.aload_n 3, 1) := by decide +kernel
theorem dX3_canLight_14 : decode cX3_canLight 14 = .ok (.getfield 85, 3) := by decide +kernel
theorem dX3_canLight_17 : decode cX3_canLight 17 = .ok (.ifCond .le 27, 3) := by decide +kernel
theorem dX3_canLight_20 : decode cX3_canLight 20 = .ok (.aload_n 0, 1) := by decide +kernel
theorem dX3_canLight_21 : decode cX3_canLight 21 = .ok (.iload_n 2, 1) := by decide +kernel
theorem dX3_canLight_22 : decode cX3_canLight 22 = .ok (.invokevirtual 64, 3) := by decide +kernel
theorem dX3_canLight_25 : decode cX3_canLight 25 = .ok (.getfield 56, 3) := by decide +kernel
theorem dX3_canLight_28 : decode cX3_canLight 28 = .ok (.ifCond .eq 16, 3) := by decide +kernel
theorem dX3_canLight_31 : decode cX3_canLight 31 = .ok (.aload_n 0, 1) := by decide +kernel
theorem dX3_canLight_32 : decode cX3_canLight 32 = .ok (.iload_n 1, 1) := by decide +kernel
theorem dX3_canLight_33 : decode cX3_canLight 33 = .ok (.iload_n 2, 1) := by decide +kernel
theorem dX3_canLight_34 : decode cX3_canLight 34 = .ok (.invokevirtual 88, 3) := by decide +kernel
theorem dX3_canLight_37 : decode cX3_canLight 37 = .ok (.ifCond .eq 7, 3) := by decide +kernel
theorem dX3_canLight_40 : decode cX3_canLight 40 = .ok (.iconst 1, 1) := by decide +kernel
theorem dX3_canLight_41 : decode cX3_canLight 41 = .ok (.goto 4, 3) := by decide +kernel
theorem dX3_canLight_44 : decode cX3_canLight 44 = .ok (.iconst 0, 1) := by decide +kernel
theorem dX3_canLight_45 : decode cX3_canLight 45 = .ok (.ireturn, 1) := by decide +kernel
theorem dX3_areJoined_0 : decode cX3_areJoined 0 = .ok (.iload_n 2, 1) := by decide +kernel
theorem dX3_areJoined_1 : decode cX3_areJoined 1 = .ok (.iload_n 1, 1) := by decide +kernel
theorem dX3_areJoined_2 : decode cX3_areJoined 2 = .ok (.iconst 1, 1) := by decide +kernel
theorem dX3_areJoined_3 : decode cX3_areJoined 3 = .ok (.iadd, 1) := by decide +kernel
theorem dX3_areJoined_4 : decode cX3_areJoined 4 = .ok (.bipush 6, 2) := by decide +kernel
theorem dX3_areJoined_6 : decode cX3_areJoined 6 = .ok (.invokestatic 50, 3) := by decide +kernel
theorem dX3_areJoined_9 : decode cX3_areJoined 9 = .ok (.if_icmp .ne 12, 3) := by decide +kernel
theorem dX3_areJoined_12 : decode cX3_areJoined 12 = .ok (.aload_n 0, 1) := by decide +kernel
theorem dX3_areJoined_13 : decode cX3_areJoined 13 = .ok (.iload_n 1, 1) := by decide +kernel
theorem dX3_areJoined_14 : decode cX3_areJoined 14 = .ok (.invokevirtual 64, 3) := by decide +kernel
theorem dX3_areJoined_17 : decode cX3_areJoined 17 = .ok (.getfield 92, 3) := by decide +kernel
theorem dX3_areJoined_20 : decode cX3_areJoined 20 = .ok (.ireturn, 1) := by decide +kernel
theorem dX3_areJoined_21 : decode cX3_areJoined 21 = .ok (.iload_n 1, 1) := by decide +kernel
theorem dX3_areJoined_22 : decode cX3_areJoined 22 = .ok (.iload_n 2, 1) := by decide +kernel
theorem dX3_areJoined_23 : decode cX3_areJoined 23 = .ok (.iconst 1, 1) := by decide +kernel
theorem dX3_areJoined_24 : decode cX3_areJoined 24 = .ok (.iadd, 1) := by decide +kernel
theorem dX3_areJoined_25 : decode cX3_areJoined 25 = .ok (.bipush 6, 2) := by decide +kernel
theorem dX3_areJoined_27 : decode cX3_areJoined 27 = .ok (.invokestatic 50, 3) := by decide +kernel
theorem dX3_areJoined_30 : decode cX3_areJoined 30 = .ok (.if_icmp .ne 12, 3) := by decide +kernel
theorem dX3_areJoined_33 : decode cX3_areJoined 33 = .ok (.aload_n 0, 1) := by decide +kernel
theorem dX3_areJoined_34 : decode cX3_areJoined 34 = .ok (.iload_n 2, 1) := by decide +kernel
theorem dX3_areJoined_35 : decode cX3_areJoined 35 = .ok (.invokevirtual 64, 3) := by decide +kernel
theorem dX3_areJoined_38 : decode cX3_areJoined 38 = .ok (.getfield 92, 3) := by decide +kernel
theorem dX3_areJoined_41 : decode cX3_areJoined 41 = .ok (.ireturn, 1) := by decide +kernel
theorem dX3_areJoined_42 : decode cX3_areJoined 42 = .ok (.iconst 0, 1) := by decide +kernel
theorem dX3_areJoined_43 : decode cX3_areJoined 43 = .ok (.ireturn, 1) := by decide +kernel
theorem dX3_kindle_0 : decode cX3_kindle 0 = .ok (.aload_n 0, 1) := by decide +kernel
theorem dX3_kindle_1 : decode cX3_kindle 1 = .ok (.iload_n 1, 1) := by decide +kernel
theorem dX3_kindle_2 : decode cX3_kindle 2 = .ok (.invokevirtual 64, 3) := by decide +kernel
theorem dX3_kindle_5 : decode cX3_kindle 5 = .ok (.astore_n 2, 1) := by decide +kernel
theorem dX3_kindle_6 : decode cX3_kindle 6 = .ok (.aload_n 2, 1) := by decide +kernel
theorem dX3_kindle_7 : decode cX3_kindle 7 = .ok (.iconst 1, 1) := by decide +kernel
theorem dX3_kindle_8 : decode cX3_kindle 8 = .ok (.putfield 56, 3) := by decide +kernel
theorem dX3_kindle_11 : decode cX3_kindle 11 = .ok (.aload_n 2, 1) := by decide +kernel
theorem dX3_kindle_12 : decode cX3_kindle 12 = .ok (.getfield 85, 3) := by decide +kernel
theorem dX3_kindle_15 : decode cX3_kindle 15 = .ok (.ireturn, 1) := by decide +kernel
theorem dX3_hasNewCandle_0 : decode cX3_hasNewCandle 0 = .ok (.aload_n 0, 1) := by decide +kernel
theorem dX3_hasNewCandle_1 : decode cX3_hasNewCandle 1 = .ok (.getfield 18, 3) := by decide +kernel
theorem dX3_hasNewCandle_4 : decode cX3_hasNewCandle 4 = .ok (.ifCond .le 7, 3) := by decide +kernel
theorem dX3_hasNewCandle_7 : decode cX3_hasNewCandle 7 = .ok (.iconst 1, 1) := by decide +kernel
theorem dX3_hasNewCandle_8 : decode cX3_hasNewCandle 8 = .ok (.goto 4, 3) := by decide +kernel
theorem dX3_hasNewCandle_11 : decode cX3_hasNewCandle 11 = .ok (.iconst 0, 1) := by decide +kernel
theorem dX3_hasNewCandle_12 : decode cX3_hasNewCandle 12 = .ok (.ireturn, 1) := by decide +kernel
theorem dX3_putNewCandle_0 : decode cX3_putNewCandle 0 = .ok (.aload_n 0, 1) := by decide +kernel
theorem dX3_putNewCandle_1 : decode cX3_putNewCandle 1 = .ok (.iload_n 1, 1) := by decide +kernel
theorem dX3_putNewCandle_2 : decode cX3_putNewCandle 2 = .ok (.invokevirtual 64, 3) := by decide +kernel
theorem dX3_putNewCandle_5 : decode cX3_putNewCandle 5 = .ok (.invokevirtual 105, 3) := by decide +kernel
theorem dX3_putNewCandle_8 : decode cX3_putNewCandle 8 = .ok (.aload_n 0, 1) := by decide +kernel
theorem dX3_putNewCandle_9 : decode cX3_putNewCandle 9 = .ok (.dup, 1) := by decide +kernel
theorem dX3_putNewCandle_10 : decode cX3_putNewCandle 10 = .ok (.getfield 18, 3) := by decide +kernel
theorem dX3_putNewCandle_13 : decode cX3_putNewCandle 13 = .ok (.iconst 1, 1) := by decide +kernel
theorem dX3_putNewCandle_14 : decode cX3_putNewCandle 14 = .ok (.isub, 1) := by decide +kernel
theorem dX3_putNewCandle_15 : decode cX3_putNewCandle 15 = .ok (.putfield 18, 3) := by decide +kernel
theorem dX3_putNewCandle_18 : decode cX3_putNewCandle 18 = .ok (.aload_n 0, 1) := by decide +kernel
theorem dX3_putNewCandle_19 : decode cX3_putNewCandle 19 = .ok (.getfield 18, 3) := by decide +kernel
theorem dX3_putNewCandle_22 : decode cX3_putNewCandle 22 = .ok (.ireturn, 1) := by decide +kernel
theorem dX3_canKeep_0 : decode cX3_canKeep 0 = .ok (.aload_n 0, 1) := by decide +kernel
theorem dX3_canKeep_1 : decode cX3_canKeep 1 = .ok (.iload_n 2, 1) := by decide +kernel
theorem dX3_canKeep_2 : decode cX3_canKeep 2 = .ok (.invokevirtual 75, 3) := by decide +kernel
theorem dX3_canKeep_5 : decode cX3_canKeep 5 = .ok (.iconst (-1), 1) := by decide +kernel
theorem dX3_canKeep_6 : decode cX3_canKeep 6 = .ok (.if_icmp .ne 19, 3) := by decide +kernel
theorem dX3_canKeep_9 : decode cX3_canKeep 9 = .ok (.aload_n 0, 1) := by decide +kernel
theorem dX3_canKeep_10 : decode cX3_canKeep 10 = .ok (.iload_n 1, 1) := by decide +kernel
theorem dX3_canKeep_11 : decode cX3_canKeep 11 = .ok (.invokevirtual 64, 3) := by decide +kernel
theorem dX3_canKeep_14 : decode cX3_canKeep 14 = .ok (.getfield 68, 3) := by decide +kernel
theorem dX3_canKeep_17 : decode cX3_canKeep 17 = .ok (.iconst 4, 1) := by decide +kernel
theorem dX3_canKeep_18 : decode cX3_canKeep 18 = .ok (.if_icmp .ge 7, 3) := by decide +kernel
theorem dX3_canKeep_21 : decode cX3_canKeep 21 = .ok (.iconst 1, 1) := by decide +kernel
theorem dX3_canKeep_22 : decode cX3_canKeep 22 = .ok (.goto 4, 3) := by decide +kernel
theorem dX3_canKeep_25 : decode cX3_canKeep 25 = .ok (.iconst 0, 1) := by decide +kernel
theorem dX3_canKeep_26 : decode cX3_canKeep 26 = .ok (.ireturn, 1) := by decide +kernel
theorem dX3_putThing_0 : decode cX3_putThing 0 = .ok (.aload_n 0, 1) := by decide +kernel
theorem dX3_putThing_1 : decode cX3_putThing 1 = .ok (.iload_n 1, 1) := by decide +kernel
theorem dX3_putThing_2 : decode cX3_putThing 2 = .ok (.invokevirtual 64, 3) := by decide +kernel
theorem dX3_putThing_5 : decode cX3_putThing 5 = .ok (.astore_n 3, 1) := by decide +kernel
theorem dX3_putThing_6 : decode cX3_putThing 6 = .ok (.aload_n 3, 1) := by decide +kernel
theorem dX3_putThing_7 : decode cX3_putThing 7 = .ok (.iload_n 2, 1) := by decide +kernel
theorem dX3_putThing_8 : decode cX3_putThing 8 = .ok (.invokevirtual 115, 3) := by decide +kernel
theorem dX3_putThing_11 : decode cX3_putThing 11 = .ok (.aload_n 3, 1) := by decide +kernel
theorem dX3_putThing_12 : decode cX3_putThing 12 = .ok (.getfield 68, 3) := by decide +kernel
theorem dX3_putThing_15 : decode cX3_putThing 15 = .ok (.ireturn, 1) := by decide +kernel
theorem dX3_beginDraught_0 : decode cX3_beginDraught 0 = .ok (.aload_n 0, 1) := by decide +kernel
theorem dX3_beginDraught_1 : decode cX3_beginDraught 1 = .ok (.iload_n 1, 1) := by decide +kernel
theorem dX3_beginDraught_2 : decode cX3_beginDraught 2 = .ok (.putfield 22, 3) := by decide +kernel
theorem dX3_beginDraught_5 : decode cX3_beginDraught 5 = .ok (.aload_n 0, 1) := by decide +kernel
theorem dX3_beginDraught_6 : decode cX3_beginDraught 6 = .ok (.iload_n 2, 1) := by decide +kernel
theorem dX3_beginDraught_7 : decode cX3_beginDraught 7 = .ok (.putfield 47, 3) := by decide +kernel
theorem dX3_beginDraught_10 : decode cX3_beginDraught 10 = .ok (.aload_n 0, 1) := by decide +kernel
theorem dX3_beginDraught_11 : decode cX3_beginDraught 11 = .ok (.iload_n 1, 1) := by decide +kernel
theorem dX3_beginDraught_12 : decode cX3_beginDraught 12 = .ok (.aload_n 0, 1) := by decide +kernel
theorem dX3_beginDraught_13 : decode cX3_beginDraught 13 = .ok (.invokevirtual 125, 3) := by decide +kernel
theorem dX3_beginDraught_16 : decode cX3_beginDraught 16 = .ok (.invokevirtual 128, 3) := by decide +kernel
theorem dX3_beginDraught_19 : decode cX3_beginDraught 19 = .ok (.ireturn, 1) := by decide +kernel
theorem dX3_roomsBlown_0 : decode cX3_roomsBlown 0 = .ok (.iconst 0, 1) := by decide +kernel
theorem dX3_roomsBlown_1 : decode cX3_roomsBlown 1 = .ok (.istore_n 1, 1) := by decide +kernel
theorem dX3_roomsBlown_2 : decode cX3_roomsBlown 2 = .ok (.iload_n 1, 1) := by decide +kernel
theorem dX3_roomsBlown_3 : decode cX3_roomsBlown 3 = .ok (.aload_n 0, 1) := by decide +kernel
theorem dX3_roomsBlown_4 : decode cX3_roomsBlown 4 = .ok (.getfield 47, 3) := by decide +kernel
theorem dX3_roomsBlown_7 : decode cX3_roomsBlown 7 = .ok (.if_icmp .ge 40, 3) := by decide +kernel
theorem dX3_roomsBlown_10 : decode cX3_roomsBlown 10 = .ok (.aload_n 0, 1) := by decide +kernel
theorem dX3_roomsBlown_11 : decode cX3_roomsBlown 11 = .ok (.aload_n 0, 1) := by decide +kernel
theorem dX3_roomsBlown_12 : decode cX3_roomsBlown 12 = .ok (.getfield 22, 3) := by decide +kernel
theorem dX3_roomsBlown_15 : decode cX3_roomsBlown 15 = .ok (.iload_n 1, 1) := by decide +kernel
theorem dX3_roomsBlown_16 : decode cX3_roomsBlown 16 = .ok (.iadd, 1) := by decide +kernel
theorem dX3_roomsBlown_17 : decode cX3_roomsBlown 17 = .ok (.invokevirtual 64, 3) := by decide +kernel
theorem dX3_roomsBlown_20 : decode cX3_roomsBlown 20 = .ok (.astore_n 2, 1) := by decide +kernel
theorem dX3_roomsBlown_21 : decode cX3_roomsBlown 21 = .ok (.aload_n 2, 1) := by decide +kernel
theorem dX3_roomsBlown_22 : decode cX3_roomsBlown 22 = .ok (.getfield 131, 3) := by decide +kernel
theorem dX3_roomsBlown_25 : decode cX3_roomsBlown 25 = .ok (.ifCond .eq 5, 3) := by decide +kernel
theorem dX3_roomsBlown_28 : decode cX3_roomsBlown 28 = .ok (.iload_n 1, 1) := by decide +kernel
theorem dX3_roomsBlown_29 : decode cX3_roomsBlown 29 = .ok (.ireturn, 1) := by decide +kernel
theorem dX3_roomsBlown_30 : decode cX3_roomsBlown 30 = .ok (.aload_n 2, 1) := by decide +kernel
theorem dX3_roomsBlown_31 : decode cX3_roomsBlown 31 = .ok (.getfield 92, 3) := by decide +kernel
theorem dX3_roomsBlown_34 : decode cX3_roomsBlown 34 = .ok (.ifCond .ne 7, 3) := by decide +kernel
theorem dX3_roomsBlown_37 : decode cX3_roomsBlown 37 = .ok (.iload_n 1, 1) := by decide +kernel
theorem dX3_roomsBlown_38 : decode cX3_roomsBlown 38 = .ok (.iconst 1, 1) := by decide +kernel
theorem dX3_roomsBlown_39 : decode cX3_roomsBlown 39 = .ok (.iadd, 1) := by decide +kernel
theorem dX3_roomsBlown_40 : decode cX3_roomsBlown 40 = .ok (.ireturn, 1) := by decide +kernel
theorem dX3_roomsBlown_41 : decode cX3_roomsBlown 41 = .ok (.iinc 1 1, 3) := by decide +kernel
theorem dX3_roomsBlown_44 : decode cX3_roomsBlown 44 = .ok (.goto (-42), 3) := by decide +kernel
theorem dX3_roomsBlown_47 : decode cX3_roomsBlown 47 = .ok (.aload_n 0, 1) := by decide +kernel
theorem dX3_roomsBlown_48 : decode cX3_roomsBlown 48 = .ok (.getfield 47, 3) := by decide +kernel
theorem dX3_roomsBlown_51 : decode cX3_roomsBlown 51 = .ok (.ireturn, 1) := by decide +kernel
theorem dX3_isInDraught_0 : decode cX3_isInDraught 0 = .ok (.iload_n 1, 1) := by decide +kernel
theorem dX3_isInDraught_1 : decode cX3_isInDraught 1 = .ok (.aload_n 0, 1) := by decide +kernel
theorem dX3_isInDraught_2 : decode cX3_isInDraught 2 = .ok (.getfield 22, 3) := by decide +kernel
theorem dX3_isInDraught_5 : decode cX3_isInDraught 5 = .ok (.isub, 1) := by decide +kernel
theorem dX3_isInDraught_6 : decode cX3_isInDraught 6 = .ok (.bipush 6, 2) := by decide +kernel
theorem dX3_isInDraught_8 : decode cX3_isInDraught 8 = .ok (.invokestatic 50, 3) := by decide +kernel
theorem dX3_isInDraught_11 : decode cX3_isInDraught 11 = .ok (.aload_n 0, 1) := by decide +kernel
theorem dX3_isInDraught_12 : decode cX3_isInDraught 12 = .ok (.invokevirtual 125, 3) := by decide +kernel
theorem dX3_isInDraught_15 : decode cX3_isInDraught 15 = .ok (.if_icmp .ge 7, 3) := by decide +kernel
theorem dX3_isInDraught_18 : decode cX3_isInDraught 18 = .ok (.iconst 1, 1) := by decide +kernel
theorem dX3_isInDraught_19 : decode cX3_isInDraught 19 = .ok (.goto 4, 3) := by decide +kernel
theorem dX3_isInDraught_22 : decode cX3_isInDraught 22 = .ok (.iconst 0, 1) := by decide +kernel
theorem dX3_isInDraught_23 : decode cX3_isInDraught 23 = .ok (.ireturn, 1) := by decide +kernel
theorem dX3_blow_0 : decode cX3_blow 0 = .ok (.aload_n 0, 1) := by decide +kernel
theorem dX3_blow_1 : decode cX3_blow 1 = .ok (.invokevirtual 125, 3) := by decide +kernel
theorem dX3_blow_4 : decode cX3_blow 4 = .ok (.istore_n 1, 1) := by decide +kernel
theorem dX3_blow_5 : decode cX3_blow 5 = .ok (.aload_n 0, 1) := by decide +kernel
theorem dX3_blow_6 : decode cX3_blow 6 = .ok (.dup, 1) := by decide +kernel
theorem dX3_blow_7 : decode cX3_blow 7 = .ok (.getfield 44, 3) := by decide +kernel
theorem dX3_blow_10 : decode cX3_blow 10 = .ok (.aload_n 0, 1) := by decide +kernel
theorem dX3_blow_11 : decode cX3_blow 11 = .ok (.aload_n 0, 1) := by decide +kernel
theorem dX3_blow_12 : decode cX3_blow 12 = .ok (.getfield 22, 3) := by decide +kernel
theorem dX3_blow_15 : decode cX3_blow 15 = .ok (.iload_n 1, 1) := by decide +kernel
theorem dX3_blow_16 : decode cX3_blow 16 = .ok (.invokevirtual 128, 3) := by decide +kernel
theorem dX3_blow_19 : decode cX3_blow 19 = .ok (.iadd, 1) := by decide +kernel
theorem dX3_blow_20 : decode cX3_blow 20 = .ok (.putfield 44, 3) := by decide +kernel
theorem dX3_blow_23 : decode cX3_blow 23 = .ok (.iconst 0, 1) := by decide +kernel
theorem dX3_blow_24 : decode cX3_blow 24 = .ok (.istore_n 2, 1) := by decide +kernel
theorem dX3_blow_25 : decode cX3_blow 25 = .ok (.iload_n 2, 1) := by decide +kernel
theorem dX3_blow_26 : decode cX3_blow 26 = .ok (.iload_n 1, 1) := by decide +kernel
theorem dX3_blow_27 : decode cX3_blow 27 = .ok (.if_icmp .ge 23, 3) := by decide +kernel
theorem dX3_blow_30 : decode cX3_blow 30 = .ok (.aload_n 0, 1) := by decide +kernel
theorem dX3_blow_31 : decode cX3_blow 31 = .ok (.aload_n 0, 1) := by decide +kernel
theorem dX3_blow_32 : decode cX3_blow 32 = .ok (.getfield 22, 3) := by decide +kernel
theorem dX3_blow_35 : decode cX3_blow 35 = .ok (.iload_n 2, 1) := by decide +kernel
theorem dX3_blow_36 : decode cX3_blow 36 = .ok (.iadd, 1) := by decide +kernel
theorem dX3_blow_37 : decode cX3_blow 37 = .ok (.invokevirtual 64, 3) := by decide +kernel
theorem dX3_blow_40 : decode cX3_blow 40 = .ok (.iconst 0, 1) := by decide +kernel
theorem dX3_blow_41 : decode cX3_blow 41 = .ok (.putfield 56, 3) := by decide +kernel
theorem dX3_blow_44 : decode cX3_blow 44 = .ok (.iinc 2 1, 3) := by decide +kernel
theorem dX3_blow_47 : decode cX3_blow 47 = .ok (.goto (-22), 3) := by decide +kernel
theorem dX3_blow_50 : decode cX3_blow 50 = .ok (.aload_n 0, 1) := by decide +kernel
theorem dX3_blow_51 : decode cX3_blow 51 = .ok (.iconst (-1), 1) := by decide +kernel
theorem dX3_blow_52 : decode cX3_blow 52 = .ok (.putfield 22, 3) := by decide +kernel
theorem dX3_blow_55 : decode cX3_blow 55 = .ok (.aload_n 0, 1) := by decide +kernel
theorem dX3_blow_56 : decode cX3_blow 56 = .ok (.iconst 0, 1) := by decide +kernel
theorem dX3_blow_57 : decode cX3_blow 57 = .ok (.putfield 47, 3) := by decide +kernel
theorem dX3_blow_60 : decode cX3_blow 60 = .ok (.return_, 1) := by decide +kernel
theorem dX3_passBeats_0 : decode cX3_passBeats 0 = .ok (.iconst 0, 1) := by decide +kernel
theorem dX3_passBeats_1 : decode cX3_passBeats 1 = .ok (.istore_n 2, 1) := by decide +kernel
theorem dX3_passBeats_2 : decode cX3_passBeats 2 = .ok (.iconst 0, 1) := by decide +kernel
theorem dX3_passBeats_3 : decode cX3_passBeats 3 = .ok (.istore_n 3, 1) := by decide +kernel
theorem dX3_passBeats_4 : decode cX3_passBeats 4 = .ok (.iload_n 3, 1) := by decide +kernel
theorem dX3_passBeats_5 : decode cX3_passBeats 5 = .ok (.iload_n 1, 1) := by decide +kernel
theorem dX3_passBeats_6 : decode cX3_passBeats 6 = .ok (.if_icmp .ge 16, 3) := by decide +kernel
theorem dX3_passBeats_9 : decode cX3_passBeats 9 = .ok (.iload_n 2, 1) := by decide +kernel
theorem dX3_passBeats_10 : decode cX3_passBeats 10 = .ok (.aload_n 0, 1) := by decide +kernel
theorem dX3_passBeats_11 : decode cX3_passBeats 11 = .ok (.invokevirtual 134, 3) := by decide +kernel
theorem dX3_passBeats_14 : decode cX3_passBeats 14 = .ok (.iadd, 1) := by decide +kernel
theorem dX3_passBeats_15 : decode cX3_passBeats 15 = .ok (.istore_n 2, 1) := by decide +kernel
theorem dX3_passBeats_16 : decode cX3_passBeats 16 = .ok (.iinc 3 1, 3) := by decide +kernel
theorem dX3_passBeats_19 : decode cX3_passBeats 19 = .ok (.goto (-15), 3) := by decide +kernel
theorem dX3_passBeats_22 : decode cX3_passBeats 22 = .ok (.iload_n 2, 1) := by decide +kernel
theorem dX3_passBeats_23 : decode cX3_passBeats 23 = .ok (.ireturn, 1) := by decide +kernel
theorem dX3_passBeat_0 : decode cX3_passBeat 0 = .ok (.iconst 0, 1) := by decide +kernel
theorem dX3_passBeat_1 : decode cX3_passBeat 1 = .ok (.istore_n 1, 1) := by decide +kernel
theorem dX3_passBeat_2 : decode cX3_passBeat 2 = .ok (.iload_n 1, 1) := by decide +kernel
theorem dX3_passBeat_3 : decode cX3_passBeat 3 = .ok (.bipush 6, 2) := by decide +kernel
theorem dX3_passBeat_5 : decode cX3_passBeat 5 = .ok (.if_icmp .ge 18, 3) := by decide +kernel
theorem dX3_passBeat_8 : decode cX3_passBeat 8 = .ok (.aload_n 0, 1) := by decide +kernel
theorem dX3_passBeat_9 : decode cX3_passBeat 9 = .ok (.getfield 11, 3) := by decide +kernel
theorem dX3_passBeat_12 : decode cX3_passBeat 12 = .ok (.iload_n 1, 1) := by decide +kernel
theorem dX3_passBeat_13 : decode cX3_passBeat 13 = .ok (.aaload, 1) := by decide +kernel
theorem dX3_passBeat_14 : decode cX3_passBeat 14 = .ok (.invokevirtual 137, 3) := by decide +kernel
theorem dX3_passBeat_17 : decode cX3_passBeat 17 = .ok (.iinc 1 1, 3) := by decide +kernel
theorem dX3_passBeat_20 : decode cX3_passBeat 20 = .ok (.goto (-18), 3) := by decide +kernel
theorem dX3_passBeat_23 : decode cX3_passBeat 23 = .ok (.aload_n 0, 1) := by decide +kernel
theorem dX3_passBeat_24 : decode cX3_passBeat 24 = .ok (.invokevirtual 140, 3) := by decide +kernel
theorem dX3_passBeat_27 : decode cX3_passBeat 27 = .ok (.iconst 0, 1) := by decide +kernel
theorem dX3_passBeat_28 : decode cX3_passBeat 28 = .ok (.istore_n 1, 1) := by decide +kernel
theorem dX3_passBeat_29 : decode cX3_passBeat 29 = .ok (.iconst 0, 1) := by decide +kernel
theorem dX3_passBeat_30 : decode cX3_passBeat 30 = .ok (.istore_n 2, 1) := by decide +kernel
theorem dX3_passBeat_31 : decode cX3_passBeat 31 = .ok (.iload_n 2, 1) := by decide +kernel
theorem dX3_passBeat_32 : decode cX3_passBeat 32 = .ok (.bipush 6, 2) := by decide +kernel
theorem dX3_passBeat_34 : decode cX3_passBeat 34 = .ok (.if_icmp .ge 25, 3) := by decide +kernel
theorem dX3_passBeat_37 : decode cX3_passBeat 37 = .ok (.iload_n 1, 1) := by decide +kernel
theorem dX3_passBeat_38 : decode cX3_passBeat 38 = .ok (.aload_n 0, 1) := by decide +kernel
theorem dX3_passBeat_39 : decode cX3_passBeat 39 = .ok (.getfield 11, 3) := by decide +kernel
theorem dX3_passBeat_42 : decode cX3_passBeat 42 = .ok (.iload_n 2, 1) := by decide +kernel
theorem dX3_passBeat_43 : decode cX3_passBeat 43 = .ok (.aaload, 1) := by decide +kernel
theorem dX3_passBeat_44 : decode cX3_passBeat 44 = .ok (.aload_n 0, 1) := by decide +kernel
theorem dX3_passBeat_45 : decode cX3_passBeat 45 = .ok (.getfield 25, 3) := by decide +kernel
theorem dX3_passBeat_48 : decode cX3_passBeat 48 = .ok (.invokevirtual 143, 3) := by decide +kernel
theorem dX3_passBeat_51 : decode cX3_passBeat 51 = .ok (.iadd, 1) := by decide +kernel
theorem dX3_passBeat_52 : decode cX3_passBeat 52 = .ok (.istore_n 1, 1) := by decide +kernel
theorem dX3_passBeat_53 : decode cX3_passBeat 53 = .ok (.iinc 2 1, 3) := by decide +kernel
theorem dX3_passBeat_56 : decode cX3_passBeat 56 = .ok (.goto (-25), 3) := by decide +kernel
theorem dX3_passBeat_59 : decode cX3_passBeat 59 = .ok (.aload_n 0, 1) := by decide +kernel
theorem dX3_passBeat_60 : decode cX3_passBeat 60 = .ok (.dup, 1) := by decide +kernel
theorem dX3_passBeat_61 : decode cX3_passBeat 61 = .ok (.getfield 35, 3) := by decide +kernel
theorem dX3_passBeat_64 : decode cX3_passBeat 64 = .ok (.iload_n 1, 1) := by decide +kernel
theorem dX3_passBeat_65 : decode cX3_passBeat 65 = .ok (.iadd, 1) := by decide +kernel
theorem dX3_passBeat_66 : decode cX3_passBeat 66 = .ok (.putfield 35, 3) := by decide +kernel
theorem dX3_passBeat_69 : decode cX3_passBeat 69 = .ok (.aload_n 0, 1) := by decide +kernel
theorem dX3_passBeat_70 : decode cX3_passBeat 70 = .ok (.dup, 1) := by decide +kernel
theorem dX3_passBeat_71 : decode cX3_passBeat 71 = .ok (.getfield 32, 3) := by decide +kernel
theorem dX3_passBeat_74 : decode cX3_passBeat 74 = .ok (.iconst 1, 1) := by decide +kernel
theorem dX3_passBeat_75 : decode cX3_passBeat 75 = .ok (.iadd, 1) := by decide +kernel
theorem dX3_passBeat_76 : decode cX3_passBeat 76 = .ok (.putfield 32, 3) := by decide +kernel
theorem dX3_passBeat_79 : decode cX3_passBeat 79 = .ok (.iload_n 1, 1) := by decide +kernel
theorem dX3_passBeat_80 : decode cX3_passBeat 80 = .ok (.ireturn, 1) := by decide +kernel
theorem dX3_readThing_0 : decode cX3_readThing 0 = .ok (.aload_n 0, 1) := by decide +kernel
theorem dX3_readThing_1 : decode cX3_readThing 1 = .ok (.iload_n 1, 1) := by decide +kernel
theorem dX3_readThing_2 : decode cX3_readThing 2 = .ok (.invokevirtual 75, 3) := by decide +kernel
theorem dX3_readThing_5 : decode cX3_readThing 5 = .ok (.istore_n 2, 1) := by decide +kernel
theorem dX3_readThing_6 : decode cX3_readThing 6 = .ok (.iload_n 2, 1) := by decide +kernel
theorem dX3_readThing_7 : decode cX3_readThing 7 = .ok (.iconst (-1), 1) := by decide +kernel
theorem dX3_readThing_8 : decode cX3_readThing 8 = .ok (.if_icmp .ne 5, 3) := by decide +kernel
theorem dX3_readThing_11 : decode cX3_readThing 11 = .ok (.iconst (-1), 1) := by decide +kernel
theorem dX3_readThing_12 : decode cX3_readThing 12 = .ok (.ireturn, 1) := by decide +kernel
theorem dX3_readThing_13 : decode cX3_readThing 13 = .ok (.aload_n 0, 1) := by decide +kernel
theorem dX3_readThing_14 : decode cX3_readThing 14 = .ok (.iload_n 2, 1) := by decide +kernel
theorem dX3_readThing_15 : decode cX3_readThing 15 = .ok (.invokevirtual 64, 3) := by decide +kernel
theorem dX3_readThing_18 : decode cX3_readThing 18 = .ok (.astore_n 3, 1) := by decide +kernel
theorem dX3_readThing_19 : decode cX3_readThing 19 = .ok (.aload_n 0, 1) := by decide +kernel
theorem dX3_readThing_20 : decode cX3_readThing 20 = .ok (.dup, 1) := by decide +kernel
theorem dX3_readThing_21 : decode cX3_readThing 21 = .ok (.getfield 38, 3) := by decide +kernel
theorem dX3_readThing_24 : decode cX3_readThing 24 = .ok (.iconst 1, 1) := by decide +kernel
theorem dX3_readThing_25 : decode cX3_readThing 25 = .ok (.iadd, 1) := by decide +kernel
theorem dX3_readThing_26 : decode cX3_readThing 26 = .ok (.putfield 38, 3) := by decide +kernel
theorem dX3_readThing_29 : decode cX3_readThing 29 = .ok (.aload_n 3, 1) := by decide +kernel
theorem dX3_readThing_30 : decode cX3_readThing 30 = .ok (.getfield 56, 3) := by decide +kernel
theorem dX3_readThing_33 : decode cX3_readThing 33 = .ok (.ifCond .eq 17, 3) := by decide +kernel
theorem dX3_readThing_36 : decode cX3_readThing 36 = .ok (.aload_n 3, 1) := by decide +kernel
theorem dX3_readThing_37 : decode cX3_readThing 37 = .ok (.iconst 0, 1) := by decide +kernel
theorem dX3_readThing_38 : decode cX3_readThing 38 = .ok (.putfield 146, 3) := by decide +kernel
theorem dX3_readThing_41 : decode cX3_readThing 41 = .ok (.aload_n 0, 1) := by decide +kernel
theorem dX3_readThing_42 : decode cX3_readThing 42 = .ok (.iconst 1, 1) := by decide +kernel
theorem dX3_readThing_43 : decode cX3_readThing 43 = .ok (.invokevirtual 149, 3) := by decide +kernel
theorem dX3_readThing_46 : decode cX3_readThing 46 = .ok (.pop, 1) := by decide +kernel
theorem dX3_readThing_47 : decode cX3_readThing 47 = .ok (.goto 19, 3) := by decide +kernel
theorem dX3_readThing_50 : decode cX3_readThing 50 = .ok (.aload_n 0, 1) := by decide +kernel
theorem dX3_readThing_51 : decode cX3_readThing 51 = .ok (.dup, 1) := by decide +kernel
theorem dX3_readThing_52 : decode cX3_readThing 52 = .ok (.getfield 41, 3) := by decide +kernel
theorem dX3_readThing_55 : decode cX3_readThing 55 = .ok (.iconst 1, 1) := by decide +kernel
theorem dX3_readThing_56 : decode cX3_readThing 56 = .ok (.iadd, 1) := by decide +kernel
theorem dX3_readThing_57 : decode cX3_readThing 57 = .ok (.putfield 41, 3) := by decide +kernel
theorem dX3_readThing_60 : decode cX3_readThing 60 = .ok (.aload_n 0, 1) := by decide +kernel
theorem dX3_readThing_61 : decode cX3_readThing 61 = .ok (.iconst 3, 1) := by decide +kernel
theorem dX3_readThing_62 : decode cX3_readThing 62 = .ok (.invokevirtual 149, 3) := by decide +kernel
theorem dX3_readThing_65 : decode cX3_readThing 65 = .ok (.pop, 1) := by decide +kernel
theorem dX3_readThing_66 : decode cX3_readThing 66 = .ok (.iload_n 2, 1) := by decide +kernel
theorem dX3_readThing_67 : decode cX3_readThing 67 = .ok (.ireturn, 1) := by decide +kernel
theorem dX3_beatsLit_0 : decode cX3_beatsLit 0 = .ok (.aload_n 0, 1) := by decide +kernel
theorem dX3_beatsLit_1 : decode cX3_beatsLit 1 = .ok (.iload_n 1, 1) := by decide +kernel
theorem dX3_beatsLit_2 : decode cX3_beatsLit 2 = .ok (.invokevirtual 64, 3) := by decide +kernel
theorem dX3_beatsLit_5 : decode cX3_beatsLit 5 = .ok (.astore_n 2, 1) := by decide +kernel
theorem dX3_beatsLit_6 : decode cX3_beatsLit 6 = .ok (.aload_n 2, 1) := by decide +kernel
theorem dX3_beatsLit_7 : decode cX3_beatsLit 7 = .ok (.getfield 56, 3) := by decide +kernel
theorem dX3_beatsLit_10 : decode cX3_beatsLit 10 = .ok (.ifCond .ne 5, 3) := by decide +kernel
theorem dX3_beatsLit_13 : decode cX3_beatsLit 13 = .ok (.iconst 0, 1) := by decide +kernel
theorem dX3_beatsLit_14 : decode cX3_beatsLit 14 = .ok (.ireturn, 1) := by decide +kernel
theorem dX3_beatsLit_15 : decode cX3_beatsLit 15 = .ok (.aload_n 0, 1) := by decide +kernel
theorem dX3_beatsLit_16 : decode cX3_beatsLit 16 = .ok (.iload_n 1, 1) := by decide +kernel
theorem dX3_beatsLit_17 : decode cX3_beatsLit 17 = .ok (.invokevirtual 152, 3) := by decide +kernel
theorem dX3_beatsLit_20 : decode cX3_beatsLit 20 = .ok (.ifCond .eq 7, 3) := by decide +kernel
theorem dX3_beatsLit_23 : decode cX3_beatsLit 23 = .ok (.iconst 1, 1) := by decide +kernel
theorem dX3_beatsLit_24 : decode cX3_beatsLit 24 = .ok (.goto 7, 3) := by decide +kernel
theorem dX3_beatsLit_27 : decode cX3_beatsLit 27 = .ok (.aload_n 2, 1) := by decide +kernel
theorem dX3_beatsLit_28 : decode cX3_beatsLit 28 = .ok (.invokevirtual 155, 3) := by decide +kernel
theorem dX3_beatsLit_31 : decode cX3_beatsLit 31 = .ok (.ireturn, 1) := by decide +kernel
theorem dX3_beatsToForgetting_0 : decode cX3_beatsToForgetting 0 = .ok (.iconst (-1), 1) := by decide +kernel
theorem dX3_beatsToForgetting_1 : decode cX3_beatsToForgetting 1 = .ok (.istore_n 1, 1) := by decide +kernel
theorem dX3_beatsToForgetting_2 : decode cX3_beatsToForgetting 2 = .ok (.iconst 0, 1) := by decide +kernel
theorem dX3_beatsToForgetting_3 : decode cX3_beatsToForgetting 3 = .ok (.istore_n 2, 1) := by decide +kernel
theorem dX3_beatsToForgetting_4 : decode cX3_beatsToForgetting 4 = .ok (.iload_n 2, 1) := by decide +kernel
theorem dX3_beatsToForgetting_5 : decode cX3_beatsToForgetting 5 = .ok (.bipush 6, 2) := by decide +kernel
theorem dX3_beatsToForgetting_7 : decode cX3_beatsToForgetting 7 = .ok (.if_icmp .ge 55, 3) := by decide +kernel
theorem dX3_beatsToForgetting_10 : decode cX3_beatsToForgetting 10 = .ok (.aload_n 0, 1) := by decide +kernel
theorem dX3_beatsToForgetting_11 : decode cX3_beatsToForgetting 11 = .ok (.getfield 11, 3) := by decide +kernel
theorem dX3_beatsToForgetting_14 : decode cX3_beatsToForgetting 14 = .ok (.iload_n 2, 1) := by decide +kernel
theorem dX3_beatsToForgetting_15 : decode cX3_beatsToForgetting 15 = .ok (.aaload, 1) := by decide +kernel
theorem dX3_beatsToForgetting_16 : decode cX3_beatsToForgetting 16 = .ok (.getfield 68, 3) := by decide +kernel
theorem dX3_beatsToForgetting_19 : decode cX3_beatsToForgetting 19 = .ok (.ifCond .le 37, 3) := by decide +kernel
theorem dX3_beatsToForgetting_22 : decode cX3_beatsToForgetting 22 = .ok (.aload_n 0, 1) := by decide +kernel
theorem dX3_beatsToForgetting_23 : decode cX3_beatsToForgetting 23 = .ok (.getfield 11, 3) := by decide +kernel
theorem dX3_beatsToForgetting_26 : decode cX3_beatsToForgetting 26 = .ok (.iload_n 2, 1) := by decide +kernel
theorem dX3_beatsToForgetting_27 : decode cX3_beatsToForgetting 27 = .ok (.aaload, 1) := by decide +kernel
theorem dX3_beatsToForgetting_28 : decode cX3_beatsToForgetting 28 = .ok (.aload_n 0, 1) := by decide +kernel
theorem dX3_beatsToForgetting_29 : decode cX3_beatsToForgetting 29 = .ok (.iload_n 2, 1) := by decide +kernel
theorem dX3_beatsToForgetting_30 : decode cX3_beatsToForgetting 30 = .ok (.invokevirtual 158, 3) := by decide +kernel
theorem dX3_beatsToForgetting_33 : decode cX3_beatsToForgetting 33 = .ok (.aload_n 0, 1) := by decide +kernel
theorem dX3_beatsToForgetting_34 : decode cX3_beatsToForgetting 34 = .ok (.getfield 25, 3) := by decide +kernel
theorem dX3_beatsToForgetting_37 : decode cX3_beatsToForgetting 37 = .ok (.invokevirtual 161, 3) := by decide +kernel
theorem dX3_beatsToForgetting_40 : decode cX3_beatsToForgetting 40 = .ok (.istore_n 3, 1) := by decide +kernel
theorem dX3_beatsToForgetting_41 : decode cX3_beatsToForgetting 41 = .ok (.iload_n 1, 1) := by decide +kernel
theorem dX3_beatsToForgetting_42 : decode cX3_beatsToForgetting 42 = .ok (.iconst (-1), 1) := by decide +kernel
theorem dX3_beatsToForgetting_43 : decode cX3_beatsToForgetting 43 = .ok (.if_icmp .ne 7, 3) := by decide +kernel
theorem dX3_beatsToForgetting_46 : decode cX3_beatsToForgetting 46 = .ok (.iload_n 3, 1) := by decide +kernel
theorem dX3_beatsToForgetting_47 : decode cX3_beatsToForgetting 47 = .ok (.goto 8, 3) := by decide +kernel
theorem dX3_beatsToForgetting_50 : decode cX3_beatsToForgetting 50 = .ok (.iload_n 1, 1) := by decide +kernel
theorem dX3_beatsToForgetting_51 : decode cX3_beatsToForgetting 51 = .ok (.iload_n 3, 1) := by decide +kernel
theorem dX3_beatsToForgetting_52 : decode cX3_beatsToForgetting 52 = .ok (.invokestatic 164, 3) := by decide +kernel
theorem dX3_beatsToForgetting_55 : decode cX3_beatsToForgetting 55 = .ok (.istore_n 1, 1) := by decide +kernel
theorem dX3_beatsToForgetting_56 : decode cX3_beatsToForgetting 56 = .ok (.iinc 2 1, 3) := by decide +kernel
theorem dX3_beatsToForgetting_59 : decode cX3_beatsToForgetting 59 = .ok (.goto (-55), 3) := by decide +kernel
theorem dX3_beatsToForgetting_62 : decode cX3_beatsToForgetting 62 = .ok (.iload_n 1, 1) := by decide +kernel
theorem dX3_beatsToForgetting_63 : decode cX3_beatsToForgetting 63 = .ok (.ireturn, 1) := by decide +kernel
theorem dX3_candlesToLight_0 : decode cX3_candlesToLight 0 = .ok (.aload_n 0, 1) := by decide +kernel
theorem dX3_candlesToLight_1 : decode cX3_candlesToLight 1 = .ok (.invokevirtual 81, 3) := by decide +kernel
theorem dX3_candlesToLight_4 : decode cX3_candlesToLight 4 = .ok (.ifCond .ne 20, 3) := by decide +kernel
theorem dX3_candlesToLight_7 : decode cX3_candlesToLight 7 = .ok (.aload_n 0, 1) := by decide +kernel
theorem dX3_candlesToLight_8 : decode cX3_candlesToLight 8 = .ok (.iload_n 1, 1) := by decide +kernel
theorem dX3_candlesToLight_9 : decode cX3_candlesToLight 9 = .ok (.invokevirtual 64, 3) := by decide +kernel
theorem dX3_candlesToLight_12 : decode cX3_candlesToLight 12 = .ok (.getfield 85, 3) := by decide +kernel
theorem dX3_candlesToLight_15 : decode cX3_candlesToLight 15 = .ok (.ifCond .le 7, 3) := by decide +kernel
theorem dX3_candlesToLight_18 : decode cX3_candlesToLight 18 = .ok (.iconst 1, 1) := by decide +kernel
theorem dX3_candlesToLight_19 : decode cX3_candlesToLight 19 = .ok (.goto 4, 3) := by decide +kernel
theorem dX3_candlesToLight_22 : decode cX3_candlesToLight 22 = .ok (.iconst (-1), 1) := by decide +kernel
theorem dX3_candlesToLight_23 : decode cX3_candlesToLight 23 = .ok (.ireturn, 1) := by decide +kernel
theorem dX3_candlesToLight_24 : decode cX3_candlesToLight 24 = .ok (.aload_n 0, 1) := by decide +kernel
theorem dX3_candlesToLight_25 : decode cX3_candlesToLight 25 = .ok (.iload_n 1, 1) := by decide +kernel
theorem dX3_candlesToLight_26 : decode cX3_candlesToLight 26 = .ok (.iconst (-1), 1) := by decide +kernel
theorem dX3_candlesToLight_27 : decode cX3_candlesToLight 27 = .ok (.invokevirtual 167, 3) := by decide +kernel
theorem dX3_candlesToLight_30 : decode cX3_candlesToLight 30 = .ok (.istore_n 2, 1) := by decide +kernel
theorem dX3_candlesToLight_31 : decode cX3_candlesToLight 31 = .ok (.aload_n 0, 1) := by decide +kernel
theorem dX3_candlesToLight_32 : decode cX3_candlesToLight 32 = .ok (.iload_n 1, 1) := by decide +kernel
theorem dX3_candlesToLight_33 : decode cX3_candlesToLight 33 = .ok (.iconst 1, 1) := by decide +kernel
theorem dX3_candlesToLight_34 : decode cX3_candlesToLight 34 = .ok (.invokevirtual 167, 3) := by decide +kernel
theorem dX3_candlesToLight_37 : decode cX3_candlesToLight 37 = .ok (.istore_n 3, 1) := by decide +kernel
theorem dX3_candlesToLight_38 : decode cX3_candlesToLight 38 = .ok (.iload_n 2, 1) := by decide +kernel
theorem dX3_candlesToLight_39 : decode cX3_candlesToLight 39 = .ok (.iconst (-1), 1) := by decide +kernel
theorem dX3_candlesToLight_40 : decode cX3_candlesToLight 40 = .ok (.if_icmp .ne 5, 3) := by decide +kernel
theorem dX3_candlesToLight_43 : decode cX3_candlesToLight 43 = .ok (.iload_n 3, 1) := by decide +kernel
theorem dX3_candlesToLight_44 : decode cX3_candlesToLight 44 = .ok (.ireturn, 1) := by decide +kernel
theorem dX3_candlesToLight_45 : decode cX3_candlesToLight 45 = .ok (.iload_n 3, 1) := by decide +kernel
theorem dX3_candlesToLight_46 : decode cX3_candlesToLight 46 = .ok (.iconst (-1), 1) := by decide +kernel
theorem dX3_candlesToLight_47 : decode cX3_candlesToLight 47 = .ok (.if_icmp .ne 7, 3) := by decide +kernel
theorem dX3_candlesToLight_50 : decode cX3_candlesToLight 50 = .ok (.iload_n 2, 1) := by decide +kernel
theorem dX3_candlesToLight_51 : decode cX3_candlesToLight 51 = .ok (.goto 8, 3) := by decide +kernel
theorem dX3_candlesToLight_54 : decode cX3_candlesToLight 54 = .ok (.iload_n 2, 1) := by decide +kernel
theorem dX3_candlesToLight_55 : decode cX3_candlesToLight 55 = .ok (.iload_n 3, 1) := by decide +kernel
theorem dX3_candlesToLight_56 : decode cX3_candlesToLight 56 = .ok (.invokestatic 164, 3) := by decide +kernel
theorem dX3_candlesToLight_59 : decode cX3_candlesToLight 59 = .ok (.ireturn, 1) := by decide +kernel
theorem dX3_candlesOnWay_0 : decode cX3_candlesOnWay 0 = .ok (.iconst 0, 1) := by decide +kernel
theorem dX3_candlesOnWay_1 : decode cX3_candlesOnWay 1 = .ok (.istore_n 3, 1) := by decide +kernel
theorem dX3_candlesOnWay_2 : decode cX3_candlesOnWay 2 = .ok (.iload_n 3, 1) := by decide +kernel
theorem dX3_candlesOnWay_3 : decode cX3_candlesOnWay 3 = .ok (.bipush 6, 2) := by decide +kernel
theorem dX3_candlesOnWay_5 : decode cX3_candlesOnWay 5 = .ok (.if_icmp .ge 71, 3) := by decide +kernel
theorem dX3_candlesOnWay_8 : decode cX3_candlesOnWay 8 = .ok (.iload_n 1, 1) := by decide +kernel
theorem dX3_candlesOnWay_9 : decode cX3_candlesOnWay 9 = .ok (.iload_n 3, 1) := by decide +kernel
theorem dX3_candlesOnWay_10 : decode cX3_candlesOnWay 10 = .ok (.iload_n 2, 1) := by decide +kernel
theorem dX3_candlesOnWay_11 : decode cX3_candlesOnWay 11 = .ok (.imul, 1) := by decide +kernel
theorem dX3_candlesOnWay_12 : decode cX3_candlesOnWay 12 = .ok (.iadd, 1) := by decide +kernel
theorem dX3_candlesOnWay_13 : decode cX3_candlesOnWay 13 = .ok (.bipush 6, 2) := by decide +kernel
theorem dX3_candlesOnWay_15 : decode cX3_candlesOnWay 15 = .ok (.invokestatic 50, 3) := by decide +kernel
theorem dX3_candlesOnWay_18 : decode cX3_candlesOnWay 18 = .ok (.istore 4, 2) := by decide +kernel
theorem dX3_candlesOnWay_20 : decode cX3_candlesOnWay 20 = .ok (.aload_n 0, 1) := by decide +kernel
theorem dX3_candlesOnWay_21 : decode cX3_candlesOnWay 21 = .ok (.iload 4, 2) := by decide +kernel
theorem dX3_candlesOnWay_23 : decode cX3_candlesOnWay 23 = .ok (.invokevirtual 64, 3) := by decide +kernel
theorem dX3_candlesOnWay_26 : decode cX3_candlesOnWay 26 = .ok (.getfield 56, 3) := by decide +kernel
theorem dX3_candlesOnWay_29 : decode cX3_candlesOnWay 29 = .ok (.ifCond .eq 5, 3) := by decide +kernel
theorem dX3_candlesOnWay_32 : decode cX3_candlesOnWay 32 = .ok (.iload_n 3, 1) := by decide +kernel
theorem dX3_candlesOnWay_33 : decode cX3_candlesOnWay 33 = .ok (.ireturn, 1) := by decide +kernel
theorem dX3_candlesOnWay_34 : decode cX3_candlesOnWay 34 = .ok (.iload 4, 2) := by decide +kernel
theorem dX3_candlesOnWay_36 : decode cX3_candlesOnWay 36 = .ok (.iload_n 2, 1) := by decide +kernel
theorem dX3_candlesOnWay_37 : decode cX3_candlesOnWay 37 = .ok (.iadd, 1) := by decide +kernel
theorem dX3_candlesOnWay_38 : decode cX3_candlesOnWay 38 = .ok (.bipush 6, 2) := by decide +kernel
theorem dX3_candlesOnWay_40 : decode cX3_candlesOnWay 40 = .ok (.invokestatic 50, 3) := by decide +kernel
theorem dX3_candlesOnWay_43 : decode cX3_candlesOnWay 43 = .ok (.istore 5, 2) := by decide +kernel
theorem dX3_candlesOnWay_45 : decode cX3_candlesOnWay 45 = .ok (.aload_n 0, 1) := by decide +kernel
theorem dX3_candlesOnWay_46 : decode cX3_candlesOnWay 46 = .ok (.iload 4, 2) := by decide +kernel
theorem dX3_candlesOnWay_48 : decode cX3_candlesOnWay 48 = .ok (.invokevirtual 64, 3) := by decide +kernel
theorem dX3_candlesOnWay_51 : decode cX3_candlesOnWay 51 = .ok (.getfield 85, 3) := by decide +kernel
theorem dX3_candlesOnWay_54 : decode cX3_candlesOnWay 54 = .ok (.ifCond .eq 14, 3) := by decide +kernel
theorem dX3_candlesOnWay_57 : decode cX3_candlesOnWay 57 = .ok (.aload_n 0, 1) := by decide +kernel
theorem dX3_candlesOnWay_58 : decode cX3_candlesOnWay 58 = .ok (.iload 4, 2) := by decide +kernel
theorem dX3_candlesOnWay_60 : decode cX3_candlesOnWay 60 = .ok (.iload 5, 2) := by decide +kernel
theorem dX3_candlesOnWay_62 : decode cX3_candlesOnWay 62 = .ok (.invokevirtual 88, 3) := by decide +kernel
theorem dX3_candlesOnWay_65 : decode cX3_candlesOnWay 65 = .ok (.ifCond .ne 5, 3) := by decide +kernel
theorem dX3_candlesOnWay_68 : decode cX3_candlesOnWay 68 = .ok (.iconst (-1), 1) := by decide +kernel
theorem dX3_candlesOnWay_69 : decode cX3_candlesOnWay 69 = .ok (.ireturn, 1) := by decide +kernel
theorem dX3_candlesOnWay_70 : decode cX3_candlesOnWay 70 = .ok (.iinc 3 1, 3) := by decide +kernel
theorem dX3_candlesOnWay_73 : decode cX3_candlesOnWay 73 = .ok (.goto (-71), 3) := by decide +kernel
theorem dX3_candlesOnWay_76 : decode cX3_candlesOnWay 76 = .ok (.iconst (-1), 1) := by decide +kernel
theorem dX3_candlesOnWay_77 : decode cX3_candlesOnWay 77 = .ok (.ireturn, 1) := by decide +kernel
theorem dX3_neediest_0 : decode cX3_neediest 0 = .ok (.iconst (-1), 1) := by decide +kernel
theorem dX3_neediest_1 : decode cX3_neediest 1 = .ok (.istore_n 1, 1) := by decide +kernel
theorem dX3_neediest_2 : decode cX3_neediest 2 = .ok (.iconst 0, 1) := by decide +kernel
theorem dX3_neediest_3 : decode cX3_neediest 3 = .ok (.istore_n 2, 1) := by decide +kernel
theorem dX3_neediest_4 : decode cX3_neediest 4 = .ok (.iload_n 2, 1) := by decide +kernel
theorem dX3_neediest_5 : decode cX3_neediest 5 = .ok (.bipush 6, 2) := by decide +kernel
theorem dX3_neediest_7 : decode cX3_neediest 7 = .ok (.if_icmp .ge 37, 3) := by decide +kernel
theorem dX3_neediest_10 : decode cX3_neediest 10 = .ok (.aload_n 0, 1) := by decide +kernel
theorem dX3_neediest_11 : decode cX3_neediest 11 = .ok (.getfield 11, 3) := by decide +kernel
theorem dX3_neediest_14 : decode cX3_neediest 14 = .ok (.iload_n 2, 1) := by decide +kernel
theorem dX3_neediest_15 : decode cX3_neediest 15 = .ok (.aaload, 1) := by decide +kernel
theorem dX3_neediest_16 : decode cX3_neediest 16 = .ok (.getfield 68, 3) := by decide +kernel
theorem dX3_neediest_19 : decode cX3_neediest 19 = .ok (.ifCond .le 19, 3) := by decide +kernel
theorem dX3_neediest_22 : decode cX3_neediest 22 = .ok (.iload_n 1, 1) := by decide +kernel
theorem dX3_neediest_23 : decode cX3_neediest 23 = .ok (.iconst (-1), 1) := by decide +kernel
theorem dX3_neediest_24 : decode cX3_neediest 24 = .ok (.if_icmp .eq 12, 3) := by decide +kernel
theorem dX3_neediest_27 : decode cX3_neediest 27 = .ok (.aload_n 0, 1) := by decide +kernel
theorem dX3_neediest_28 : decode cX3_neediest 28 = .ok (.iload_n 2, 1) := by decide +kernel
theorem dX3_neediest_29 : decode cX3_neediest 29 = .ok (.iload_n 1, 1) := by decide +kernel
theorem dX3_neediest_30 : decode cX3_neediest 30 = .ok (.invokevirtual 170, 3) := by decide +kernel
theorem dX3_neediest_33 : decode cX3_neediest 33 = .ok (.ifCond .eq 5, 3) := by decide +kernel
theorem dX3_neediest_36 : decode cX3_neediest 36 = .ok (.iload_n 2, 1) := by decide +kernel
theorem dX3_neediest_37 : decode cX3_neediest 37 = .ok (.istore_n 1, 1) := by decide +kernel
theorem dX3_neediest_38 : decode cX3_neediest 38 = .ok (.iinc 2 1, 3) := by decide +kernel
theorem dX3_neediest_41 : decode cX3_neediest 41 = .ok (.goto (-37), 3) := by decide +kernel
theorem dX3_neediest_44 : decode cX3_neediest 44 = .ok (.iload_n 1, 1) := by decide +kernel
theorem dX3_neediest_45 : decode cX3_neediest 45 = .ok (.ireturn, 1) := by decide +kernel
theorem dX3_isNeedier_0 : decode cX3_isNeedier 0 = .ok (.aload_n 0, 1) := by decide +kernel
theorem dX3_isNeedier_1 : decode cX3_isNeedier 1 = .ok (.iload_n 1, 1) := by decide +kernel
theorem dX3_isNeedier_2 : decode cX3_isNeedier 2 = .ok (.invokevirtual 64, 3) := by decide +kernel
theorem dX3_isNeedier_5 : decode cX3_isNeedier 5 = .ok (.astore_n 3, 1) := by decide +kernel
theorem dX3_isNeedier_6 : decode cX3_isNeedier 6 = .ok (.aload_n 0, 1) := by decide +kernel
theorem dX3_isNeedier_7 : decode cX3_isNeedier 7 = .ok (.iload_n 2, 1) := by decide +kernel
theorem dX3_isNeedier_8 : decode cX3_isNeedier 8 = .ok (.invokevirtual 64, 3) := by decide +kernel
theorem dX3_isNeedier_11 : decode cX3_isNeedier 11 = .ok (.astore 4, 2) := by decide +kernel
theorem dX3_isNeedier_13 : decode cX3_isNeedier 13 = .ok (.aload_n 3, 1) := by decide +kernel
theorem dX3_isNeedier_14 : decode cX3_isNeedier 14 = .ok (.getfield 85, 3) := by decide +kernel
theorem dX3_isNeedier_17 : decode cX3_isNeedier 17 = .ok (.aload 4, 2) := by decide +kernel
theorem dX3_isNeedier_19 : decode cX3_isNeedier 19 = .ok (.getfield 85, 3) := by decide +kernel
theorem dX3_isNeedier_22 : decode cX3_isNeedier 22 = .ok (.if_icmp .eq 21, 3) := by decide +kernel
theorem dX3_isNeedier_25 : decode cX3_isNeedier 25 = .ok (.aload_n 3, 1) := by decide +kernel
theorem dX3_isNeedier_26 : decode cX3_isNeedier 26 = .ok (.getfield 85, 3) := by decide +kernel
theorem dX3_isNeedier_29 : decode cX3_isNeedier 29 = .ok (.aload 4, 2) := by decide +kernel
theorem dX3_isNeedier_31 : decode cX3_isNeedier 31 = .ok (.getfield 85, 3) := by decide +kernel
theorem dX3_isNeedier_34 : decode cX3_isNeedier 34 = .ok (.if_icmp .ge 7, 3) := by decide +kernel
theorem dX3_isNeedier_37 : decode cX3_isNeedier 37 = .ok (.iconst 1, 1) := by decide +kernel
theorem dX3_isNeedier_38 : decode cX3_isNeedier 38 = .ok (.goto 4, 3) := by decide +kernel
theorem dX3_isNeedier_41 : decode cX3_isNeedier 41 = .ok (.iconst 0, 1) := by decide +kernel
theorem dX3_isNeedier_42 : decode cX3_isNeedier 42 = .ok (.ireturn, 1) := by decide +kernel
theorem dX3_isNeedier_43 : decode cX3_isNeedier 43 = .ok (.aload_n 3, 1) := by decide +kernel
theorem dX3_isNeedier_44 : decode cX3_isNeedier 44 = .ok (.getfield 68, 3) := by decide +kernel
theorem dX3_isNeedier_47 : decode cX3_isNeedier 47 = .ok (.aload 4, 2) := by decide +kernel
theorem dX3_isNeedier_49 : decode cX3_isNeedier 49 = .ok (.getfield 68, 3) := by decide +kernel
theorem dX3_isNeedier_52 : decode cX3_isNeedier 52 = .ok (.if_icmp .le 7, 3) := by decide +kernel
theorem dX3_isNeedier_55 : decode cX3_isNeedier 55 = .ok (.iconst 1, 1) := by decide +kernel
theorem dX3_isNeedier_56 : decode cX3_isNeedier 56 = .ok (.goto 4, 3) := by decide +kernel
theorem dX3_isNeedier_59 : decode cX3_isNeedier 59 = .ok (.iconst 0, 1) := by decide +kernel
theorem dX3_isNeedier_60 : decode cX3_isNeedier 60 = .ok (.ireturn, 1) := by decide +kernel
theorem dX3_shareInLight_0 : decode cX3_shareInLight 0 = .ok (.aload_n 0, 1) := by decide +kernel
theorem dX3_shareInLight_1 : decode cX3_shareInLight 1 = .ok (.invokevirtual 173, 3) := by decide +kernel
theorem dX3_shareInLight_4 : decode cX3_shareInLight 4 = .ok (.istore_n 1, 1) := by decide +kernel
theorem dX3_shareInLight_5 : decode cX3_shareInLight 5 = .ok (.iload_n 1, 1) := by decide +kernel
theorem dX3_shareInLight_6 : decode cX3_shareInLight 6 = .ok (.ifCond .ne 5, 3) := by decide +kernel
theorem dX3_shareInLight_9 : decode cX3_shareInLight 9 = .ok (.dconst 1, 1) := by decide +kernel
theorem dX3_shareInLight_10 : decode cX3_shareInLight 10 = .ok (.dreturn, 1) := by decide +kernel
theorem dX3_shareInLight_11 : decode cX3_shareInLight 11 = .ok (.iconst 0, 1) := by decide +kernel
theorem dX3_shareInLight_12 : decode cX3_shareInLight 12 = .ok (.istore_n 2, 1) := by decide +kernel
theorem dX3_shareInLight_13 : decode cX3_shareInLight 13 = .ok (.iconst 0, 1) := by decide +kernel
theorem dX3_shareInLight_14 : decode cX3_shareInLight 14 = .ok (.istore_n 3, 1) := by decide +kernel
theorem dX3_shareInLight_15 : decode cX3_shareInLight 15 = .ok (.iload_n 3, 1) := by decide +kernel
theorem dX3_shareInLight_16 : decode cX3_shareInLight 16 = .ok (.bipush 6, 2) := by decide +kernel
theorem dX3_shareInLight_18 : decode cX3_shareInLight 18 = .ok (.if_icmp .ge 37, 3) := by decide +kernel
theorem dX3_shareInLight_21 : decode cX3_shareInLight 21 = .ok (.iload_n 2, 1) := by decide +kernel
theorem dX3_shareInLight_22 : decode cX3_shareInLight 22 = .ok (.aload_n 0, 1) := by decide +kernel
theorem dX3_shareInLight_23 : decode cX3_shareInLight 23 = .ok (.getfield 11, 3) := by decide +kernel
theorem dX3_shareInLight_26 : decode cX3_shareInLight 26 = .ok (.iload_n 3, 1) := by decide +kernel
theorem dX3_shareInLight_27 : decode cX3_shareInLight 27 = .ok (.aaload, 1) := by decide +kernel
theorem dX3_shareInLight_28 : decode cX3_shareInLight 28 = .ok (.getfield 56, 3) := by decide +kernel
theorem dX3_shareInLight_31 : decode cX3_shareInLight 31 = .ok (.ifCond .eq 15, 3) := by decide +kernel
theorem dX3_shareInLight_34 : decode cX3_shareInLight 34 = .ok (.aload_n 0, 1) := by decide +kernel
theorem dX3_shareInLight_35 : decode cX3_shareInLight 35 = .ok (.getfield 11, 3) := by decide +kernel
theorem dX3_shareInLight_38 : decode cX3_shareInLight 38 = .ok (.iload_n 3, 1) := by decide +kernel
theorem dX3_shareInLight_39 : decode cX3_shareInLight 39 = .ok (.aaload, 1) := by decide +kernel
theorem dX3_shareInLight_40 : decode cX3_shareInLight 40 = .ok (.getfield 68, 3) := by decide +kernel
theorem dX3_shareInLight_43 : decode cX3_shareInLight 43 = .ok (.goto 4, 3) := by decide +kernel
theorem dX3_shareInLight_46 : decode cX3_shareInLight 46 = .ok (.iconst 0, 1) := by decide +kernel
theorem dX3_shareInLight_47 : decode cX3_shareInLight 47 = .ok (.iadd, 1) := by decide +kernel
theorem dX3_shareInLight_48 : decode cX3_shareInLight 48 = .ok (.istore_n 2, 1) := by decide +kernel
theorem dX3_shareInLight_49 : decode cX3_shareInLight 49 = .ok (.iinc 3 1, 3) := by decide +kernel
theorem dX3_shareInLight_52 : decode cX3_shareInLight 52 = .ok (.goto (-37), 3) := by decide +kernel
theorem dX3_shareInLight_55 : decode cX3_shareInLight 55 = .ok (.iload_n 2, 1) := by decide +kernel
theorem dX3_shareInLight_56 : decode cX3_shareInLight 56 = .ok (.i2d, 1) := by decide +kernel
theorem dX3_shareInLight_57 : decode cX3_shareInLight 57 = .ok (.iload_n 1, 1) := by decide +kernel
theorem dX3_shareInLight_58 : decode cX3_shareInLight 58 = .ok (.i2d, 1) := by decide +kernel
theorem dX3_shareInLight_59 : decode cX3_shareInLight 59 = .ok (.ddiv, 1) := by decide +kernel
theorem dX3_shareInLight_60 : decode cX3_shareInLight 60 = .ok (.dreturn, 1) := by decide +kernel
theorem dX4_init_0 : decode cX4_init 0 = .ok (.aload_n 0, 1) := by decide +kernel
theorem dX4_init_1 : decode cX4_init 1 = .ok (.invokespecial 1, 3) := by decide +kernel
theorem dX4_init_4 : decode cX4_init 4 = .ok (.aload_n 0, 1) := by decide +kernel
theorem dX4_init_5 : decode cX4_init 5 = .ok (.new 7, 3) := by decide +kernel
theorem dX4_init_8 : decode cX4_init 8 = .ok (.dup, 1) := by decide +kernel
theorem dX4_init_9 : decode cX4_init 9 = .ok (.invokespecial 9, 3) := by decide +kernel
theorem dX4_init_12 : decode cX4_init 12 = .ok (.putfield 10, 3) := by decide +kernel
theorem dX4_init_15 : decode cX4_init 15 = .ok (.aload_n 0, 1) := by decide +kernel
theorem dX4_init_16 : decode cX4_init 16 = .ok (.new 16, 3) := by decide +kernel
theorem dX4_init_19 : decode cX4_init 19 = .ok (.dup, 1) := by decide +kernel
theorem dX4_init_20 : decode cX4_init 20 = .ok (.invokespecial 18, 3) := by decide +kernel
theorem dX4_init_23 : decode cX4_init 23 = .ok (.putfield 19, 3) := by decide +kernel
theorem dX4_init_26 : decode cX4_init 26 = .ok (.aload_n 0, 1) := by decide +kernel
theorem dX4_init_27 : decode cX4_init 27 = .ok (.new 23, 3) := by decide +kernel
theorem dX4_init_30 : decode cX4_init 30 = .ok (.dup, 1) := by decide +kernel
theorem dX4_init_31 : decode cX4_init 31 = .ok (.invokespecial 25, 3) := by decide +kernel
theorem dX4_init_34 : decode cX4_init 34 = .ok (.putfield 26, 3) := by decide +kernel
theorem dX4_init_37 : decode cX4_init 37 = .ok (.return_, 1) := by decide +kernel
theorem dX4_strike_0 : decode cX4_strike 0 = .ok (.iload_n 1, 1) := by decide +kernel
theorem dX4_strike_1 : decode cX4_strike 1 = .ok (.invokestatic 30, 3) := by decide +kernel
theorem dX4_strike_4 : decode cX4_strike 4 = .ok (.aload_n 0, 1) := by decide +kernel
theorem dX4_strike_5 : decode cX4_strike 5 = .ok (.getfield 10, 3) := by decide +kernel
theorem dX4_strike_8 : decode cX4_strike 8 = .ok (.iload_n 1, 1) := by decide +kernel
theorem dX4_strike_9 : decode cX4_strike 9 = .ok (.invokevirtual 34, 3) := by decide +kernel
theorem dX4_strike_12 : decode cX4_strike 12 = .ok (.ifCond .ne 13, 3) := by decide +kernel
theorem dX4_strike_15 : decode cX4_strike 15 = .ok (.new 38, 3) := by decide +kernel
theorem dX4_strike_18 : decode cX4_strike 18 = .ok (.dup, 1) := by decide +kernel
theorem dX4_strike_19 : decode cX4_strike 19 = .ok (.ldc 40, 2) := by decide +kernel
theorem dX4_strike_21 : decode cX4_strike 21 = .ok (.invokespecial 42, 3) := by decide +kernel
theorem dX4_strike_24 : decode cX4_strike 24 = .ok (.athrow, 1) := by decide +kernel
theorem dX4_strike_25 : decode cX4_strike 25 = .ok (.aload_n 0, 1) := by decide +kernel
theorem dX4_strike_26 : decode cX4_strike 26 = .ok (.getfield 19, 3) := by decide +kernel
theorem dX4_strike_29 : decode cX4_strike 29 = .ok (.aload_n 0, 1) := by decide +kernel
theorem dX4_strike_30 : decode cX4_strike 30 = .ok (.getfield 10, 3) := by decide +kernel
theorem dX4_strike_33 : decode cX4_strike 33 = .ok (.invokevirtual 45, 3) := by decide +kernel
theorem dX4_strike_36 : decode cX4_strike 36 = .ok (.aload_n 0, 1) := by decide +kernel
theorem dX4_strike_37 : decode cX4_strike 37 = .ok (.getfield 10, 3) := by decide +kernel
theorem dX4_strike_40 : decode cX4_strike 40 = .ok (.iload_n 1, 1) := by decide +kernel
theorem dX4_strike_41 : decode cX4_strike 41 = .ok (.invokevirtual 49, 3) := by decide +kernel
theorem dX4_strike_44 : decode cX4_strike 44 = .ok (.ireturn, 1) := by decide +kernel
theorem dX4_light_0 : decode cX4_light 0 = .ok (.iload_n 1, 1) := by decide +kernel
theorem dX4_light_1 : decode cX4_light 1 = .ok (.invokestatic 30, 3) := by decide +kernel
theorem dX4_light_4 : decode cX4_light 4 = .ok (.iload_n 2, 1) := by decide +kernel
theorem dX4_light_5 : decode cX4_light 5 = .ok (.invokestatic 30, 3) := by decide +kernel
theorem dX4_light_8 : decode cX4_light 8 = .ok (.aload_n 0, 1) := by decide +kernel
theorem dX4_light_9 : decode cX4_light 9 = .ok (.getfield 10, 3) := by decide +kernel
theorem dX4_light_12 : decode cX4_light 12 = .ok (.iload_n 1, 1) := by decide +kernel
theorem dX4_light_13 : decode cX4_light 13 = .ok (.iload_n 2, 1) := by decide +kernel
theorem dX4_light_14 : decode cX4_light 14 = .ok (.invokevirtual 53, 3) := by decide +kernel
theorem dX4_light_17 : decode cX4_light 17 = .ok (.ifCond .ne 13, 3) := by decide +kernel
theorem dX4_light_20 : decode cX4_light 20 = .ok (.new 38, 3) := by decide +kernel
theorem dX4_light_23 : decode cX4_light 23 = .ok (.dup, 1) := by decide +kernel
theorem dX4_light_24 : decode cX4_light 24 = .ok (.ldc 57, 2) := by decide +kernel
theorem dX4_light_26 : decode cX4_light 26 = .ok (.invokespecial 42, 3) := by decide +kernel
theorem dX4_light_29 : decode cX4_light 29 = .ok (.athrow, 1) := by decide +kernel
theorem dX4_light_30 : decode cX4_light 30 = .ok (.aload_n 0, 1) := by decide +kernel
theorem dX4_light_31 : decode cX4_light 31 = .ok (.getfield 19, 3) := by decide +kernel
theorem dX4_light_34 : decode cX4_light 34 = .ok (.aload_n 0, 1) := by decide +kernel
theorem dX4_light_35 : decode cX4_light 35 = .ok (.getfield 10, 3) := by decide +kernel
theorem dX4_light_38 : decode cX4_light 38 = .ok (.invokevirtual 45, 3) := by decide +kernel
theorem dX4_light_41 : decode cX4_light 41 = .ok (.aload_n 0, 1) := by decide +kernel
theorem dX4_light_42 : decode cX4_light 42 = .ok (.getfield 10, 3) := by decide +kernel
theorem dX4_light_45 : decode cX4_light 45 = .ok (.iload_n 1, 1) := by decide +kernel
theorem dX4_light_46 : decode cX4_light 46 = .ok (.invokevirtual 49, 3) := by decide +kernel
theorem dX4_light_49 : decode cX4_light 49 = .ok (.ireturn, 1) := by decide +kernel
theorem dX4_fresh_0 : decode cX4_fresh 0 = .ok (.iload_n 1, 1) := by decide +kernel
theorem dX4_fresh_1 : decode cX4_fresh 1 = .ok (.invokestatic 30, 3) := by decide +kernel
theorem dX4_fresh_4 : decode cX4_fresh 4 = .ok (.aload_n 0, 1) := by decide +kernel
theorem dX4_fresh_5 : decode cX4_fresh 5 = .ok (.getfield 10, 3) := by decide +kernel
theorem dX4_fresh_8 : decode cX4_fresh 8 = .ok (.invokevirtual 59, 3) := by decide +kernel
theorem dX4_fresh_11 : decode cX4_fresh 11 = .ok (.ifCond .ne 13, 3) := by decide +kernel
theorem dX4_fresh_14 : decode cX4_fresh 14 = .ok (.new 38, 3) := by decide +kernel
theorem dX4_fresh_17 : decode cX4_fresh 17 = .ok (.dup, 1) := by decide +kernel
theorem dX4_fresh_18 : decode cX4_fresh 18 = .ok (.ldc 63, 2) := by decide +kernel
theorem dX4_fresh_20 : decode cX4_fresh 20 = .ok (.invokespecial 42, 3) := by decide +kernel
theorem dX4_fresh_23 : decode cX4_fresh 23 = .ok (.athrow, 1) := by decide +kernel
theorem dX4_fresh_24 : decode cX4_fresh 24 = .ok (.aload_n 0, 1) := by decide +kernel
theorem dX4_fresh_25 : decode cX4_fresh 25 = .ok (.getfield 19, 3) := by decide +kernel
theorem dX4_fresh_28 : decode cX4_fresh 28 = .ok (.aload_n 0, 1) := by decide +kernel
theorem dX4_fresh_29 : decode cX4_fresh 29 = .ok (.getfield 10, 3) := by decide +kernel
theorem dX4_fresh_32 : decode cX4_fresh 32 = .ok (.invokevirtual 45, 3) := by decide +kernel
theorem dX4_fresh_35 : decode cX4_fresh 35 = .ok (.aload_n 0, 1) := by decide +kernel
theorem dX4_fresh_36 : decode cX4_fresh 36 = .ok (.getfield 10, 3) := by decide +kernel
theorem dX4_fresh_39 : decode cX4_fresh 39 = .ok (.iload_n 1, 1) := by decide +kernel
theorem dX4_fresh_40 : decode cX4_fresh 40 = .ok (.invokevirtual 65, 3) := by decide +kernel
theorem dX4_fresh_43 : decode cX4_fresh 43 = .ok (.ireturn, 1) := by decide +kernel
theorem dX4_door_0 : decode cX4_door 0 = .ok (.iload_n 1, 1) := by decide +kernel
theorem dX4_door_1 : decode cX4_door 1 = .ok (.invokestatic 68, 3) := by decide +kernel
theorem dX4_door_4 : decode cX4_door 4 = .ok (.ifCond .ne 13, 3) := by decide +kernel
theorem dX4_door_7 : decode cX4_door 7 = .ok (.new 71, 3) := by decide +kernel
theorem dX4_door_10 : decode cX4_door 10 = .ok (.dup, 1) := by decide +kernel
theorem dX4_door_11 : decode cX4_door 11 = .ok (.ldc 73, 2) := by decide +kernel
theorem dX4_door_13 : decode cX4_door 13 = .ok (.invokespecial 75, 3) := by decide +kernel
theorem dX4_door_16 : decode cX4_door 16 = .ok (.athrow, 1) := by decide +kernel
theorem dX4_door_17 : decode cX4_door 17 = .ok (.aload_n 0, 1) := by decide +kernel
theorem dX4_door_18 : decode cX4_door 18 = .ok (.getfield 19, 3) := by decide +kernel
theorem dX4_door_21 : decode cX4_door 21 = .ok (.aload_n 0, 1) := by decide +kernel
theorem dX4_door_22 : decode cX4_door 22 = .ok (.getfield 10, 3) := by decide +kernel
theorem dX4_door_25 : decode cX4_door 25 = .ok (.invokevirtual 45, 3) := by decide +kernel
theorem dX4_door_28 : decode cX4_door 28 = .ok (.aload_n 0, 1) := by decide +kernel
theorem dX4_door_29 : decode cX4_door 29 = .ok (.getfield 10, 3) := by decide +kernel
theorem dX4_door_32 : decode cX4_door 32 = .ok (.iload_n 1, 1) := by decide +kernel
theorem dX4_door_33 : decode cX4_door 33 = .ok (.invokevirtual 76, 3) := by decide +kernel
theorem dX4_door_36 : decode cX4_door 36 = .ok (.astore_n 3, 1) := by decide +kernel
theorem dX4_door_37 : decode cX4_door 37 = .ok (.aload_n 3, 1) := by decide +kernel
theorem dX4_door_38 : decode cX4_door 38 = .ok (.getfield 80, 3) := by decide +kernel
theorem dX4_door_41 : decode cX4_door 41 = .ok (.istore 4, 2) := by decide +kernel
theorem dX4_door_43 : decode cX4_door 43 = .ok (.aload_n 3, 1) := by decide +kernel
theorem dX4_door_44 : decode cX4_door 44 = .ok (.iload_n 2, 1) := by decide +kernel
theorem dX4_door_45 : decode cX4_door 45 = .ok (.putfield 80, 3) := by decide +kernel
theorem dX4_door_48 : decode cX4_door 48 = .ok (.iload 4, 2) := by decide +kernel
theorem dX4_door_50 : decode cX4_door 50 = .ok (.invokestatic 86, 3) := by decide +kernel
theorem dX4_door_53 : decode cX4_door 53 = .ok (.ireturn, 1) := by decide +kernel
theorem dX4_shield_0 : decode cX4_shield 0 = .ok (.iload_n 1, 1) := by decide +kernel
theorem dX4_shield_1 : decode cX4_shield 1 = .ok (.invokestatic 30, 3) := by decide +kernel
theorem dX4_shield_4 : decode cX4_shield 4 = .ok (.aload_n 0, 1) := by decide +kernel
theorem dX4_shield_5 : decode cX4_shield 5 = .ok (.getfield 19, 3) := by decide +kernel
theorem dX4_shield_8 : decode cX4_shield 8 = .ok (.aload_n 0, 1) := by decide +kernel
theorem dX4_shield_9 : decode cX4_shield 9 = .ok (.getfield 10, 3) := by decide +kernel
theorem dX4_shield_12 : decode cX4_shield 12 = .ok (.invokevirtual 45, 3) := by decide +kernel
theorem dX4_shield_15 : decode cX4_shield 15 = .ok (.aload_n 0, 1) := by decide +kernel
theorem dX4_shield_16 : decode cX4_shield 16 = .ok (.getfield 10, 3) := by decide +kernel
theorem dX4_shield_19 : decode cX4_shield 19 = .ok (.iload_n 1, 1) := by decide +kernel
theorem dX4_shield_20 : decode cX4_shield 20 = .ok (.invokevirtual 76, 3) := by decide +kernel
theorem dX4_shield_23 : decode cX4_shield 23 = .ok (.astore_n 3, 1) := by decide +kernel
theorem dX4_shield_24 : decode cX4_shield 24 = .ok (.aload_n 3, 1) := by decide +kernel
theorem dX4_shield_25 : decode cX4_shield 25 = .ok (.getfield 90, 3) := by decide +kernel
theorem dX4_shield_28 : decode cX4_shield 28 = .ok (.istore 4, 2) := by decide +kernel
theorem dX4_shield_30 : decode cX4_shield 30 = .ok (.aload_n 3, 1) := by decide +kernel
theorem dX4_shield_31 : decode cX4_shield 31 = .ok (.iload_n 2, 1) := by decide +kernel
theorem dX4_shield_32 : decode cX4_shield 32 = .ok (.putfield 90, 3) := by decide +kernel
theorem dX4_shield_35 : decode cX4_shield 35 = .ok (.iload 4, 2) := by decide +kernel
theorem dX4_shield_37 : decode cX4_shield 37 = .ok (.invokestatic 86, 3) := by decide +kernel
theorem dX4_shield_40 : decode cX4_shield 40 = .ok (.ireturn, 1) := by decide +kernel
theorem dX4_draught_0 : decode cX4_draught 0 = .ok (.iload_n 1, 1) := by decide +kernel
theorem dX4_draught_1 : decode cX4_draught 1 = .ok (.invokestatic 30, 3) := by decide +kernel
theorem dX4_draught_4 : decode cX4_draught 4 = .ok (.iload_n 2, 1) := by decide +kernel
theorem dX4_draught_5 : decode cX4_draught 5 = .ok (.iconst 1, 1) := by decide +kernel
theorem dX4_draught_6 : decode cX4_draught 6 = .ok (.if_icmp .lt 9, 3) := by decide +kernel
theorem dX4_draught_9 : decode cX4_draught 9 = .ok (.iload_n 2, 1) := by decide +kernel
theorem dX4_draught_10 : decode cX4_draught 10 = .ok (.bipush 6, 2) := by decide +kernel
theorem dX4_draught_12 : decode cX4_draught 12 = .ok (.if_icmp .le 13, 3) := by decide +kernel
theorem dX4_draught_15 : decode cX4_draught 15 = .ok (.new 93, 3) := by decide +kernel
theorem dX4_draught_18 : decode cX4_draught 18 = .ok (.dup, 1) := by decide +kernel
theorem dX4_draught_19 : decode cX4_draught 19 = .ok (.ldc 95, 2) := by decide +kernel
theorem dX4_draught_21 : decode cX4_draught 21 = .ok (.invokespecial 97, 3) := by decide +kernel
theorem dX4_draught_24 : decode cX4_draught 24 = .ok (.athrow, 1) := by decide +kernel
theorem dX4_draught_25 : decode cX4_draught 25 = .ok (.aload_n 0, 1) := by decide +kernel
theorem dX4_draught_26 : decode cX4_draught 26 = .ok (.getfield 19, 3) := by decide +kernel
theorem dX4_draught_29 : decode cX4_draught 29 = .ok (.aload_n 0, 1) := by decide +kernel
theorem dX4_draught_30 : decode cX4_draught 30 = .ok (.getfield 10, 3) := by decide +kernel
theorem dX4_draught_33 : decode cX4_draught 33 = .ok (.invokevirtual 45, 3) := by decide +kernel
theorem dX4_draught_36 : decode cX4_draught 36 = .ok (.aload_n 0, 1) := by decide +kernel
theorem dX4_draught_37 : decode cX4_draught 37 = .ok (.getfield 10, 3) := by decide +kernel
theorem dX4_draught_40 : decode cX4_draught 40 = .ok (.iload_n 1, 1) := by decide +kernel
theorem dX4_draught_41 : decode cX4_draught 41 = .ok (.iload_n 2, 1) := by decide +kernel
theorem dX4_draught_42 : decode cX4_draught 42 = .ok (.invokevirtual 98, 3) := by decide +kernel
theorem dX4_draught_45 : decode cX4_draught 45 = .ok (.ireturn, 1) := by decide +kernel
theorem dX4_set_0 : decode cX4_set 0 = .ok (.iload_n 1, 1) := by decide +kernel
theorem dX4_set_1 : decode cX4_set 1 = .ok (.iconst 1, 1) := by decide +kernel
theorem dX4_set_2 : decode cX4_set 2 = .ok (.if_icmp .lt 9, 3) := by decide +kernel
theorem dX4_set_5 : decode cX4_set 5 = .ok (.iload_n 1, 1) := by decide +kernel
theorem dX4_set_6 : decode cX4_set 6 = .ok (.bipush 50, 2) := by decide +kernel
theorem dX4_set_8 : decode cX4_set 8 = .ok (.if_icmp .le 13, 3) := by decide +kernel
theorem dX4_set_11 : decode cX4_set 11 = .ok (.new 93, 3) := by decide +kernel
theorem dX4_set_14 : decode cX4_set 14 = .ok (.dup, 1) := by decide +kernel
theorem dX4_set_15 : decode cX4_set 15 = .ok (.ldc 102, 2) := by decide +kernel
theorem dX4_set_17 : decode cX4_set 17 = .ok (.invokespecial 97, 3) := by decide +kernel
theorem dX4_set_20 : decode cX4_set 20 = .ok (.athrow, 1) := by decide +kernel
theorem dX4_set_21 : decode cX4_set 21 = .ok (.aload_n 0, 1) := by decide +kernel
theorem dX4_set_22 : decode cX4_set 22 = .ok (.getfield 19, 3) := by decide +kernel
theorem dX4_set_25 : decode cX4_set 25 = .ok (.aload_n 0, 1) := by decide +kernel
theorem dX4_set_26 : decode cX4_set 26 = .ok (.getfield 10, 3) := by decide +kernel
theorem dX4_set_29 : decode cX4_set 29 = .ok (.invokevirtual 45, 3) := by decide +kernel
theorem dX4_set_32 : decode cX4_set 32 = .ok (.aload_n 0, 1) := by decide +kernel
theorem dX4_set_33 : decode cX4_set 33 = .ok (.getfield 10, 3) := by decide +kernel
theorem dX4_set_36 : decode cX4_set 36 = .ok (.getfield 104, 3) := by decide +kernel
theorem dX4_set_39 : decode cX4_set 39 = .ok (.istore_n 2, 1) := by decide +kernel
theorem dX4_set_40 : decode cX4_set 40 = .ok (.aload_n 0, 1) := by decide +kernel
theorem dX4_set_41 : decode cX4_set 41 = .ok (.getfield 10, 3) := by decide +kernel
theorem dX4_set_44 : decode cX4_set 44 = .ok (.iload_n 1, 1) := by decide +kernel
theorem dX4_set_45 : decode cX4_set 45 = .ok (.putfield 104, 3) := by decide +kernel
theorem dX4_set_48 : decode cX4_set 48 = .ok (.iload_n 2, 1) := by decide +kernel
theorem dX4_set_49 : decode cX4_set 49 = .ok (.ireturn, 1) := by decide +kernel
theorem dX4_keep_0 : decode cX4_keep 0 = .ok (.iload_n 1, 1) := by decide +kernel
theorem dX4_keep_1 : decode cX4_keep 1 = .ok (.invokestatic 30, 3) := by decide +kernel
theorem dX4_keep_4 : decode cX4_keep 4 = .ok (.iload_n 2, 1) := by decide +kernel
theorem dX4_keep_5 : decode cX4_keep 5 = .ok (.invokestatic 108, 3) := by decide +kernel
theorem dX4_keep_8 : decode cX4_keep 8 = .ok (.aload_n 0, 1) := by decide +kernel
theorem dX4_keep_9 : decode cX4_keep 9 = .ok (.getfield 10, 3) := by decide +kernel
theorem dX4_keep_12 : decode cX4_keep 12 = .ok (.iload_n 1, 1) := by decide +kernel
theorem dX4_keep_13 : decode cX4_keep 13 = .ok (.iload_n 2, 1) := by decide +kernel
theorem dX4_keep_14 : decode cX4_keep 14 = .ok (.invokevirtual 111, 3) := by decide +kernel
theorem dX4_keep_17 : decode cX4_keep 17 = .ok (.ifCond .ne 13, 3) := by decide +kernel
theorem dX4_keep_20 : decode cX4_keep 20 = .ok (.new 38, 3) := by decide +kernel
theorem dX4_keep_23 : decode cX4_keep 23 = .ok (.dup, 1) := by decide +kernel
theorem dX4_keep_24 : decode cX4_keep 24 = .ok (.ldc 114, 2) := by decide +kernel
theorem dX4_keep_26 : decode cX4_keep 26 = .ok (.invokespecial 42, 3) := by decide +kernel
theorem dX4_keep_29 : decode cX4_keep 29 = .ok (.athrow, 1) := by decide +kernel
theorem dX4_keep_30 : decode cX4_keep 30 = .ok (.aload_n 0, 1) := by decide +kernel
theorem dX4_keep_31 : decode cX4_keep 31 = .ok (.getfield 19, 3) := by decide +kernel
theorem dX4_keep_34 : decode cX4_keep 34 = .ok (.aload_n 0, 1) := by decide +kernel
theorem dX4_keep_35 : decode cX4_keep 35 = .ok (.getfield 10, 3) := by decide +kernel
theorem dX4_keep_38 : decode cX4_keep 38 = .ok (.invokevirtual 45, 3) := by decide +kernel
theorem dX4_keep_41 : decode cX4_keep 41 = .ok (.aload_n 0, 1) := by decide +kernel
theorem dX4_keep_42 : decode cX4_keep 42 = .ok (.getfield 10, 3) := by decide +kernel
theorem dX4_keep_45 : decode cX4_keep 45 = .ok (.iload_n 1, 1) := by decide +kernel
theorem dX4_keep_46 : decode cX4_keep 46 = .ok (.iload_n 2, 1) := by decide +kernel
theorem dX4_keep_47 : decode cX4_keep 47 = .ok (.invokevirtual 116, 3) := by decide +kernel
theorem dX4_keep_50 : decode cX4_keep 50 = .ok (.ireturn, 1) := by decide +kernel
theorem dX4_read_0 : decode cX4_read 0 = .ok (.iload_n 1, 1) := by decide +kernel
theorem dX4_read_1 : decode cX4_read 1 = .ok (.invokestatic 108, 3) := by decide +kernel
theorem dX4_read_4 : decode cX4_read 4 = .ok (.aload_n 0, 1) := by decide +kernel
theorem dX4_read_5 : decode cX4_read 5 = .ok (.getfield 19, 3) := by decide +kernel
theorem dX4_read_8 : decode cX4_read 8 = .ok (.aload_n 0, 1) := by decide +kernel
theorem dX4_read_9 : decode cX4_read 9 = .ok (.getfield 10, 3) := by decide +kernel
theorem dX4_read_12 : decode cX4_read 12 = .ok (.invokevirtual 45, 3) := by decide +kernel
theorem dX4_read_15 : decode cX4_read 15 = .ok (.aload_n 0, 1) := by decide +kernel
theorem dX4_read_16 : decode cX4_read 16 = .ok (.getfield 10, 3) := by decide +kernel
theorem dX4_read_19 : decode cX4_read 19 = .ok (.iload_n 1, 1) := by decide +kernel
theorem dX4_read_20 : decode cX4_read 20 = .ok (.invokevirtual 119, 3) := by decide +kernel
theorem dX4_read_23 : decode cX4_read 23 = .ok (.ireturn, 1) := by decide +kernel
theorem dX4_pass_0 : decode cX4_pass 0 = .ok (.iload_n 1, 1) := by decide +kernel
theorem dX4_pass_1 : decode cX4_pass 1 = .ok (.iconst 1, 1) := by decide +kernel
theorem dX4_pass_2 : decode cX4_pass 2 = .ok (.if_icmp .lt 9, 3) := by decide +kernel
theorem dX4_pass_5 : decode cX4_pass 5 = .ok (.iload_n 1, 1) := by decide +kernel
theorem dX4_pass_6 : decode cX4_pass 6 = .ok (.bipush 60, 2) := by decide +kernel
theorem dX4_pass_8 : decode cX4_pass 8 = .ok (.if_icmp .le 13, 3) := by decide +kernel
theorem dX4_pass_11 : decode cX4_pass 11 = .ok (.new 93, 3) := by decide +kernel
theorem dX4_pass_14 : decode cX4_pass 14 = .ok (.dup, 1) := by decide +kernel
theorem dX4_pass_15 : decode cX4_pass 15 = .ok (.ldc 122, 2) := by decide +kernel
theorem dX4_pass_17 : decode cX4_pass 17 = .ok (.invokespecial 97, 3) := by decide +kernel
theorem dX4_pass_20 : decode cX4_pass 20 = .ok (.athrow, 1) := by decide +kernel
theorem dX4_pass_21 : decode cX4_pass 21 = .ok (.aload_n 0, 1) := by decide +kernel
theorem dX4_pass_22 : decode cX4_pass 22 = .ok (.getfield 19, 3) := by decide +kernel
theorem dX4_pass_25 : decode cX4_pass 25 = .ok (.aload_n 0, 1) := by decide +kernel
theorem dX4_pass_26 : decode cX4_pass 26 = .ok (.getfield 10, 3) := by decide +kernel
theorem dX4_pass_29 : decode cX4_pass 29 = .ok (.invokevirtual 45, 3) := by decide +kernel
theorem dX4_pass_32 : decode cX4_pass 32 = .ok (.aload_n 0, 1) := by decide +kernel
theorem dX4_pass_33 : decode cX4_pass 33 = .ok (.getfield 10, 3) := by decide +kernel
theorem dX4_pass_36 : decode cX4_pass 36 = .ok (.iload_n 1, 1) := by decide +kernel
theorem dX4_pass_37 : decode cX4_pass 37 = .ok (.invokevirtual 124, 3) := by decide +kernel
theorem dX4_pass_40 : decode cX4_pass 40 = .ok (.ireturn, 1) := by decide +kernel
theorem dX4_undo_0 : decode cX4_undo 0 = .ok (.aload_n 0, 1) := by decide +kernel
theorem dX4_undo_1 : decode cX4_undo 1 = .ok (.getfield 19, 3) := by decide +kernel
theorem dX4_undo_4 : decode cX4_undo 4 = .ok (.getfield 153, 3) := by decide +kernel
theorem dX4_undo_7 : decode cX4_undo 7 = .ok (.ifCond .ne 13, 3) := by decide +kernel
theorem dX4_undo_10 : decode cX4_undo 10 = .ok (.new 38, 3) := by decide +kernel
theorem dX4_undo_13 : decode cX4_undo 13 = .ok (.dup, 1) := by decide +kernel
theorem dX4_undo_14 : decode cX4_undo 14 = .ok (.ldc 156, 2) := by decide +kernel
theorem dX4_undo_16 : decode cX4_undo 16 = .ok (.invokespecial 42, 3) := by decide +kernel
theorem dX4_undo_19 : decode cX4_undo 19 = .ok (.athrow, 1) := by decide +kernel
theorem dX4_undo_20 : decode cX4_undo 20 = .ok (.aload_n 0, 1) := by decide +kernel
theorem dX4_undo_21 : decode cX4_undo 21 = .ok (.getfield 19, 3) := by decide +kernel
theorem dX4_undo_24 : decode cX4_undo 24 = .ok (.aload_n 0, 1) := by decide +kernel
theorem dX4_undo_25 : decode cX4_undo 25 = .ok (.getfield 10, 3) := by decide +kernel
theorem dX4_undo_28 : decode cX4_undo 28 = .ok (.invokevirtual 158, 3) := by decide +kernel
theorem dX4_undo_31 : decode cX4_undo 31 = .ok (.ireturn, 1) := by decide +kernel
theorem dX4_room_0 : decode cX4_room 0 = .ok (.iload_n 1, 1) := by decide +kernel
theorem dX4_room_1 : decode cX4_room 1 = .ok (.invokestatic 30, 3) := by decide +kernel
theorem dX4_room_4 : decode cX4_room 4 = .ok (.iload_n 2, 1) := by decide +kernel
theorem dX4_room_5 : decode cX4_room 5 = .ok (.bipush 8, 2) := by decide +kernel
theorem dX4_room_7 : decode cX4_room 7 = .ok (.invokestatic 162, 3) := by decide +kernel
theorem dX4_room_10 : decode cX4_room 10 = .ok (.aload_n 0, 1) := by decide +kernel
theorem dX4_room_11 : decode cX4_room 11 = .ok (.getfield 10, 3) := by decide +kernel
theorem dX4_room_14 : decode cX4_room 14 = .ok (.iload_n 1, 1) := by decide +kernel
theorem dX4_room_15 : decode cX4_room 15 = .ok (.invokevirtual 76, 3) := by decide +kernel
theorem dX4_room_18 : decode cX4_room 18 = .ok (.iload_n 2, 1) := by decide +kernel
theorem dX4_room_19 : decode cX4_room 19 = .ok (.invokevirtual 166, 3) := by decide +kernel
theorem dX4_room_22 : decode cX4_room 22 = .ok (.ireturn, 1) := by decide +kernel
theorem dX4_thing_0 : decode cX4_thing 0 = .ok (.iload_n 1, 1) := by decide +kernel
theorem dX4_thing_1 : decode cX4_thing 1 = .ok (.invokestatic 108, 3) := by decide +kernel
theorem dX4_thing_4 : decode cX4_thing 4 = .ok (.iload_n 2, 1) := by decide +kernel
theorem dX4_thing_5 : decode cX4_thing 5 = .ok (.iconst 3, 1) := by decide +kernel
theorem dX4_thing_6 : decode cX4_thing 6 = .ok (.invokestatic 162, 3) := by decide +kernel
theorem dX4_thing_9 : decode cX4_thing 9 = .ok (.aload_n 0, 1) := by decide +kernel
theorem dX4_thing_10 : decode cX4_thing 10 = .ok (.getfield 10, 3) := by decide +kernel
theorem dX4_thing_13 : decode cX4_thing 13 = .ok (.iload_n 1, 1) := by decide +kernel
theorem dX4_thing_14 : decode cX4_thing 14 = .ok (.iload_n 2, 1) := by decide +kernel
theorem dX4_thing_15 : decode cX4_thing 15 = .ok (.invokevirtual 169, 3) := by decide +kernel
theorem dX4_thing_18 : decode cX4_thing 18 = .ok (.ireturn, 1) := by decide +kernel
theorem dX4_count_0 : decode cX4_count 0 = .ok (.iload_n 1, 1) := by decide +kernel
theorem dX4_count_1 : decode cX4_count 1 = .ok (.bipush 12, 2) := by decide +kernel
theorem dX4_count_3 : decode cX4_count 3 = .ok (.invokestatic 162, 3) := by decide +kernel
theorem dX4_count_6 : decode cX4_count 6 = .ok (.aload_n 0, 1) := by decide +kernel
theorem dX4_count_7 : decode cX4_count 7 = .ok (.iload_n 1, 1) := by decide +kernel
theorem dX4_count_8 : decode cX4_count 8 = .ok (.invokevirtual 172, 3) := by decide +kernel
theorem dX4_count_11 : decode cX4_count 11 = .ok (.ireturn, 1) := by decide +kernel
theorem dX4_lasts_0 : decode cX4_lasts 0 = .ok (.iload_n 1, 1) := by decide +kernel
theorem dX4_lasts_1 : decode cX4_lasts 1 = .ok (.invokestatic 30, 3) := by decide +kernel
theorem dX4_lasts_4 : decode cX4_lasts 4 = .ok (.aload_n 0, 1) := by decide +kernel
theorem dX4_lasts_5 : decode cX4_lasts 5 = .ok (.getfield 10, 3) := by decide +kernel
theorem dX4_lasts_8 : decode cX4_lasts 8 = .ok (.iload_n 1, 1) := by decide +kernel
theorem dX4_lasts_9 : decode cX4_lasts 9 = .ok (.invokevirtual 175, 3) := by decide +kernel
theorem dX4_lasts_12 : decode cX4_lasts 12 = .ok (.ireturn, 1) := by decide +kernel
theorem dX4_nextForgotten_0 : decode cX4_nextForgotten 0 = .ok (.aload_n 0, 1) := by decide +kernel
theorem dX4_nextForgotten_1 : decode cX4_nextForgotten 1 = .ok (.getfield 10, 3) := by decide +kernel
theorem dX4_nextForgotten_4 : decode cX4_nextForgotten 4 = .ok (.invokevirtual 178, 3) := by decide +kernel
theorem dX4_nextForgotten_7 : decode cX4_nextForgotten 7 = .ok (.ireturn, 1) := by decide +kernel
theorem dX4_carried_0 : decode cX4_carried 0 = .ok (.iload_n 1, 1) := by decide +kernel
theorem dX4_carried_1 : decode cX4_carried 1 = .ok (.invokestatic 30, 3) := by decide +kernel
theorem dX4_carried_4 : decode cX4_carried 4 = .ok (.aload_n 0, 1) := by decide +kernel
theorem dX4_carried_5 : decode cX4_carried 5 = .ok (.getfield 10, 3) := by decide +kernel
theorem dX4_carried_8 : decode cX4_carried 8 = .ok (.iload_n 1, 1) := by decide +kernel
theorem dX4_carried_9 : decode cX4_carried 9 = .ok (.invokevirtual 181, 3) := by decide +kernel
theorem dX4_carried_12 : decode cX4_carried 12 = .ok (.ireturn, 1) := by decide +kernel
theorem dX4_needy_0 : decode cX4_needy 0 = .ok (.aload_n 0, 1) := by decide +kernel
theorem dX4_needy_1 : decode cX4_needy 1 = .ok (.getfield 10, 3) := by decide +kernel
theorem dX4_needy_4 : decode cX4_needy 4 = .ok (.invokevirtual 184, 3) := by decide +kernel
theorem dX4_needy_7 : decode cX4_needy 7 = .ok (.ireturn, 1) := by decide +kernel
theorem dX4_saves_0 : decode cX4_saves 0 = .ok (.iload_n 1, 1) := by decide +kernel
theorem dX4_saves_1 : decode cX4_saves 1 = .ok (.invokestatic 30, 3) := by decide +kernel
theorem dX4_saves_4 : decode cX4_saves 4 = .ok (.aload_n 0, 1) := by decide +kernel
theorem dX4_saves_5 : decode cX4_saves 5 = .ok (.getfield 10, 3) := by decide +kernel
theorem dX4_saves_8 : decode cX4_saves 8 = .ok (.iload_n 1, 1) := by decide +kernel
theorem dX4_saves_9 : decode cX4_saves 9 = .ok (.invokevirtual 76, 3) := by decide +kernel
theorem dX4_saves_12 : decode cX4_saves 12 = .ok (.invokevirtual 187, 3) := by decide +kernel
theorem dX4_saves_15 : decode cX4_saves 15 = .ok (.ireturn, 1) := by decide +kernel
theorem dX4_lit_0 : decode cX4_lit 0 = .ok (.aload_n 0, 1) := by decide +kernel
theorem dX4_lit_1 : decode cX4_lit 1 = .ok (.getfield 10, 3) := by decide +kernel
theorem dX4_lit_4 : decode cX4_lit 4 = .ok (.invokevirtual 190, 3) := by decide +kernel
theorem dX4_lit_7 : decode cX4_lit 7 = .ok (.dreturn, 1) := by decide +kernel
theorem dX4_requireRoom_0 : decode cX4_requireRoom 0 = .ok (.iload_n 0, 1) := by decide +kernel
theorem dX4_requireRoom_1 : decode cX4_requireRoom 1 = .ok (.invokestatic 68, 3) := by decide +kernel
theorem dX4_requireRoom_4 : decode cX4_requireRoom 4 = .ok (.ifCond .ne 13, 3) := by decide +kernel
theorem dX4_requireRoom_7 : decode cX4_requireRoom 7 = .ok (.new 71, 3) := by decide +kernel
theorem dX4_requireRoom_10 : decode cX4_requireRoom 10 = .ok (.dup, 1) := by decide +kernel
theorem dX4_requireRoom_11 : decode cX4_requireRoom 11 = .ok (.ldc 214, 2) := by decide +kernel
theorem dX4_requireRoom_13 : decode cX4_requireRoom 13 = .ok (.invokespecial 75, 3) := by decide +kernel
theorem dX4_requireRoom_16 : decode cX4_requireRoom 16 = .ok (.athrow, 1) := by decide +kernel
theorem dX4_requireRoom_17 : decode cX4_requireRoom 17 = .ok (.return_, 1) := by decide +kernel
theorem dX4_requireKey_0 : decode cX4_requireKey 0 = .ok (.iload_n 0, 1) := by decide +kernel
theorem dX4_requireKey_1 : decode cX4_requireKey 1 = .ok (.ifCond .lt 9, 3) := by decide +kernel
theorem dX4_requireKey_4 : decode cX4_requireKey 4 = .ok (.iload_n 0, 1) := by decide +kernel
theorem dX4_requireKey_5 : decode cX4_requireKey 5 = .ok (.bipush 100, 2) := by decide +kernel
theorem dX4_requireKey_7 : decode cX4_requireKey 7 = .ok (.if_icmp .lt 13, 3) := by decide +kernel
theorem dX4_requireKey_10 : decode cX4_requireKey 10 = .ok (.new 93, 3) := by decide +kernel
theorem dX4_requireKey_13 : decode cX4_requireKey 13 = .ok (.dup, 1) := by decide +kernel
theorem dX4_requireKey_14 : decode cX4_requireKey 14 = .ok (.ldc 216, 2) := by decide +kernel
theorem dX4_requireKey_16 : decode cX4_requireKey 16 = .ok (.invokespecial 97, 3) := by decide +kernel
theorem dX4_requireKey_19 : decode cX4_requireKey 19 = .ok (.athrow, 1) := by decide +kernel
theorem dX4_requireKey_20 : decode cX4_requireKey 20 = .ok (.return_, 1) := by decide +kernel
theorem dX4_requireNumber_0 : decode cX4_requireNumber 0 = .ok (.iload_n 0, 1) := by decide +kernel
theorem dX4_requireNumber_1 : decode cX4_requireNumber 1 = .ok (.ifCond .lt 8, 3) := by decide +kernel
theorem dX4_requireNumber_4 : decode cX4_requireNumber 4 = .ok (.iload_n 0, 1) := by decide +kernel
theorem dX4_requireNumber_5 : decode cX4_requireNumber 5 = .ok (.iload_n 1, 1) := by decide +kernel
theorem dX4_requireNumber_6 : decode cX4_requireNumber 6 = .ok (.if_icmp .lt 13, 3) := by decide +kernel
theorem dX4_requireNumber_9 : decode cX4_requireNumber 9 = .ok (.new 93, 3) := by decide +kernel
theorem dX4_requireNumber_12 : decode cX4_requireNumber 12 = .ok (.dup, 1) := by decide +kernel
theorem dX4_requireNumber_13 : decode cX4_requireNumber 13 = .ok (.ldc 218, 2) := by decide +kernel
theorem dX4_requireNumber_15 : decode cX4_requireNumber 15 = .ok (.invokespecial 97, 3) := by decide +kernel
theorem dX4_requireNumber_18 : decode cX4_requireNumber 18 = .ok (.athrow, 1) := by decide +kernel
theorem dX4_requireNumber_19 : decode cX4_requireNumber 19 = .ok (.return_, 1) := by decide +kernel
theorem dX4_isRoom_0 : decode cX4_isRoom 0 = .ok (.iload_n 0, 1) := by decide +kernel
theorem dX4_isRoom_1 : decode cX4_isRoom 1 = .ok (.ifCond .lt 13, 3) := by decide +kernel
theorem dX4_isRoom_4 : decode cX4_isRoom 4 = .ok (.iload_n 0, 1) := by decide +kernel
theorem dX4_isRoom_5 : decode cX4_isRoom 5 = .ok (.bipush 6, 2) := by decide +kernel
theorem dX4_isRoom_7 : decode cX4_isRoom 7 = .ok (.if_icmp .ge 7, 3) := by decide +kernel
theorem dX4_isRoom_10 : decode cX4_isRoom 10 = .ok (.iconst 1, 1) := by decide +kernel
theorem dX4_isRoom_11 : decode cX4_isRoom 11 = .ok (.goto 4, 3) := by decide +kernel
theorem dX4_isRoom_14 : decode cX4_isRoom 14 = .ok (.iconst 0, 1) := by decide +kernel
theorem dX4_isRoom_15 : decode cX4_isRoom 15 = .ok (.ireturn, 1) := by decide +kernel
theorem dX4_asNumber_0 : decode cX4_asNumber 0 = .ok (.iload_n 0, 1) := by decide +kernel
theorem dX4_asNumber_1 : decode cX4_asNumber 1 = .ok (.ifCond .eq 7, 3) := by decide +kernel
theorem dX4_asNumber_4 : decode cX4_asNumber 4 = .ok (.iconst 1, 1) := by decide +kernel
theorem dX4_asNumber_5 : decode cX4_asNumber 5 = .ok (.goto 4, 3) := by decide +kernel
theorem dX4_asNumber_8 : decode cX4_asNumber 8 = .ok (.iconst 0, 1) := by decide +kernel
theorem dX4_asNumber_9 : decode cX4_asNumber 9 = .ok (.ireturn, 1) := by decide +kernel
theorem dX4_countNumber_0 : decode cX4_countNumber 0 = .ok (.iload_n 1, 1) := by decide +kernel
theorem dX4_countNumber_1 : decode cX4_countNumber 1 = .ok (.tableswitch 147 0 10 #[59, 67, 75, 83, 91, 99, 107, 115, 123, 131, 139], 59) := by decide +kernel
theorem dX4_countNumber_60 : decode cX4_countNumber 60 = .ok (.aload_n 0, 1) := by decide +kernel
theorem dX4_countNumber_61 : decode cX4_countNumber 61 = .ok (.getfield 10, 3) := by decide +kernel
theorem dX4_countNumber_64 : decode cX4_countNumber 64 = .ok (.getfield 220, 3) := by decide +kernel
theorem dX4_countNumber_67 : decode cX4_countNumber 67 = .ok (.ireturn, 1) := by decide +kernel
theorem dX4_countNumber_68 : decode cX4_countNumber 68 = .ok (.aload_n 0, 1) := by decide +kernel
theorem dX4_countNumber_69 : decode cX4_countNumber 69 = .ok (.getfield 10, 3) := by decide +kernel
theorem dX4_countNumber_72 : decode cX4_countNumber 72 = .ok (.getfield 223, 3) := by decide +kernel
theorem dX4_countNumber_75 : decode cX4_countNumber 75 = .ok (.ireturn, 1) := by decide +kernel
theorem dX4_countNumber_76 : decode cX4_countNumber 76 = .ok (.aload_n 0, 1) := by decide +kernel
theorem dX4_countNumber_77 : decode cX4_countNumber 77 = .ok (.getfield 10, 3) := by decide +kernel
theorem dX4_countNumber_80 : decode cX4_countNumber 80 = .ok (.invokevirtual 226, 3) := by decide +kernel
theorem dX4_countNumber_83 : decode cX4_countNumber 83 = .ok (.ireturn, 1) := by decide +kernel
theorem dX4_countNumber_84 : decode cX4_countNumber 84 = .ok (.aload_n 0, 1) := by decide +kernel
theorem dX4_countNumber_85 : decode cX4_countNumber 85 = .ok (.getfield 10, 3) := by decide +kernel
theorem dX4_countNumber_88 : decode cX4_countNumber 88 = .ok (.invokevirtual 229, 3) := by decide +kernel
theorem dX4_countNumber_91 : decode cX4_countNumber 91 = .ok (.ireturn, 1) := by decide +kernel
theorem dX4_countNumber_92 : decode cX4_countNumber 92 = .ok (.aload_n 0, 1) := by decide +kernel
theorem dX4_countNumber_93 : decode cX4_countNumber 93 = .ok (.getfield 10, 3) := by decide +kernel
theorem dX4_countNumber_96 : decode cX4_countNumber 96 = .ok (.getfield 232, 3) := by decide +kernel
theorem dX4_countNumber_99 : decode cX4_countNumber 99 = .ok (.ireturn, 1) := by decide +kernel
theorem dX4_countNumber_100 : decode cX4_countNumber 100 = .ok (.aload_n 0, 1) := by decide +kernel
theorem dX4_countNumber_101 : decode cX4_countNumber 101 = .ok (.getfield 10, 3) := by decide +kernel
theorem dX4_countNumber_104 : decode cX4_countNumber 104 = .ok (.getfield 235, 3) := by decide +kernel
theorem dX4_countNumber_107 : decode cX4_countNumber 107 = .ok (.ireturn, 1) := by decide +kernel
theorem dX4_countNumber_108 : decode cX4_countNumber 108 = .ok (.aload_n 0, 1) := by decide +kernel
theorem dX4_countNumber_109 : decode cX4_countNumber 109 = .ok (.getfield 10, 3) := by decide +kernel
theorem dX4_countNumber_112 : decode cX4_countNumber 112 = .ok (.getfield 238, 3) := by decide +kernel
theorem dX4_countNumber_115 : decode cX4_countNumber 115 = .ok (.ireturn, 1) := by decide +kernel
theorem dX4_countNumber_116 : decode cX4_countNumber 116 = .ok (.aload_n 0, 1) := by decide +kernel
theorem dX4_countNumber_117 : decode cX4_countNumber 117 = .ok (.getfield 10, 3) := by decide +kernel
theorem dX4_countNumber_120 : decode cX4_countNumber 120 = .ok (.getfield 241, 3) := by decide +kernel
theorem dX4_countNumber_123 : decode cX4_countNumber 123 = .ok (.ireturn, 1) := by decide +kernel
theorem dX4_countNumber_124 : decode cX4_countNumber 124 = .ok (.aload_n 0, 1) := by decide +kernel
theorem dX4_countNumber_125 : decode cX4_countNumber 125 = .ok (.getfield 10, 3) := by decide +kernel
theorem dX4_countNumber_128 : decode cX4_countNumber 128 = .ok (.getfield 244, 3) := by decide +kernel
theorem dX4_countNumber_131 : decode cX4_countNumber 131 = .ok (.ireturn, 1) := by decide +kernel
theorem dX4_countNumber_132 : decode cX4_countNumber 132 = .ok (.aload_n 0, 1) := by decide +kernel
theorem dX4_countNumber_133 : decode cX4_countNumber 133 = .ok (.getfield 10, 3) := by decide +kernel
theorem dX4_countNumber_136 : decode cX4_countNumber 136 = .ok (.getfield 247, 3) := by decide +kernel
theorem dX4_countNumber_139 : decode cX4_countNumber 139 = .ok (.ireturn, 1) := by decide +kernel
theorem dX4_countNumber_140 : decode cX4_countNumber 140 = .ok (.aload_n 0, 1) := by decide +kernel
theorem dX4_countNumber_141 : decode cX4_countNumber 141 = .ok (.getfield 10, 3) := by decide +kernel
theorem dX4_countNumber_144 : decode cX4_countNumber 144 = .ok (.getfield 104, 3) := by decide +kernel
theorem dX4_countNumber_147 : decode cX4_countNumber 147 = .ok (.ireturn, 1) := by decide +kernel
theorem dX4_countNumber_148 : decode cX4_countNumber 148 = .ok (.aload_n 0, 1) := by decide +kernel
theorem dX4_countNumber_149 : decode cX4_countNumber 149 = .ok (.getfield 19, 3) := by decide +kernel
theorem dX4_countNumber_152 : decode cX4_countNumber 152 = .ok (.getfield 153, 3) := by decide +kernel
theorem dX4_countNumber_155 : decode cX4_countNumber 155 = .ok (.ireturn, 1) := by decide +kernel
theorem dJ9_floorMod_7cf53_0 : decode cJ9_floorMod_7cf53 0 = .ok (.iload_n 0, 1) := by decide +kernel
theorem dJ9_floorMod_7cf53_1 : decode cJ9_floorMod_7cf53 1 = .ok (.iload_n 1, 1) := by decide +kernel
theorem dJ9_floorMod_7cf53_2 : decode cJ9_floorMod_7cf53 2 = .ok (.irem, 1) := by decide +kernel
theorem dJ9_floorMod_7cf53_3 : decode cJ9_floorMod_7cf53 3 = .ok (.istore_n 2, 1) := by decide +kernel
theorem dJ9_floorMod_7cf53_4 : decode cJ9_floorMod_7cf53 4 = .ok (.iload_n 0, 1) := by decide +kernel
theorem dJ9_floorMod_7cf53_5 : decode cJ9_floorMod_7cf53 5 = .ok (.iload_n 1, 1) := by decide +kernel
theorem dJ9_floorMod_7cf53_6 : decode cJ9_floorMod_7cf53 6 = .ok (.ixor, 1) := by decide +kernel
theorem dJ9_floorMod_7cf53_7 : decode cJ9_floorMod_7cf53 7 = .ok (.ifCond .ge 11, 3) := by decide +kernel
theorem dJ9_floorMod_7cf53_10 : decode cJ9_floorMod_7cf53 10 = .ok (.iload_n 2, 1) := by decide +kernel
theorem dJ9_floorMod_7cf53_11 : decode cJ9_floorMod_7cf53 11 = .ok (.ifCond .eq 7, 3) := by decide +kernel
theorem dJ9_floorMod_7cf53_14 : decode cJ9_floorMod_7cf53 14 = .ok (.iload_n 2, 1) := by decide +kernel
theorem dJ9_floorMod_7cf53_15 : decode cJ9_floorMod_7cf53 15 = .ok (.iload_n 1, 1) := by decide +kernel
theorem dJ9_floorMod_7cf53_16 : decode cJ9_floorMod_7cf53 16 = .ok (.iadd, 1) := by decide +kernel
theorem dJ9_floorMod_7cf53_17 : decode cJ9_floorMod_7cf53 17 = .ok (.ireturn, 1) := by decide +kernel
theorem dJ9_floorMod_7cf53_18 : decode cJ9_floorMod_7cf53 18 = .ok (.iload_n 2, 1) := by decide +kernel
theorem dJ9_floorMod_7cf53_19 : decode cJ9_floorMod_7cf53 19 = .ok (.ireturn, 1) := by decide +kernel
theorem dJ9_max_7cf53_0 : decode cJ9_max_7cf53 0 = .ok (.iload_n 0, 1) := by decide +kernel
theorem dJ9_max_7cf53_1 : decode cJ9_max_7cf53 1 = .ok (.iload_n 1, 1) := by decide +kernel
theorem dJ9_max_7cf53_2 : decode cJ9_max_7cf53 2 = .ok (.if_icmp .lt 7, 3) := by decide +kernel
theorem dJ9_max_7cf53_5 : decode cJ9_max_7cf53 5 = .ok (.iload_n 0, 1) := by decide +kernel
theorem dJ9_max_7cf53_6 : decode cJ9_max_7cf53 6 = .ok (.goto 4, 3) := by decide +kernel
theorem dJ9_max_7cf53_9 : decode cJ9_max_7cf53 9 = .ok (.iload_n 1, 1) := by decide +kernel
theorem dJ9_max_7cf53_10 : decode cJ9_max_7cf53 10 = .ok (.ireturn, 1) := by decide +kernel
theorem dJ9_min_7cf53_0 : decode cJ9_min_7cf53 0 = .ok (.iload_n 0, 1) := by decide +kernel
theorem dJ9_min_7cf53_1 : decode cJ9_min_7cf53 1 = .ok (.iload_n 1, 1) := by decide +kernel
theorem dJ9_min_7cf53_2 : decode cJ9_min_7cf53 2 = .ok (.if_icmp .gt 7, 3) := by decide +kernel
theorem dJ9_min_7cf53_5 : decode cJ9_min_7cf53 5 = .ok (.iload_n 0, 1) := by decide +kernel
theorem dJ9_min_7cf53_6 : decode cJ9_min_7cf53 6 = .ok (.goto 4, 3) := by decide +kernel
theorem dJ9_min_7cf53_9 : decode cJ9_min_7cf53 9 = .ok (.iload_n 1, 1) := by decide +kernel
theorem dJ9_min_7cf53_10 : decode cJ9_min_7cf53 10 = .ok (.ireturn, 1) := by decide +kernel

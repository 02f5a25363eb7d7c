/-! decode rows (printed by program) -/
theorem dX5_init_0 : decode cX5_init 0 = .ok (.aload_n 0, 1) := by decide +kernel
theorem dX5_init_1 : decode cX5_init 1 = .ok (.invokespecial 1, 3) := by decide +kernel
theorem dX5_init_4 : decode cX5_init 4 = .ok (.aload_n 0, 1) := by decide +kernel
theorem dX5_init_5 : decode cX5_init 5 = .ok (.bipush 99, 2) := by decide +kernel
theorem dX5_init_7 : decode cX5_init 7 = .ok (.newarray .int, 2) := by decide +kernel
theorem dX5_init_9 : decode cX5_init 9 = .ok (.putfield 7, 3) := by decide +kernel
theorem dX5_init_12 : decode cX5_init 12 = .ok (.aload_n 0, 1) := by decide +kernel
theorem dX5_init_13 : decode cX5_init 13 = .ok (.bipush 99, 2) := by decide +kernel
theorem dX5_init_15 : decode cX5_init 15 = .ok (.newarray .int, 2) := by decide +kernel
theorem dX5_init_17 : decode cX5_init 17 = .ok (.putfield 13, 3) := by decide +kernel
theorem dX5_init_20 : decode cX5_init 20 = .ok (.aload_n 0, 1) := by decide +kernel
theorem dX5_init_21 : decode cX5_init 21 = .ok (.sipush 594, 3) := by decide +kernel
theorem dX5_init_24 : decode cX5_init 24 = .ok (.newarray .int, 2) := by decide +kernel
theorem dX5_init_26 : decode cX5_init 26 = .ok (.putfield 16, 3) := by decide +kernel
theorem dX5_init_29 : decode cX5_init 29 = .ok (.aload_n 0, 1) := by decide +kernel
theorem dX5_init_30 : decode cX5_init 30 = .ok (.bipush 60, 2) := by decide +kernel
theorem dX5_init_32 : decode cX5_init 32 = .ok (.newarray .int, 2) := by decide +kernel
theorem dX5_init_34 : decode cX5_init 34 = .ok (.putfield 19, 3) := by decide +kernel
theorem dX5_init_37 : decode cX5_init 37 = .ok (.aload_n 0, 1) := by decide +kernel
theorem dX5_init_38 : decode cX5_init 38 = .ok (.bipush 63, 2) := by decide +kernel
theorem dX5_init_40 : decode cX5_init 40 = .ok (.newarray .int, 2) := by decide +kernel
theorem dX5_init_42 : decode cX5_init 42 = .ok (.putfield 22, 3) := by decide +kernel
theorem dX5_init_45 : decode cX5_init 45 = .ok (.aload_n 0, 1) := by decide +kernel
theorem dX5_init_46 : decode cX5_init 46 = .ok (.getfield 7, 3) := by decide +kernel
theorem dX5_init_49 : decode cX5_init 49 = .ok (.iconst 0, 1) := by decide +kernel
theorem dX5_init_50 : decode cX5_init 50 = .ok (.bipush 12, 2) := by decide +kernel
theorem dX5_init_52 : decode cX5_init 52 = .ok (.iastore, 1) := by decide +kernel
theorem dX5_init_53 : decode cX5_init 53 = .ok (.aload_n 0, 1) := by decide +kernel
theorem dX5_init_54 : decode cX5_init 54 = .ok (.getfield 7, 3) := by decide +kernel
theorem dX5_init_57 : decode cX5_init 57 = .ok (.iconst 1, 1) := by decide +kernel
theorem dX5_init_58 : decode cX5_init 58 = .ok (.bipush 12, 2) := by decide +kernel
theorem dX5_init_60 : decode cX5_init 60 = .ok (.iastore, 1) := by decide +kernel
theorem dX5_init_61 : decode cX5_init 61 = .ok (.aload_n 0, 1) := by decide +kernel
theorem dX5_init_62 : decode cX5_init 62 = .ok (.getfield 7, 3) := by decide +kernel
theorem dX5_init_65 : decode cX5_init 65 = .ok (.bipush 7, 2) := by decide +kernel
theorem dX5_init_67 : decode cX5_init 67 = .ok (.iconst (-1), 1) := by decide +kernel
theorem dX5_init_68 : decode cX5_init 68 = .ok (.iastore, 1) := by decide +kernel
theorem dX5_init_69 : decode cX5_init 69 = .ok (.iconst 0, 1) := by decide +kernel
theorem dX5_init_70 : decode cX5_init 70 = .ok (.istore_n 1, 1) := by decide +kernel
theorem dX5_init_71 : decode cX5_init 71 = .ok (.iload_n 1, 1) := by decide +kernel
theorem dX5_init_72 : decode cX5_init 72 = .ok (.bipush 6, 2) := by decide +kernel
theorem dX5_init_74 : decode cX5_init 74 = .ok (.if_icmp .ge 38, 3) := by decide +kernel
theorem dX5_init_77 : decode cX5_init 77 = .ok (.aload_n 0, 1) := by decide +kernel
theorem dX5_init_78 : decode cX5_init 78 = .ok (.getfield 7, 3) := by decide +kernel
theorem dX5_init_81 : decode cX5_init 81 = .ok (.bipush 9, 2) := by decide +kernel
theorem dX5_init_83 : decode cX5_init 83 = .ok (.bipush 15, 2) := by decide +kernel
theorem dX5_init_85 : decode cX5_init 85 = .ok (.iload_n 1, 1) := by decide +kernel
theorem dX5_init_86 : decode cX5_init 86 = .ok (.imul, 1) := by decide +kernel
theorem dX5_init_87 : decode cX5_init 87 = .ok (.iadd, 1) := by decide +kernel
theorem dX5_init_88 : decode cX5_init 88 = .ok (.bipush 10, 2) := by decide +kernel
theorem dX5_init_90 : decode cX5_init 90 = .ok (.iastore, 1) := by decide +kernel
theorem dX5_init_91 : decode cX5_init 91 = .ok (.aload_n 0, 1) := by decide +kernel
theorem dX5_init_92 : decode cX5_init 92 = .ok (.getfield 7, 3) := by decide +kernel
theorem dX5_init_95 : decode cX5_init 95 = .ok (.bipush 9, 2) := by decide +kernel
theorem dX5_init_97 : decode cX5_init 97 = .ok (.bipush 15, 2) := by decide +kernel
theorem dX5_init_99 : decode cX5_init 99 = .ok (.iload_n 1, 1) := by decide +kernel
theorem dX5_init_100 : decode cX5_init 100 = .ok (.imul, 1) := by decide +kernel
theorem dX5_init_101 : decode cX5_init 101 = .ok (.iadd, 1) := by decide +kernel
theorem dX5_init_102 : decode cX5_init 102 = .ok (.iconst 5, 1) := by decide +kernel
theorem dX5_init_103 : decode cX5_init 103 = .ok (.iadd, 1) := by decide +kernel
theorem dX5_init_104 : decode cX5_init 104 = .ok (.iconst 1, 1) := by decide +kernel
theorem dX5_init_105 : decode cX5_init 105 = .ok (.iastore, 1) := by decide +kernel
theorem dX5_init_106 : decode cX5_init 106 = .ok (.iinc 1 1, 3) := by decide +kernel
theorem dX5_init_109 : decode cX5_init 109 = .ok (.goto (-38), 3) := by decide +kernel
theorem dX5_init_112 : decode cX5_init 112 = .ok (.return_, 1) := by decide +kernel
theorem dX5_thrown_0 : decode cX5_thrown 0 = .ok (.aload_n 0, 1) := by decide +kernel
theorem dX5_thrown_1 : decode cX5_thrown 1 = .ok (.getfield 25, 3) := by decide +kernel
theorem dX5_thrown_4 : decode cX5_thrown 4 = .ok (.ireturn, 1) := by decide +kernel
theorem dX5_fails_0 : decode cX5_fails 0 = .ok (.aload_n 0, 1) := by decide +kernel
theorem dX5_fails_1 : decode cX5_fails 1 = .ok (.iload_n 1, 1) := by decide +kernel
theorem dX5_fails_2 : decode cX5_fails 2 = .ok (.putfield 25, 3) := by decide +kernel
theorem dX5_fails_5 : decode cX5_fails 5 = .ok (.iconst 0, 1) := by decide +kernel
theorem dX5_fails_6 : decode cX5_fails 6 = .ok (.ireturn, 1) := by decide +kernel
theorem dX5_in_0 : decode cX5_in 0 = .ok (.iload_n 0, 1) := by decide +kernel
theorem dX5_in_1 : decode cX5_in 1 = .ok (.iload_n 1, 1) := by decide +kernel
theorem dX5_in_2 : decode cX5_in 2 = .ok (.if_icmp .lt 12, 3) := by decide +kernel
theorem dX5_in_5 : decode cX5_in 5 = .ok (.iload_n 0, 1) := by decide +kernel
theorem dX5_in_6 : decode cX5_in 6 = .ok (.iload_n 2, 1) := by decide +kernel
theorem dX5_in_7 : decode cX5_in 7 = .ok (.if_icmp .gt 7, 3) := by decide +kernel
theorem dX5_in_10 : decode cX5_in 10 = .ok (.iconst 1, 1) := by decide +kernel
theorem dX5_in_11 : decode cX5_in 11 = .ok (.goto 4, 3) := by decide +kernel
theorem dX5_in_14 : decode cX5_in 14 = .ok (.iconst 0, 1) := by decide +kernel
theorem dX5_in_15 : decode cX5_in 15 = .ok (.ireturn, 1) := by decide +kernel
theorem dX5_isRoom_0 : decode cX5_isRoom 0 = .ok (.iload_n 0, 1) := by decide +kernel
theorem dX5_isRoom_1 : decode cX5_isRoom 1 = .ok (.iconst 0, 1) := by decide +kernel
theorem dX5_isRoom_2 : decode cX5_isRoom 2 = .ok (.iconst 5, 1) := by decide +kernel
theorem dX5_isRoom_3 : decode cX5_isRoom 3 = .ok (.invokestatic 29, 3) := by decide +kernel
theorem dX5_isRoom_6 : decode cX5_isRoom 6 = .ok (.ireturn, 1) := by decide +kernel
theorem dX5_of_0 : decode cX5_of 0 = .ok (.aload_n 0, 1) := by decide +kernel
theorem dX5_of_1 : decode cX5_of 1 = .ok (.bipush 9, 2) := by decide +kernel
theorem dX5_of_3 : decode cX5_of 3 = .ok (.bipush 15, 2) := by decide +kernel
theorem dX5_of_5 : decode cX5_of 5 = .ok (.iload_n 1, 1) := by decide +kernel
theorem dX5_of_6 : decode cX5_of 6 = .ok (.imul, 1) := by decide +kernel
theorem dX5_of_7 : decode cX5_of 7 = .ok (.iadd, 1) := by decide +kernel
theorem dX5_of_8 : decode cX5_of 8 = .ok (.iload_n 2, 1) := by decide +kernel
theorem dX5_of_9 : decode cX5_of 9 = .ok (.iadd, 1) := by decide +kernel
theorem dX5_of_10 : decode cX5_of 10 = .ok (.iaload, 1) := by decide +kernel
theorem dX5_of_11 : decode cX5_of 11 = .ok (.ireturn, 1) := by decide +kernel
theorem dX5_isLit_0 : decode cX5_isLit 0 = .ok (.aload_n 0, 1) := by decide +kernel
theorem dX5_isLit_1 : decode cX5_isLit 1 = .ok (.iload_n 1, 1) := by decide +kernel
theorem dX5_isLit_2 : decode cX5_isLit 2 = .ok (.iconst 1, 1) := by decide +kernel
theorem dX5_isLit_3 : decode cX5_isLit 3 = .ok (.invokestatic 33, 3) := by decide +kernel
theorem dX5_isLit_6 : decode cX5_isLit 6 = .ok (.iconst 1, 1) := by decide +kernel
theorem dX5_isLit_7 : decode cX5_isLit 7 = .ok (.if_icmp .ne 7, 3) := by decide +kernel
theorem dX5_isLit_10 : decode cX5_isLit 10 = .ok (.iconst 1, 1) := by decide +kernel
theorem dX5_isLit_11 : decode cX5_isLit 11 = .ok (.goto 4, 3) := by decide +kernel
theorem dX5_isLit_14 : decode cX5_isLit 14 = .ok (.iconst 0, 1) := by decide +kernel
theorem dX5_isLit_15 : decode cX5_isLit 15 = .ok (.ireturn, 1) := by decide +kernel
theorem dX5_burning_0 : decode cX5_burning 0 = .ok (.iconst 0, 1) := by decide +kernel
theorem dX5_burning_1 : decode cX5_burning 1 = .ok (.istore_n 1, 1) := by decide +kernel
theorem dX5_burning_2 : decode cX5_burning 2 = .ok (.iconst 0, 1) := by decide +kernel
theorem dX5_burning_3 : decode cX5_burning 3 = .ok (.istore_n 2, 1) := by decide +kernel
theorem dX5_burning_4 : decode cX5_burning 4 = .ok (.iload_n 2, 1) := by decide +kernel
theorem dX5_burning_5 : decode cX5_burning 5 = .ok (.bipush 6, 2) := by decide +kernel
theorem dX5_burning_7 : decode cX5_burning 7 = .ok (.if_icmp .ge 18, 3) := by decide +kernel
theorem dX5_burning_10 : decode cX5_burning 10 = .ok (.iload_n 1, 1) := by decide +kernel
theorem dX5_burning_11 : decode cX5_burning 11 = .ok (.aload_n 0, 1) := by decide +kernel
theorem dX5_burning_12 : decode cX5_burning 12 = .ok (.iload_n 2, 1) := by decide +kernel
theorem dX5_burning_13 : decode cX5_burning 13 = .ok (.iconst 1, 1) := by decide +kernel
theorem dX5_burning_14 : decode cX5_burning 14 = .ok (.invokestatic 33, 3) := by decide +kernel
theorem dX5_burning_17 : decode cX5_burning 17 = .ok (.iadd, 1) := by decide +kernel
theorem dX5_burning_18 : decode cX5_burning 18 = .ok (.istore_n 1, 1) := by decide +kernel
theorem dX5_burning_19 : decode cX5_burning 19 = .ok (.iinc 2 1, 3) := by decide +kernel
theorem dX5_burning_22 : decode cX5_burning 22 = .ok (.goto (-18), 3) := by decide +kernel
theorem dX5_burning_25 : decode cX5_burning 25 = .ok (.iload_n 1, 1) := by decide +kernel
theorem dX5_burning_26 : decode cX5_burning 26 = .ok (.ireturn, 1) := by decide +kernel
theorem dX5_copies_0 : decode cX5_copies 0 = .ok (.iconst 0, 1) := by decide +kernel
theorem dX5_copies_1 : decode cX5_copies 1 = .ok (.istore 4, 2) := by decide +kernel
theorem dX5_copies_3 : decode cX5_copies 3 = .ok (.iload 4, 2) := by decide +kernel
theorem dX5_copies_5 : decode cX5_copies 5 = .ok (.bipush 99, 2) := by decide +kernel
theorem dX5_copies_7 : decode cX5_copies 7 = .ok (.if_icmp .ge 21, 3) := by decide +kernel
theorem dX5_copies_10 : decode cX5_copies 10 = .ok (.aload_n 2, 1) := by decide +kernel
theorem dX5_copies_11 : decode cX5_copies 11 = .ok (.iload_n 3, 1) := by decide +kernel
theorem dX5_copies_12 : decode cX5_copies 12 = .ok (.iload 4, 2) := by decide +kernel
theorem dX5_copies_14 : decode cX5_copies 14 = .ok (.iadd, 1) := by decide +kernel
theorem dX5_copies_15 : decode cX5_copies 15 = .ok (.aload_n 0, 1) := by decide +kernel
theorem dX5_copies_16 : decode cX5_copies 16 = .ok (.iload_n 1, 1) := by decide +kernel
theorem dX5_copies_17 : decode cX5_copies 17 = .ok (.iload 4, 2) := by decide +kernel
theorem dX5_copies_19 : decode cX5_copies 19 = .ok (.iadd, 1) := by decide +kernel
theorem dX5_copies_20 : decode cX5_copies 20 = .ok (.iaload, 1) := by decide +kernel
theorem dX5_copies_21 : decode cX5_copies 21 = .ok (.iastore, 1) := by decide +kernel
theorem dX5_copies_22 : decode cX5_copies 22 = .ok (.iinc 4 1, 3) := by decide +kernel
theorem dX5_copies_25 : decode cX5_copies 25 = .ok (.goto (-22), 3) := by decide +kernel
theorem dX5_copies_28 : decode cX5_copies 28 = .ok (.return_, 1) := by decide +kernel
theorem dX5_keepsState_0 : decode cX5_keepsState 0 = .ok (.aload_n 0, 1) := by decide +kernel
theorem dX5_keepsState_1 : decode cX5_keepsState 1 = .ok (.getfield 37, 3) := by decide +kernel
theorem dX5_keepsState_4 : decode cX5_keepsState 4 = .ok (.bipush 6, 2) := by decide +kernel
theorem dX5_keepsState_6 : decode cX5_keepsState 6 = .ok (.if_icmp .ne 43, 3) := by decide +kernel
theorem dX5_keepsState_9 : decode cX5_keepsState 9 = .ok (.iconst 0, 1) := by decide +kernel
theorem dX5_keepsState_10 : decode cX5_keepsState 10 = .ok (.istore_n 1, 1) := by decide +kernel
theorem dX5_keepsState_11 : decode cX5_keepsState 11 = .ok (.iload_n 1, 1) := by decide +kernel
theorem dX5_keepsState_12 : decode cX5_keepsState 12 = .ok (.sipush 495, 3) := by decide +kernel
theorem dX5_keepsState_15 : decode cX5_keepsState 15 = .ok (.if_icmp .ge 24, 3) := by decide +kernel
theorem dX5_keepsState_18 : decode cX5_keepsState 18 = .ok (.aload_n 0, 1) := by decide +kernel
theorem dX5_keepsState_19 : decode cX5_keepsState 19 = .ok (.getfield 16, 3) := by decide +kernel
theorem dX5_keepsState_22 : decode cX5_keepsState 22 = .ok (.iload_n 1, 1) := by decide +kernel
theorem dX5_keepsState_23 : decode cX5_keepsState 23 = .ok (.aload_n 0, 1) := by decide +kernel
theorem dX5_keepsState_24 : decode cX5_keepsState 24 = .ok (.getfield 16, 3) := by decide +kernel
theorem dX5_keepsState_27 : decode cX5_keepsState 27 = .ok (.iload_n 1, 1) := by decide +kernel
theorem dX5_keepsState_28 : decode cX5_keepsState 28 = .ok (.bipush 99, 2) := by decide +kernel
theorem dX5_keepsState_30 : decode cX5_keepsState 30 = .ok (.iadd, 1) := by decide +kernel
theorem dX5_keepsState_31 : decode cX5_keepsState 31 = .ok (.iaload, 1) := by decide +kernel
theorem dX5_keepsState_32 : decode cX5_keepsState 32 = .ok (.iastore, 1) := by decide +kernel
theorem dX5_keepsState_33 : decode cX5_keepsState 33 = .ok (.iinc 1 1, 3) := by decide +kernel
theorem dX5_keepsState_36 : decode cX5_keepsState 36 = .ok (.goto (-25), 3) := by decide +kernel
theorem dX5_keepsState_39 : decode cX5_keepsState 39 = .ok (.aload_n 0, 1) := by decide +kernel
theorem dX5_keepsState_40 : decode cX5_keepsState 40 = .ok (.dup, 1) := by decide +kernel
theorem dX5_keepsState_41 : decode cX5_keepsState 41 = .ok (.getfield 37, 3) := by decide +kernel
theorem dX5_keepsState_44 : decode cX5_keepsState 44 = .ok (.iconst 1, 1) := by decide +kernel
theorem dX5_keepsState_45 : decode cX5_keepsState 45 = .ok (.isub, 1) := by decide +kernel
theorem dX5_keepsState_46 : decode cX5_keepsState 46 = .ok (.putfield 37, 3) := by decide +kernel
theorem dX5_keepsState_49 : decode cX5_keepsState 49 = .ok (.aload_n 0, 1) := by decide +kernel
theorem dX5_keepsState_50 : decode cX5_keepsState 50 = .ok (.getfield 7, 3) := by decide +kernel
theorem dX5_keepsState_53 : decode cX5_keepsState 53 = .ok (.iconst 0, 1) := by decide +kernel
theorem dX5_keepsState_54 : decode cX5_keepsState 54 = .ok (.aload_n 0, 1) := by decide +kernel
theorem dX5_keepsState_55 : decode cX5_keepsState 55 = .ok (.getfield 16, 3) := by decide +kernel
theorem dX5_keepsState_58 : decode cX5_keepsState 58 = .ok (.bipush 99, 2) := by decide +kernel
theorem dX5_keepsState_60 : decode cX5_keepsState 60 = .ok (.aload_n 0, 1) := by decide +kernel
theorem dX5_keepsState_61 : decode cX5_keepsState 61 = .ok (.getfield 37, 3) := by decide +kernel
theorem dX5_keepsState_64 : decode cX5_keepsState 64 = .ok (.imul, 1) := by decide +kernel
theorem dX5_keepsState_65 : decode cX5_keepsState 65 = .ok (.invokestatic 40, 3) := by decide +kernel
theorem dX5_keepsState_68 : decode cX5_keepsState 68 = .ok (.aload_n 0, 1) := by decide +kernel
theorem dX5_keepsState_69 : decode cX5_keepsState 69 = .ok (.dup, 1) := by decide +kernel
theorem dX5_keepsState_70 : decode cX5_keepsState 70 = .ok (.getfield 37, 3) := by decide +kernel
theorem dX5_keepsState_73 : decode cX5_keepsState 73 = .ok (.iconst 1, 1) := by decide +kernel
theorem dX5_keepsState_74 : decode cX5_keepsState 74 = .ok (.iadd, 1) := by decide +kernel
theorem dX5_keepsState_75 : decode cX5_keepsState 75 = .ok (.putfield 37, 3) := by decide +kernel
theorem dX5_keepsState_78 : decode cX5_keepsState 78 = .ok (.return_, 1) := by decide +kernel
theorem dX5_undo_0 : decode cX5_undo 0 = .ok (.aload_n 0, 1) := by decide +kernel
theorem dX5_undo_1 : decode cX5_undo 1 = .ok (.iconst 0, 1) := by decide +kernel
theorem dX5_undo_2 : decode cX5_undo 2 = .ok (.putfield 25, 3) := by decide +kernel
theorem dX5_undo_5 : decode cX5_undo 5 = .ok (.aload_n 0, 1) := by decide +kernel
theorem dX5_undo_6 : decode cX5_undo 6 = .ok (.getfield 37, 3) := by decide +kernel
theorem dX5_undo_9 : decode cX5_undo 9 = .ok (.ifCond .ne 9, 3) := by decide +kernel
theorem dX5_undo_12 : decode cX5_undo 12 = .ok (.aload_n 0, 1) := by decide +kernel
theorem dX5_undo_13 : decode cX5_undo 13 = .ok (.iconst 1, 1) := by decide +kernel
theorem dX5_undo_14 : decode cX5_undo 14 = .ok (.invokevirtual 44, 3) := by decide +kernel
theorem dX5_undo_17 : decode cX5_undo 17 = .ok (.ireturn, 1) := by decide +kernel
theorem dX5_undo_18 : decode cX5_undo 18 = .ok (.aload_n 0, 1) := by decide +kernel
theorem dX5_undo_19 : decode cX5_undo 19 = .ok (.dup, 1) := by decide +kernel
theorem dX5_undo_20 : decode cX5_undo 20 = .ok (.getfield 37, 3) := by decide +kernel
theorem dX5_undo_23 : decode cX5_undo 23 = .ok (.iconst 1, 1) := by decide +kernel
theorem dX5_undo_24 : decode cX5_undo 24 = .ok (.isub, 1) := by decide +kernel
theorem dX5_undo_25 : decode cX5_undo 25 = .ok (.putfield 37, 3) := by decide +kernel
theorem dX5_undo_28 : decode cX5_undo 28 = .ok (.aload_n 0, 1) := by decide +kernel
theorem dX5_undo_29 : decode cX5_undo 29 = .ok (.getfield 16, 3) := by decide +kernel
theorem dX5_undo_32 : decode cX5_undo 32 = .ok (.bipush 99, 2) := by decide +kernel
theorem dX5_undo_34 : decode cX5_undo 34 = .ok (.aload_n 0, 1) := by decide +kernel
theorem dX5_undo_35 : decode cX5_undo 35 = .ok (.getfield 37, 3) := by decide +kernel
theorem dX5_undo_38 : decode cX5_undo 38 = .ok (.imul, 1) := by decide +kernel
theorem dX5_undo_39 : decode cX5_undo 39 = .ok (.aload_n 0, 1) := by decide +kernel
theorem dX5_undo_40 : decode cX5_undo 40 = .ok (.getfield 7, 3) := by decide +kernel
theorem dX5_undo_43 : decode cX5_undo 43 = .ok (.iconst 0, 1) := by decide +kernel
theorem dX5_undo_44 : decode cX5_undo 44 = .ok (.invokestatic 40, 3) := by decide +kernel
theorem dX5_undo_47 : decode cX5_undo 47 = .ok (.aload_n 0, 1) := by decide +kernel
theorem dX5_undo_48 : decode cX5_undo 48 = .ok (.getfield 37, 3) := by decide +kernel
theorem dX5_undo_51 : decode cX5_undo 51 = .ok (.ireturn, 1) := by decide +kernel
theorem dX5_mayStrike_0 : decode cX5_mayStrike 0 = .ok (.aload_n 0, 1) := by decide +kernel
theorem dX5_mayStrike_1 : decode cX5_mayStrike 1 = .ok (.invokestatic 48, 3) := by decide +kernel
theorem dX5_mayStrike_4 : decode cX5_mayStrike 4 = .ok (.ifCond .ne 16, 3) := by decide +kernel
theorem dX5_mayStrike_7 : decode cX5_mayStrike 7 = .ok (.aload_n 0, 1) := by decide +kernel
theorem dX5_mayStrike_8 : decode cX5_mayStrike 8 = .ok (.iload_n 1, 1) := by decide +kernel
theorem dX5_mayStrike_9 : decode cX5_mayStrike 9 = .ok (.iconst 0, 1) := by decide +kernel
theorem dX5_mayStrike_10 : decode cX5_mayStrike 10 = .ok (.invokestatic 33, 3) := by decide +kernel
theorem dX5_mayStrike_13 : decode cX5_mayStrike 13 = .ok (.ifCond .le 7, 3) := by decide +kernel
theorem dX5_mayStrike_16 : decode cX5_mayStrike 16 = .ok (.iconst 1, 1) := by decide +kernel
theorem dX5_mayStrike_17 : decode cX5_mayStrike 17 = .ok (.goto 4, 3) := by decide +kernel
theorem dX5_mayStrike_20 : decode cX5_mayStrike 20 = .ok (.iconst 0, 1) := by decide +kernel
theorem dX5_mayStrike_21 : decode cX5_mayStrike 21 = .ok (.ireturn, 1) := by decide +kernel
theorem dX5_isOpen_0 : decode cX5_isOpen 0 = .ok (.iload_n 2, 1) := by decide +kernel
theorem dX5_isOpen_1 : decode cX5_isOpen 1 = .ok (.iload_n 1, 1) := by decide +kernel
theorem dX5_isOpen_2 : decode cX5_isOpen 2 = .ok (.iconst 1, 1) := by decide +kernel
theorem dX5_isOpen_3 : decode cX5_isOpen 3 = .ok (.iadd, 1) := by decide +kernel
theorem dX5_isOpen_4 : decode cX5_isOpen 4 = .ok (.bipush 6, 2) := by decide +kernel
theorem dX5_isOpen_6 : decode cX5_isOpen 6 = .ok (.irem, 1) := by decide +kernel
theorem dX5_isOpen_7 : decode cX5_isOpen 7 = .ok (.if_icmp .ne 13, 3) := by decide +kernel
theorem dX5_isOpen_10 : decode cX5_isOpen 10 = .ok (.aload_n 0, 1) := by decide +kernel
theorem dX5_isOpen_11 : decode cX5_isOpen 11 = .ok (.iload_n 1, 1) := by decide +kernel
theorem dX5_isOpen_12 : decode cX5_isOpen 12 = .ok (.iconst 5, 1) := by decide +kernel
theorem dX5_isOpen_13 : decode cX5_isOpen 13 = .ok (.invokestatic 33, 3) := by decide +kernel
theorem dX5_isOpen_16 : decode cX5_isOpen 16 = .ok (.iconst 1, 1) := by decide +kernel
theorem dX5_isOpen_17 : decode cX5_isOpen 17 = .ok (.if_icmp .eq 23, 3) := by decide +kernel
theorem dX5_isOpen_20 : decode cX5_isOpen 20 = .ok (.iload_n 1, 1) := by decide +kernel
theorem dX5_isOpen_21 : decode cX5_isOpen 21 = .ok (.iload_n 2, 1) := by decide +kernel
theorem dX5_isOpen_22 : decode cX5_isOpen 22 = .ok (.iconst 1, 1) := by decide +kernel
theorem dX5_isOpen_23 : decode cX5_isOpen 23 = .ok (.iadd, 1) := by decide +kernel
theorem dX5_isOpen_24 : decode cX5_isOpen 24 = .ok (.bipush 6, 2) := by decide +kernel
theorem dX5_isOpen_26 : decode cX5_isOpen 26 = .ok (.irem, 1) := by decide +kernel
theorem dX5_isOpen_27 : decode cX5_isOpen 27 = .ok (.if_icmp .ne 17, 3) := by decide +kernel
theorem dX5_isOpen_30 : decode cX5_isOpen 30 = .ok (.aload_n 0, 1) := by decide +kernel
theorem dX5_isOpen_31 : decode cX5_isOpen 31 = .ok (.iload_n 2, 1) := by decide +kernel
theorem dX5_isOpen_32 : decode cX5_isOpen 32 = .ok (.iconst 5, 1) := by decide +kernel
theorem dX5_isOpen_33 : decode cX5_isOpen 33 = .ok (.invokestatic 33, 3) := by decide +kernel
theorem dX5_isOpen_36 : decode cX5_isOpen 36 = .ok (.iconst 1, 1) := by decide +kernel
theorem dX5_isOpen_37 : decode cX5_isOpen 37 = .ok (.if_icmp .ne 7, 3) := by decide +kernel
theorem dX5_isOpen_40 : decode cX5_isOpen 40 = .ok (.iconst 1, 1) := by decide +kernel
theorem dX5_isOpen_41 : decode cX5_isOpen 41 = .ok (.goto 4, 3) := by decide +kernel
theorem dX5_isOpen_44 : decode cX5_isOpen 44 = .ok (.iconst 0, 1) := by decide +kernel
theorem dX5_isOpen_45 : decode cX5_isOpen 45 = .ok (.ireturn, 1) := by decide +kernel
theorem dX5_mayLight_0 : decode cX5_mayLight 0 = .ok (.aload_n 0, 1) := by decide +kernel
theorem dX5_mayLight_1 : decode cX5_mayLight 1 = .ok (.iload_n 1, 1) := by decide +kernel
theorem dX5_mayLight_2 : decode cX5_mayLight 2 = .ok (.invokestatic 52, 3) := by decide +kernel
theorem dX5_mayLight_5 : decode cX5_mayLight 5 = .ok (.ifCond .ne 33, 3) := by decide +kernel
theorem dX5_mayLight_8 : decode cX5_mayLight 8 = .ok (.aload_n 0, 1) := by decide +kernel
theorem dX5_mayLight_9 : decode cX5_mayLight 9 = .ok (.iload_n 1, 1) := by decide +kernel
theorem dX5_mayLight_10 : decode cX5_mayLight 10 = .ok (.iconst 0, 1) := by decide +kernel
theorem dX5_mayLight_11 : decode cX5_mayLight 11 = .ok (.invokestatic 33, 3) := by decide +kernel
theorem dX5_mayLight_14 : decode cX5_mayLight 14 = .ok (.ifCond .le 24, 3) := by decide +kernel
theorem dX5_mayLight_17 : decode cX5_mayLight 17 = .ok (.aload_n 0, 1) := by decide +kernel
theorem dX5_mayLight_18 : decode cX5_mayLight 18 = .ok (.iload_n 2, 1) := by decide +kernel
theorem dX5_mayLight_19 : decode cX5_mayLight 19 = .ok (.invokestatic 52, 3) := by decide +kernel
theorem dX5_mayLight_22 : decode cX5_mayLight 22 = .ok (.ifCond .eq 16, 3) := by decide +kernel
theorem dX5_mayLight_25 : decode cX5_mayLight 25 = .ok (.aload_n 0, 1) := by decide +kernel
theorem dX5_mayLight_26 : decode cX5_mayLight 26 = .ok (.iload_n 1, 1) := by decide +kernel
theorem dX5_mayLight_27 : decode cX5_mayLight 27 = .ok (.iload_n 2, 1) := by decide +kernel
theorem dX5_mayLight_28 : decode cX5_mayLight 28 = .ok (.invokestatic 56, 3) := by decide +kernel
theorem dX5_mayLight_31 : decode cX5_mayLight 31 = .ok (.ifCond .eq 7, 3) := by decide +kernel
theorem dX5_mayLight_34 : decode cX5_mayLight 34 = .ok (.iconst 1, 1) := by decide +kernel
theorem dX5_mayLight_35 : decode cX5_mayLight 35 = .ok (.goto 4, 3) := by decide +kernel
theorem dX5_mayLight_38 : decode cX5_mayLight 38 = .ok (.iconst 0, 1) := by decide +kernel
theorem dX5_mayLight_39 : decode cX5_mayLight 39 = .ok (.ireturn, 1) := by decide +kernel
theorem dX5_lights_0 : decode cX5_lights 0 = .ok (.aload_n 0, 1) := by decide +kernel
theorem dX5_lights_1 : decode cX5_lights 1 = .ok (.bipush 9, 2) := by decide +kernel
theorem dX5_lights_3 : decode cX5_lights 3 = .ok (.bipush 15, 2) := by decide +kernel
theorem dX5_lights_5 : decode cX5_lights 5 = .ok (.iload_n 1, 1) := by decide +kernel
theorem dX5_lights_6 : decode cX5_lights 6 = .ok (.imul, 1) := by decide +kernel
theorem dX5_lights_7 : decode cX5_lights 7 = .ok (.iadd, 1) := by decide +kernel
theorem dX5_lights_8 : decode cX5_lights 8 = .ok (.iconst 1, 1) := by decide +kernel
theorem dX5_lights_9 : decode cX5_lights 9 = .ok (.iadd, 1) := by decide +kernel
theorem dX5_lights_10 : decode cX5_lights 10 = .ok (.iconst 1, 1) := by decide +kernel
theorem dX5_lights_11 : decode cX5_lights 11 = .ok (.iastore, 1) := by decide +kernel
theorem dX5_lights_12 : decode cX5_lights 12 = .ok (.return_, 1) := by decide +kernel
theorem dX5_renews_0 : decode cX5_renews 0 = .ok (.aload_n 0, 1) := by decide +kernel
theorem dX5_renews_1 : decode cX5_renews 1 = .ok (.iconst 1, 1) := by decide +kernel
theorem dX5_renews_2 : decode cX5_renews 2 = .ok (.dup2, 1) := by decide +kernel
theorem dX5_renews_3 : decode cX5_renews 3 = .ok (.iaload, 1) := by decide +kernel
theorem dX5_renews_4 : decode cX5_renews 4 = .ok (.iconst 1, 1) := by decide +kernel
theorem dX5_renews_5 : decode cX5_renews 5 = .ok (.isub, 1) := by decide +kernel
theorem dX5_renews_6 : decode cX5_renews 6 = .ok (.iastore, 1) := by decide +kernel
theorem dX5_renews_7 : decode cX5_renews 7 = .ok (.aload_n 0, 1) := by decide +kernel
theorem dX5_renews_8 : decode cX5_renews 8 = .ok (.bipush 9, 2) := by decide +kernel
theorem dX5_renews_10 : decode cX5_renews 10 = .ok (.bipush 15, 2) := by decide +kernel
theorem dX5_renews_12 : decode cX5_renews 12 = .ok (.iload_n 1, 1) := by decide +kernel
theorem dX5_renews_13 : decode cX5_renews 13 = .ok (.imul, 1) := by decide +kernel
theorem dX5_renews_14 : decode cX5_renews 14 = .ok (.iadd, 1) := by decide +kernel
theorem dX5_renews_15 : decode cX5_renews 15 = .ok (.bipush 20, 2) := by decide +kernel
theorem dX5_renews_17 : decode cX5_renews 17 = .ok (.iastore, 1) := by decide +kernel
theorem dX5_renews_18 : decode cX5_renews 18 = .ok (.aload_n 0, 1) := by decide +kernel
theorem dX5_renews_19 : decode cX5_renews 19 = .ok (.bipush 9, 2) := by decide +kernel
theorem dX5_renews_21 : decode cX5_renews 21 = .ok (.bipush 15, 2) := by decide +kernel
theorem dX5_renews_23 : decode cX5_renews 23 = .ok (.iload_n 1, 1) := by decide +kernel
theorem dX5_renews_24 : decode cX5_renews 24 = .ok (.imul, 1) := by decide +kernel
theorem dX5_renews_25 : decode cX5_renews 25 = .ok (.iadd, 1) := by decide +kernel
theorem dX5_renews_26 : decode cX5_renews 26 = .ok (.iconst 1, 1) := by decide +kernel
theorem dX5_renews_27 : decode cX5_renews 27 = .ok (.iadd, 1) := by decide +kernel
theorem dX5_renews_28 : decode cX5_renews 28 = .ok (.iconst 0, 1) := by decide +kernel
theorem dX5_renews_29 : decode cX5_renews 29 = .ok (.iastore, 1) := by decide +kernel
theorem dX5_renews_30 : decode cX5_renews 30 = .ok (.aload_n 0, 1) := by decide +kernel
theorem dX5_renews_31 : decode cX5_renews 31 = .ok (.bipush 9, 2) := by decide +kernel
theorem dX5_renews_33 : decode cX5_renews 33 = .ok (.bipush 15, 2) := by decide +kernel
theorem dX5_renews_35 : decode cX5_renews 35 = .ok (.iload_n 1, 1) := by decide +kernel
theorem dX5_renews_36 : decode cX5_renews 36 = .ok (.imul, 1) := by decide +kernel
theorem dX5_renews_37 : decode cX5_renews 37 = .ok (.iadd, 1) := by decide +kernel
theorem dX5_renews_38 : decode cX5_renews 38 = .ok (.iconst 2, 1) := by decide +kernel
theorem dX5_renews_39 : decode cX5_renews 39 = .ok (.iadd, 1) := by decide +kernel
theorem dX5_renews_40 : decode cX5_renews 40 = .ok (.iconst 0, 1) := by decide +kernel
theorem dX5_renews_41 : decode cX5_renews 41 = .ok (.iastore, 1) := by decide +kernel
theorem dX5_renews_42 : decode cX5_renews 42 = .ok (.return_, 1) := by decide +kernel
theorem dX5_reaches_0 : decode cX5_reaches 0 = .ok (.iconst 0, 1) := by decide +kernel
theorem dX5_reaches_1 : decode cX5_reaches 1 = .ok (.istore_n 3, 1) := by decide +kernel
theorem dX5_reaches_2 : decode cX5_reaches 2 = .ok (.iload_n 1, 1) := by decide +kernel
theorem dX5_reaches_3 : decode cX5_reaches 3 = .ok (.istore 4, 2) := by decide +kernel
theorem dX5_reaches_5 : decode cX5_reaches 5 = .ok (.iload_n 3, 1) := by decide +kernel
theorem dX5_reaches_6 : decode cX5_reaches 6 = .ok (.iload_n 2, 1) := by decide +kernel
theorem dX5_reaches_7 : decode cX5_reaches 7 = .ok (.if_icmp .ge 40, 3) := by decide +kernel
theorem dX5_reaches_10 : decode cX5_reaches 10 = .ok (.aload_n 0, 1) := by decide +kernel
theorem dX5_reaches_11 : decode cX5_reaches 11 = .ok (.iload 4, 2) := by decide +kernel
theorem dX5_reaches_13 : decode cX5_reaches 13 = .ok (.iconst 3, 1) := by decide +kernel
theorem dX5_reaches_14 : decode cX5_reaches 14 = .ok (.invokestatic 33, 3) := by decide +kernel
theorem dX5_reaches_17 : decode cX5_reaches 17 = .ok (.ifCond .ne 30, 3) := by decide +kernel
theorem dX5_reaches_20 : decode cX5_reaches 20 = .ok (.iinc 3 1, 3) := by decide +kernel
theorem dX5_reaches_23 : decode cX5_reaches 23 = .ok (.aload_n 0, 1) := by decide +kernel
theorem dX5_reaches_24 : decode cX5_reaches 24 = .ok (.iload 4, 2) := by decide +kernel
theorem dX5_reaches_26 : decode cX5_reaches 26 = .ok (.iconst 5, 1) := by decide +kernel
theorem dX5_reaches_27 : decode cX5_reaches 27 = .ok (.invokestatic 33, 3) := by decide +kernel
theorem dX5_reaches_30 : decode cX5_reaches 30 = .ok (.ifCond .ne 5, 3) := by decide +kernel
theorem dX5_reaches_33 : decode cX5_reaches 33 = .ok (.iload_n 3, 1) := by decide +kernel
theorem dX5_reaches_34 : decode cX5_reaches 34 = .ok (.ireturn, 1) := by decide +kernel
theorem dX5_reaches_35 : decode cX5_reaches 35 = .ok (.iload 4, 2) := by decide +kernel
theorem dX5_reaches_37 : decode cX5_reaches 37 = .ok (.iconst 1, 1) := by decide +kernel
theorem dX5_reaches_38 : decode cX5_reaches 38 = .ok (.iadd, 1) := by decide +kernel
theorem dX5_reaches_39 : decode cX5_reaches 39 = .ok (.bipush 6, 2) := by decide +kernel
theorem dX5_reaches_41 : decode cX5_reaches 41 = .ok (.irem, 1) := by decide +kernel
theorem dX5_reaches_42 : decode cX5_reaches 42 = .ok (.istore 4, 2) := by decide +kernel
theorem dX5_reaches_44 : decode cX5_reaches 44 = .ok (.goto (-39), 3) := by decide +kernel
theorem dX5_reaches_47 : decode cX5_reaches 47 = .ok (.iload_n 3, 1) := by decide +kernel
theorem dX5_reaches_48 : decode cX5_reaches 48 = .ok (.ireturn, 1) := by decide +kernel
theorem dX5_blows_0 : decode cX5_blows 0 = .ok (.iconst 0, 1) := by decide +kernel
theorem dX5_blows_1 : decode cX5_blows 1 = .ok (.istore_n 3, 1) := by decide +kernel
theorem dX5_blows_2 : decode cX5_blows 2 = .ok (.iconst 0, 1) := by decide +kernel
theorem dX5_blows_3 : decode cX5_blows 3 = .ok (.istore 4, 2) := by decide +kernel
theorem dX5_blows_5 : decode cX5_blows 5 = .ok (.iload 4, 2) := by decide +kernel
theorem dX5_blows_7 : decode cX5_blows 7 = .ok (.aload_n 0, 1) := by decide +kernel
theorem dX5_blows_8 : decode cX5_blows 8 = .ok (.iload_n 1, 1) := by decide +kernel
theorem dX5_blows_9 : decode cX5_blows 9 = .ok (.iload_n 2, 1) := by decide +kernel
theorem dX5_blows_10 : decode cX5_blows 10 = .ok (.invokestatic 60, 3) := by decide +kernel
theorem dX5_blows_13 : decode cX5_blows 13 = .ok (.if_icmp .ge 24, 3) := by decide +kernel
theorem dX5_blows_16 : decode cX5_blows 16 = .ok (.iload_n 3, 1) := by decide +kernel
theorem dX5_blows_17 : decode cX5_blows 17 = .ok (.aload_n 0, 1) := by decide +kernel
theorem dX5_blows_18 : decode cX5_blows 18 = .ok (.iload_n 1, 1) := by decide +kernel
theorem dX5_blows_19 : decode cX5_blows 19 = .ok (.iload 4, 2) := by decide +kernel
theorem dX5_blows_21 : decode cX5_blows 21 = .ok (.iadd, 1) := by decide +kernel
theorem dX5_blows_22 : decode cX5_blows 22 = .ok (.bipush 6, 2) := by decide +kernel
theorem dX5_blows_24 : decode cX5_blows 24 = .ok (.irem, 1) := by decide +kernel
theorem dX5_blows_25 : decode cX5_blows 25 = .ok (.iconst 1, 1) := by decide +kernel
theorem dX5_blows_26 : decode cX5_blows 26 = .ok (.invokestatic 33, 3) := by decide +kernel
theorem dX5_blows_29 : decode cX5_blows 29 = .ok (.iadd, 1) := by decide +kernel
theorem dX5_blows_30 : decode cX5_blows 30 = .ok (.istore_n 3, 1) := by decide +kernel
theorem dX5_blows_31 : decode cX5_blows 31 = .ok (.iinc 4 1, 3) := by decide +kernel
theorem dX5_blows_34 : decode cX5_blows 34 = .ok (.goto (-29), 3) := by decide +kernel
theorem dX5_blows_37 : decode cX5_blows 37 = .ok (.iload_n 3, 1) := by decide +kernel
theorem dX5_blows_38 : decode cX5_blows 38 = .ok (.ireturn, 1) := by decide +kernel
theorem dX5_strike_0 : decode cX5_strike 0 = .ok (.aload_n 0, 1) := by decide +kernel
theorem dX5_strike_1 : decode cX5_strike 1 = .ok (.iconst 0, 1) := by decide +kernel
theorem dX5_strike_2 : decode cX5_strike 2 = .ok (.putfield 25, 3) := by decide +kernel
theorem dX5_strike_5 : decode cX5_strike 5 = .ok (.iload_n 1, 1) := by decide +kernel
theorem dX5_strike_6 : decode cX5_strike 6 = .ok (.invokestatic 63, 3) := by decide +kernel
theorem dX5_strike_9 : decode cX5_strike 9 = .ok (.ifCond .ne 9, 3) := by decide +kernel
theorem dX5_strike_12 : decode cX5_strike 12 = .ok (.aload_n 0, 1) := by decide +kernel
theorem dX5_strike_13 : decode cX5_strike 13 = .ok (.iconst 1, 1) := by decide +kernel
theorem dX5_strike_14 : decode cX5_strike 14 = .ok (.invokevirtual 44, 3) := by decide +kernel
theorem dX5_strike_17 : decode cX5_strike 17 = .ok (.ireturn, 1) := by decide +kernel
theorem dX5_strike_18 : decode cX5_strike 18 = .ok (.aload_n 0, 1) := by decide +kernel
theorem dX5_strike_19 : decode cX5_strike 19 = .ok (.getfield 7, 3) := by decide +kernel
theorem dX5_strike_22 : decode cX5_strike 22 = .ok (.iload_n 1, 1) := by decide +kernel
theorem dX5_strike_23 : decode cX5_strike 23 = .ok (.invokestatic 67, 3) := by decide +kernel
theorem dX5_strike_26 : decode cX5_strike 26 = .ok (.ifCond .ne 9, 3) := by decide +kernel
theorem dX5_strike_29 : decode cX5_strike 29 = .ok (.aload_n 0, 1) := by decide +kernel
theorem dX5_strike_30 : decode cX5_strike 30 = .ok (.iconst 2, 1) := by decide +kernel
theorem dX5_strike_31 : decode cX5_strike 31 = .ok (.invokevirtual 44, 3) := by decide +kernel
theorem dX5_strike_34 : decode cX5_strike 34 = .ok (.ireturn, 1) := by decide +kernel
theorem dX5_strike_35 : decode cX5_strike 35 = .ok (.aload_n 0, 1) := by decide +kernel
theorem dX5_strike_36 : decode cX5_strike 36 = .ok (.invokevirtual 70, 3) := by decide +kernel
theorem dX5_strike_39 : decode cX5_strike 39 = .ok (.aload_n 0, 1) := by decide +kernel
theorem dX5_strike_40 : decode cX5_strike 40 = .ok (.getfield 7, 3) := by decide +kernel
theorem dX5_strike_43 : decode cX5_strike 43 = .ok (.iload_n 1, 1) := by decide +kernel
theorem dX5_strike_44 : decode cX5_strike 44 = .ok (.invokestatic 73, 3) := by decide +kernel
theorem dX5_strike_47 : decode cX5_strike 47 = .ok (.aload_n 0, 1) := by decide +kernel
theorem dX5_strike_48 : decode cX5_strike 48 = .ok (.getfield 7, 3) := by decide +kernel
theorem dX5_strike_51 : decode cX5_strike 51 = .ok (.iload_n 1, 1) := by decide +kernel
theorem dX5_strike_52 : decode cX5_strike 52 = .ok (.iconst 0, 1) := by decide +kernel
theorem dX5_strike_53 : decode cX5_strike 53 = .ok (.invokestatic 33, 3) := by decide +kernel
theorem dX5_strike_56 : decode cX5_strike 56 = .ok (.ireturn, 1) := by decide +kernel
theorem dX5_light_0 : decode cX5_light 0 = .ok (.aload_n 0, 1) := by decide +kernel
theorem dX5_light_1 : decode cX5_light 1 = .ok (.iconst 0, 1) := by decide +kernel
theorem dX5_light_2 : decode cX5_light 2 = .ok (.putfield 25, 3) := by decide +kernel
theorem dX5_light_5 : decode cX5_light 5 = .ok (.iload_n 1, 1) := by decide +kernel
theorem dX5_light_6 : decode cX5_light 6 = .ok (.invokestatic 63, 3) := by decide +kernel
theorem dX5_light_9 : decode cX5_light 9 = .ok (.ifCond .eq 10, 3) := by decide +kernel
theorem dX5_light_12 : decode cX5_light 12 = .ok (.iload_n 2, 1) := by decide +kernel
theorem dX5_light_13 : decode cX5_light 13 = .ok (.invokestatic 63, 3) := by decide +kernel
theorem dX5_light_16 : decode cX5_light 16 = .ok (.ifCond .ne 9, 3) := by decide +kernel
theorem dX5_light_19 : decode cX5_light 19 = .ok (.aload_n 0, 1) := by decide +kernel
theorem dX5_light_20 : decode cX5_light 20 = .ok (.iconst 1, 1) := by decide +kernel
theorem dX5_light_21 : decode cX5_light 21 = .ok (.invokevirtual 44, 3) := by decide +kernel
theorem dX5_light_24 : decode cX5_light 24 = .ok (.ireturn, 1) := by decide +kernel
theorem dX5_light_25 : decode cX5_light 25 = .ok (.aload_n 0, 1) := by decide +kernel
theorem dX5_light_26 : decode cX5_light 26 = .ok (.getfield 7, 3) := by decide +kernel
theorem dX5_light_29 : decode cX5_light 29 = .ok (.iload_n 1, 1) := by decide +kernel
theorem dX5_light_30 : decode cX5_light 30 = .ok (.iload_n 2, 1) := by decide +kernel
theorem dX5_light_31 : decode cX5_light 31 = .ok (.invokestatic 77, 3) := by decide +kernel
theorem dX5_light_34 : decode cX5_light 34 = .ok (.ifCond .ne 9, 3) := by decide +kernel
theorem dX5_light_37 : decode cX5_light 37 = .ok (.aload_n 0, 1) := by decide +kernel
theorem dX5_light_38 : decode cX5_light 38 = .ok (.iconst 2, 1) := by decide +kernel
theorem dX5_light_39 : decode cX5_light 39 = .ok (.invokevirtual 44, 3) := by decide +kernel
theorem dX5_light_42 : decode cX5_light 42 = .ok (.ireturn, 1) := by decide +kernel
theorem dX5_light_43 : decode cX5_light 43 = .ok (.aload_n 0, 1) := by decide +kernel
theorem dX5_light_44 : decode cX5_light 44 = .ok (.invokevirtual 70, 3) := by decide +kernel
theorem dX5_light_47 : decode cX5_light 47 = .ok (.aload_n 0, 1) := by decide +kernel
theorem dX5_light_48 : decode cX5_light 48 = .ok (.getfield 7, 3) := by decide +kernel
theorem dX5_light_51 : decode cX5_light 51 = .ok (.iload_n 1, 1) := by decide +kernel
theorem dX5_light_52 : decode cX5_light 52 = .ok (.invokestatic 73, 3) := by decide +kernel
theorem dX5_light_55 : decode cX5_light 55 = .ok (.aload_n 0, 1) := by decide +kernel
theorem dX5_light_56 : decode cX5_light 56 = .ok (.getfield 7, 3) := by decide +kernel
theorem dX5_light_59 : decode cX5_light 59 = .ok (.iload_n 1, 1) := by decide +kernel
theorem dX5_light_60 : decode cX5_light 60 = .ok (.iconst 0, 1) := by decide +kernel
theorem dX5_light_61 : decode cX5_light 61 = .ok (.invokestatic 33, 3) := by decide +kernel
theorem dX5_light_64 : decode cX5_light 64 = .ok (.ireturn, 1) := by decide +kernel
theorem dX5_fresh_0 : decode cX5_fresh 0 = .ok (.aload_n 0, 1) := by decide +kernel
theorem dX5_fresh_1 : decode cX5_fresh 1 = .ok (.iconst 0, 1) := by decide +kernel
theorem dX5_fresh_2 : decode cX5_fresh 2 = .ok (.putfield 25, 3) := by decide +kernel
theorem dX5_fresh_5 : decode cX5_fresh 5 = .ok (.iload_n 1, 1) := by decide +kernel
theorem dX5_fresh_6 : decode cX5_fresh 6 = .ok (.invokestatic 63, 3) := by decide +kernel
theorem dX5_fresh_9 : decode cX5_fresh 9 = .ok (.ifCond .ne 9, 3) := by decide +kernel
theorem dX5_fresh_12 : decode cX5_fresh 12 = .ok (.aload_n 0, 1) := by decide +kernel
theorem dX5_fresh_13 : decode cX5_fresh 13 = .ok (.iconst 1, 1) := by decide +kernel
theorem dX5_fresh_14 : decode cX5_fresh 14 = .ok (.invokevirtual 44, 3) := by decide +kernel
theorem dX5_fresh_17 : decode cX5_fresh 17 = .ok (.ireturn, 1) := by decide +kernel
theorem dX5_fresh_18 : decode cX5_fresh 18 = .ok (.aload_n 0, 1) := by decide +kernel
theorem dX5_fresh_19 : decode cX5_fresh 19 = .ok (.getfield 7, 3) := by decide +kernel
theorem dX5_fresh_22 : decode cX5_fresh 22 = .ok (.iconst 1, 1) := by decide +kernel
theorem dX5_fresh_23 : decode cX5_fresh 23 = .ok (.iaload, 1) := by decide +kernel
theorem dX5_fresh_24 : decode cX5_fresh 24 = .ok (.ifCond .ne 9, 3) := by decide +kernel
theorem dX5_fresh_27 : decode cX5_fresh 27 = .ok (.aload_n 0, 1) := by decide +kernel
theorem dX5_fresh_28 : decode cX5_fresh 28 = .ok (.iconst 2, 1) := by decide +kernel
theorem dX5_fresh_29 : decode cX5_fresh 29 = .ok (.invokevirtual 44, 3) := by decide +kernel
theorem dX5_fresh_32 : decode cX5_fresh 32 = .ok (.ireturn, 1) := by decide +kernel
theorem dX5_fresh_33 : decode cX5_fresh 33 = .ok (.aload_n 0, 1) := by decide +kernel
theorem dX5_fresh_34 : decode cX5_fresh 34 = .ok (.invokevirtual 70, 3) := by decide +kernel
theorem dX5_fresh_37 : decode cX5_fresh 37 = .ok (.aload_n 0, 1) := by decide +kernel
theorem dX5_fresh_38 : decode cX5_fresh 38 = .ok (.getfield 7, 3) := by decide +kernel
theorem dX5_fresh_41 : decode cX5_fresh 41 = .ok (.iload_n 1, 1) := by decide +kernel
theorem dX5_fresh_42 : decode cX5_fresh 42 = .ok (.invokestatic 80, 3) := by decide +kernel
theorem dX5_fresh_45 : decode cX5_fresh 45 = .ok (.aload_n 0, 1) := by decide +kernel
theorem dX5_fresh_46 : decode cX5_fresh 46 = .ok (.getfield 7, 3) := by decide +kernel
theorem dX5_fresh_49 : decode cX5_fresh 49 = .ok (.iconst 1, 1) := by decide +kernel
theorem dX5_fresh_50 : decode cX5_fresh 50 = .ok (.iaload, 1) := by decide +kernel
theorem dX5_fresh_51 : decode cX5_fresh 51 = .ok (.ireturn, 1) := by decide +kernel
theorem dX5_switches_0 : decode cX5_switches 0 = .ok (.aload_n 0, 1) := by decide +kernel
theorem dX5_switches_1 : decode cX5_switches 1 = .ok (.invokevirtual 70, 3) := by decide +kernel
theorem dX5_switches_4 : decode cX5_switches 4 = .ok (.aload_n 0, 1) := by decide +kernel
theorem dX5_switches_5 : decode cX5_switches 5 = .ok (.getfield 7, 3) := by decide +kernel
theorem dX5_switches_8 : decode cX5_switches 8 = .ok (.iload_n 1, 1) := by decide +kernel
theorem dX5_switches_9 : decode cX5_switches 9 = .ok (.iload_n 2, 1) := by decide +kernel
theorem dX5_switches_10 : decode cX5_switches 10 = .ok (.invokestatic 33, 3) := by decide +kernel
theorem dX5_switches_13 : decode cX5_switches 13 = .ok (.istore 4, 2) := by decide +kernel
theorem dX5_switches_15 : decode cX5_switches 15 = .ok (.aload_n 0, 1) := by decide +kernel
theorem dX5_switches_16 : decode cX5_switches 16 = .ok (.getfield 7, 3) := by decide +kernel
theorem dX5_switches_19 : decode cX5_switches 19 = .ok (.bipush 9, 2) := by decide +kernel
theorem dX5_switches_21 : decode cX5_switches 21 = .ok (.bipush 15, 2) := by decide +kernel
theorem dX5_switches_23 : decode cX5_switches 23 = .ok (.iload_n 1, 1) := by decide +kernel
theorem dX5_switches_24 : decode cX5_switches 24 = .ok (.imul, 1) := by decide +kernel
theorem dX5_switches_25 : decode cX5_switches 25 = .ok (.iadd, 1) := by decide +kernel
theorem dX5_switches_26 : decode cX5_switches 26 = .ok (.iload_n 2, 1) := by decide +kernel
theorem dX5_switches_27 : decode cX5_switches 27 = .ok (.iadd, 1) := by decide +kernel
theorem dX5_switches_28 : decode cX5_switches 28 = .ok (.iload_n 3, 1) := by decide +kernel
theorem dX5_switches_29 : decode cX5_switches 29 = .ok (.ifCond .eq 7, 3) := by decide +kernel
theorem dX5_switches_32 : decode cX5_switches 32 = .ok (.iconst 1, 1) := by decide +kernel
theorem dX5_switches_33 : decode cX5_switches 33 = .ok (.goto 4, 3) := by decide +kernel
theorem dX5_switches_36 : decode cX5_switches 36 = .ok (.iconst 0, 1) := by decide +kernel
theorem dX5_switches_37 : decode cX5_switches 37 = .ok (.iastore, 1) := by decide +kernel
theorem dX5_switches_38 : decode cX5_switches 38 = .ok (.iload 4, 2) := by decide +kernel
theorem dX5_switches_40 : decode cX5_switches 40 = .ok (.ireturn, 1) := by decide +kernel
theorem dX5_door_0 : decode cX5_door 0 = .ok (.aload_n 0, 1) := by decide +kernel
theorem dX5_door_1 : decode cX5_door 1 = .ok (.iconst 0, 1) := by decide +kernel
theorem dX5_door_2 : decode cX5_door 2 = .ok (.putfield 25, 3) := by decide +kernel
theorem dX5_door_5 : decode cX5_door 5 = .ok (.iload_n 1, 1) := by decide +kernel
theorem dX5_door_6 : decode cX5_door 6 = .ok (.invokestatic 63, 3) := by decide +kernel
theorem dX5_door_9 : decode cX5_door 9 = .ok (.ifCond .eq 13, 3) := by decide +kernel
theorem dX5_door_12 : decode cX5_door 12 = .ok (.aload_n 0, 1) := by decide +kernel
theorem dX5_door_13 : decode cX5_door 13 = .ok (.iload_n 1, 1) := by decide +kernel
theorem dX5_door_14 : decode cX5_door 14 = .ok (.iconst 5, 1) := by decide +kernel
theorem dX5_door_15 : decode cX5_door 15 = .ok (.iload_n 2, 1) := by decide +kernel
theorem dX5_door_16 : decode cX5_door 16 = .ok (.invokevirtual 83, 3) := by decide +kernel
theorem dX5_door_19 : decode cX5_door 19 = .ok (.goto 8, 3) := by decide +kernel
theorem dX5_door_22 : decode cX5_door 22 = .ok (.aload_n 0, 1) := by decide +kernel
theorem dX5_door_23 : decode cX5_door 23 = .ok (.iconst 1, 1) := by decide +kernel
theorem dX5_door_24 : decode cX5_door 24 = .ok (.invokevirtual 44, 3) := by decide +kernel
theorem dX5_door_27 : decode cX5_door 27 = .ok (.ireturn, 1) := by decide +kernel
theorem dX5_shield_0 : decode cX5_shield 0 = .ok (.aload_n 0, 1) := by decide +kernel
theorem dX5_shield_1 : decode cX5_shield 1 = .ok (.iconst 0, 1) := by decide +kernel
theorem dX5_shield_2 : decode cX5_shield 2 = .ok (.putfield 25, 3) := by decide +kernel
theorem dX5_shield_5 : decode cX5_shield 5 = .ok (.iload_n 1, 1) := by decide +kernel
theorem dX5_shield_6 : decode cX5_shield 6 = .ok (.invokestatic 63, 3) := by decide +kernel
theorem dX5_shield_9 : decode cX5_shield 9 = .ok (.ifCond .eq 13, 3) := by decide +kernel
theorem dX5_shield_12 : decode cX5_shield 12 = .ok (.aload_n 0, 1) := by decide +kernel
theorem dX5_shield_13 : decode cX5_shield 13 = .ok (.iload_n 1, 1) := by decide +kernel
theorem dX5_shield_14 : decode cX5_shield 14 = .ok (.iconst 3, 1) := by decide +kernel
theorem dX5_shield_15 : decode cX5_shield 15 = .ok (.iload_n 2, 1) := by decide +kernel
theorem dX5_shield_16 : decode cX5_shield 16 = .ok (.invokevirtual 83, 3) := by decide +kernel
theorem dX5_shield_19 : decode cX5_shield 19 = .ok (.goto 8, 3) := by decide +kernel
theorem dX5_shield_22 : decode cX5_shield 22 = .ok (.aload_n 0, 1) := by decide +kernel
theorem dX5_shield_23 : decode cX5_shield 23 = .ok (.iconst 1, 1) := by decide +kernel
theorem dX5_shield_24 : decode cX5_shield 24 = .ok (.invokevirtual 44, 3) := by decide +kernel
theorem dX5_shield_27 : decode cX5_shield 27 = .ok (.ireturn, 1) := by decide +kernel
theorem dX5_draught_0 : decode cX5_draught 0 = .ok (.aload_n 0, 1) := by decide +kernel
theorem dX5_draught_1 : decode cX5_draught 1 = .ok (.iconst 0, 1) := by decide +kernel
theorem dX5_draught_2 : decode cX5_draught 2 = .ok (.putfield 25, 3) := by decide +kernel
theorem dX5_draught_5 : decode cX5_draught 5 = .ok (.iload_n 1, 1) := by decide +kernel
theorem dX5_draught_6 : decode cX5_draught 6 = .ok (.invokestatic 63, 3) := by decide +kernel
theorem dX5_draught_9 : decode cX5_draught 9 = .ok (.ifCond .ne 9, 3) := by decide +kernel
theorem dX5_draught_12 : decode cX5_draught 12 = .ok (.aload_n 0, 1) := by decide +kernel
theorem dX5_draught_13 : decode cX5_draught 13 = .ok (.iconst 1, 1) := by decide +kernel
theorem dX5_draught_14 : decode cX5_draught 14 = .ok (.invokevirtual 44, 3) := by decide +kernel
theorem dX5_draught_17 : decode cX5_draught 17 = .ok (.ireturn, 1) := by decide +kernel
theorem dX5_draught_18 : decode cX5_draught 18 = .ok (.iload_n 2, 1) := by decide +kernel
theorem dX5_draught_19 : decode cX5_draught 19 = .ok (.iconst 1, 1) := by decide +kernel
theorem dX5_draught_20 : decode cX5_draught 20 = .ok (.bipush 6, 2) := by decide +kernel
theorem dX5_draught_22 : decode cX5_draught 22 = .ok (.invokestatic 29, 3) := by decide +kernel
theorem dX5_draught_25 : decode cX5_draught 25 = .ok (.ifCond .ne 9, 3) := by decide +kernel
theorem dX5_draught_28 : decode cX5_draught 28 = .ok (.aload_n 0, 1) := by decide +kernel
theorem dX5_draught_29 : decode cX5_draught 29 = .ok (.iconst 2, 1) := by decide +kernel
theorem dX5_draught_30 : decode cX5_draught 30 = .ok (.invokevirtual 44, 3) := by decide +kernel
theorem dX5_draught_33 : decode cX5_draught 33 = .ok (.ireturn, 1) := by decide +kernel
theorem dX5_draught_34 : decode cX5_draught 34 = .ok (.aload_n 0, 1) := by decide +kernel
theorem dX5_draught_35 : decode cX5_draught 35 = .ok (.invokevirtual 70, 3) := by decide +kernel
theorem dX5_draught_38 : decode cX5_draught 38 = .ok (.aload_n 0, 1) := by decide +kernel
theorem dX5_draught_39 : decode cX5_draught 39 = .ok (.getfield 7, 3) := by decide +kernel
theorem dX5_draught_42 : decode cX5_draught 42 = .ok (.bipush 7, 2) := by decide +kernel
theorem dX5_draught_44 : decode cX5_draught 44 = .ok (.iload_n 1, 1) := by decide +kernel
theorem dX5_draught_45 : decode cX5_draught 45 = .ok (.iastore, 1) := by decide +kernel
theorem dX5_draught_46 : decode cX5_draught 46 = .ok (.aload_n 0, 1) := by decide +kernel
theorem dX5_draught_47 : decode cX5_draught 47 = .ok (.getfield 7, 3) := by decide +kernel
theorem dX5_draught_50 : decode cX5_draught 50 = .ok (.bipush 8, 2) := by decide +kernel
theorem dX5_draught_52 : decode cX5_draught 52 = .ok (.iload_n 2, 1) := by decide +kernel
theorem dX5_draught_53 : decode cX5_draught 53 = .ok (.iastore, 1) := by decide +kernel
theorem dX5_draught_54 : decode cX5_draught 54 = .ok (.aload_n 0, 1) := by decide +kernel
theorem dX5_draught_55 : decode cX5_draught 55 = .ok (.getfield 7, 3) := by decide +kernel
theorem dX5_draught_58 : decode cX5_draught 58 = .ok (.iload_n 1, 1) := by decide +kernel
theorem dX5_draught_59 : decode cX5_draught 59 = .ok (.iload_n 2, 1) := by decide +kernel
theorem dX5_draught_60 : decode cX5_draught 60 = .ok (.invokestatic 87, 3) := by decide +kernel
theorem dX5_draught_63 : decode cX5_draught 63 = .ok (.ireturn, 1) := by decide +kernel
theorem dX5_set_0 : decode cX5_set 0 = .ok (.aload_n 0, 1) := by decide +kernel
theorem dX5_set_1 : decode cX5_set 1 = .ok (.iconst 0, 1) := by decide +kernel
theorem dX5_set_2 : decode cX5_set 2 = .ok (.putfield 25, 3) := by decide +kernel
theorem dX5_set_5 : decode cX5_set 5 = .ok (.iload_n 1, 1) := by decide +kernel
theorem dX5_set_6 : decode cX5_set 6 = .ok (.iconst 1, 1) := by decide +kernel
theorem dX5_set_7 : decode cX5_set 7 = .ok (.bipush 50, 2) := by decide +kernel
theorem dX5_set_9 : decode cX5_set 9 = .ok (.invokestatic 29, 3) := by decide +kernel
theorem dX5_set_12 : decode cX5_set 12 = .ok (.ifCond .ne 9, 3) := by decide +kernel
theorem dX5_set_15 : decode cX5_set 15 = .ok (.aload_n 0, 1) := by decide +kernel
theorem dX5_set_16 : decode cX5_set 16 = .ok (.iconst 1, 1) := by decide +kernel
theorem dX5_set_17 : decode cX5_set 17 = .ok (.invokevirtual 44, 3) := by decide +kernel
theorem dX5_set_20 : decode cX5_set 20 = .ok (.ireturn, 1) := by decide +kernel
theorem dX5_set_21 : decode cX5_set 21 = .ok (.aload_n 0, 1) := by decide +kernel
theorem dX5_set_22 : decode cX5_set 22 = .ok (.invokevirtual 70, 3) := by decide +kernel
theorem dX5_set_25 : decode cX5_set 25 = .ok (.aload_n 0, 1) := by decide +kernel
theorem dX5_set_26 : decode cX5_set 26 = .ok (.getfield 7, 3) := by decide +kernel
theorem dX5_set_29 : decode cX5_set 29 = .ok (.iconst 0, 1) := by decide +kernel
theorem dX5_set_30 : decode cX5_set 30 = .ok (.iaload, 1) := by decide +kernel
theorem dX5_set_31 : decode cX5_set 31 = .ok (.istore_n 2, 1) := by decide +kernel
theorem dX5_set_32 : decode cX5_set 32 = .ok (.aload_n 0, 1) := by decide +kernel
theorem dX5_set_33 : decode cX5_set 33 = .ok (.getfield 7, 3) := by decide +kernel
theorem dX5_set_36 : decode cX5_set 36 = .ok (.iconst 0, 1) := by decide +kernel
theorem dX5_set_37 : decode cX5_set 37 = .ok (.iload_n 1, 1) := by decide +kernel
theorem dX5_set_38 : decode cX5_set 38 = .ok (.iastore, 1) := by decide +kernel
theorem dX5_set_39 : decode cX5_set 39 = .ok (.iload_n 2, 1) := by decide +kernel
theorem dX5_set_40 : decode cX5_set 40 = .ok (.ireturn, 1) := by decide +kernel
theorem dX5_burns_0 : decode cX5_burns 0 = .ok (.bipush 9, 2) := by decide +kernel
theorem dX5_burns_2 : decode cX5_burns 2 = .ok (.bipush 15, 2) := by decide +kernel
theorem dX5_burns_4 : decode cX5_burns 4 = .ok (.iload_n 1, 1) := by decide +kernel
theorem dX5_burns_5 : decode cX5_burns 5 = .ok (.imul, 1) := by decide +kernel
theorem dX5_burns_6 : decode cX5_burns 6 = .ok (.iadd, 1) := by decide +kernel
theorem dX5_burns_7 : decode cX5_burns 7 = .ok (.istore_n 2, 1) := by decide +kernel
theorem dX5_burns_8 : decode cX5_burns 8 = .ok (.aload_n 0, 1) := by decide +kernel
theorem dX5_burns_9 : decode cX5_burns 9 = .ok (.iload_n 2, 1) := by decide +kernel
theorem dX5_burns_10 : decode cX5_burns 10 = .ok (.iconst 1, 1) := by decide +kernel
theorem dX5_burns_11 : decode cX5_burns 11 = .ok (.iadd, 1) := by decide +kernel
theorem dX5_burns_12 : decode cX5_burns 12 = .ok (.iaload, 1) := by decide +kernel
theorem dX5_burns_13 : decode cX5_burns 13 = .ok (.ifCond .ne 4, 3) := by decide +kernel
theorem dX5_burns_16 : decode cX5_burns 16 = .ok (.return_, 1) := by decide +kernel
theorem dX5_burns_17 : decode cX5_burns 17 = .ok (.iconst 1, 1) := by decide +kernel
theorem dX5_burns_18 : decode cX5_burns 18 = .ok (.aload_n 0, 1) := by decide +kernel
theorem dX5_burns_19 : decode cX5_burns 19 = .ok (.iload_n 2, 1) := by decide +kernel
theorem dX5_burns_20 : decode cX5_burns 20 = .ok (.iconst 2, 1) := by decide +kernel
theorem dX5_burns_21 : decode cX5_burns 21 = .ok (.iadd, 1) := by decide +kernel
theorem dX5_burns_22 : decode cX5_burns 22 = .ok (.iaload, 1) := by decide +kernel
theorem dX5_burns_23 : decode cX5_burns 23 = .ok (.iconst 2, 1) := by decide +kernel
theorem dX5_burns_24 : decode cX5_burns 24 = .ok (.if_icmp .le 7, 3) := by decide +kernel
theorem dX5_burns_27 : decode cX5_burns 27 = .ok (.iconst 1, 1) := by decide +kernel
theorem dX5_burns_28 : decode cX5_burns 28 = .ok (.goto 4, 3) := by decide +kernel
theorem dX5_burns_31 : decode cX5_burns 31 = .ok (.iconst 0, 1) := by decide +kernel
theorem dX5_burns_32 : decode cX5_burns 32 = .ok (.iadd, 1) := by decide +kernel
theorem dX5_burns_33 : decode cX5_burns 33 = .ok (.aload_n 0, 1) := by decide +kernel
theorem dX5_burns_34 : decode cX5_burns 34 = .ok (.iload_n 2, 1) := by decide +kernel
theorem dX5_burns_35 : decode cX5_burns 35 = .ok (.iconst 2, 1) := by decide +kernel
theorem dX5_burns_36 : decode cX5_burns 36 = .ok (.iadd, 1) := by decide +kernel
theorem dX5_burns_37 : decode cX5_burns 37 = .ok (.iaload, 1) := by decide +kernel
theorem dX5_burns_38 : decode cX5_burns 38 = .ok (.iconst 5, 1) := by decide +kernel
theorem dX5_burns_39 : decode cX5_burns 39 = .ok (.if_icmp .le 7, 3) := by decide +kernel
theorem dX5_burns_42 : decode cX5_burns 42 = .ok (.iconst 1, 1) := by decide +kernel
theorem dX5_burns_43 : decode cX5_burns 43 = .ok (.goto 4, 3) := by decide +kernel
theorem dX5_burns_46 : decode cX5_burns 46 = .ok (.iconst 0, 1) := by decide +kernel
theorem dX5_burns_47 : decode cX5_burns 47 = .ok (.iadd, 1) := by decide +kernel
theorem dX5_burns_48 : decode cX5_burns 48 = .ok (.istore_n 3, 1) := by decide +kernel
theorem dX5_burns_49 : decode cX5_burns 49 = .ok (.aload_n 0, 1) := by decide +kernel
theorem dX5_burns_50 : decode cX5_burns 50 = .ok (.iload_n 2, 1) := by decide +kernel
theorem dX5_burns_51 : decode cX5_burns 51 = .ok (.iconst 4, 1) := by decide +kernel
theorem dX5_burns_52 : decode cX5_burns 52 = .ok (.iadd, 1) := by decide +kernel
theorem dX5_burns_53 : decode cX5_burns 53 = .ok (.dup2, 1) := by decide +kernel
theorem dX5_burns_54 : decode cX5_burns 54 = .ok (.iaload, 1) := by decide +kernel
theorem dX5_burns_55 : decode cX5_burns 55 = .ok (.iconst 1, 1) := by decide +kernel
theorem dX5_burns_56 : decode cX5_burns 56 = .ok (.iadd, 1) := by decide +kernel
theorem dX5_burns_57 : decode cX5_burns 57 = .ok (.iastore, 1) := by decide +kernel
theorem dX5_burns_58 : decode cX5_burns 58 = .ok (.aload_n 0, 1) := by decide +kernel
theorem dX5_burns_59 : decode cX5_burns 59 = .ok (.iload_n 2, 1) := by decide +kernel
theorem dX5_burns_60 : decode cX5_burns 60 = .ok (.aload_n 0, 1) := by decide +kernel
theorem dX5_burns_61 : decode cX5_burns 61 = .ok (.iload_n 2, 1) := by decide +kernel
theorem dX5_burns_62 : decode cX5_burns 62 = .ok (.iaload, 1) := by decide +kernel
theorem dX5_burns_63 : decode cX5_burns 63 = .ok (.iload_n 3, 1) := by decide +kernel
theorem dX5_burns_64 : decode cX5_burns 64 = .ok (.if_icmp .le 11, 3) := by decide +kernel
theorem dX5_burns_67 : decode cX5_burns 67 = .ok (.aload_n 0, 1) := by decide +kernel
theorem dX5_burns_68 : decode cX5_burns 68 = .ok (.iload_n 2, 1) := by decide +kernel
theorem dX5_burns_69 : decode cX5_burns 69 = .ok (.iaload, 1) := by decide +kernel
theorem dX5_burns_70 : decode cX5_burns 70 = .ok (.iload_n 3, 1) := by decide +kernel
theorem dX5_burns_71 : decode cX5_burns 71 = .ok (.isub, 1) := by decide +kernel
theorem dX5_burns_72 : decode cX5_burns 72 = .ok (.goto 4, 3) := by decide +kernel
theorem dX5_burns_75 : decode cX5_burns 75 = .ok (.iconst 0, 1) := by decide +kernel
theorem dX5_burns_76 : decode cX5_burns 76 = .ok (.iastore, 1) := by decide +kernel
theorem dX5_burns_77 : decode cX5_burns 77 = .ok (.aload_n 0, 1) := by decide +kernel
theorem dX5_burns_78 : decode cX5_burns 78 = .ok (.iload_n 2, 1) := by decide +kernel
theorem dX5_burns_79 : decode cX5_burns 79 = .ok (.iconst 1, 1) := by decide +kernel
theorem dX5_burns_80 : decode cX5_burns 80 = .ok (.iadd, 1) := by decide +kernel
theorem dX5_burns_81 : decode cX5_burns 81 = .ok (.aload_n 0, 1) := by decide +kernel
theorem dX5_burns_82 : decode cX5_burns 82 = .ok (.iload_n 2, 1) := by decide +kernel
theorem dX5_burns_83 : decode cX5_burns 83 = .ok (.iaload, 1) := by decide +kernel
theorem dX5_burns_84 : decode cX5_burns 84 = .ok (.ifCond .le 7, 3) := by decide +kernel
theorem dX5_burns_87 : decode cX5_burns 87 = .ok (.iconst 1, 1) := by decide +kernel
theorem dX5_burns_88 : decode cX5_burns 88 = .ok (.goto 4, 3) := by decide +kernel
theorem dX5_burns_91 : decode cX5_burns 91 = .ok (.iconst 0, 1) := by decide +kernel
theorem dX5_burns_92 : decode cX5_burns 92 = .ok (.iastore, 1) := by decide +kernel
theorem dX5_burns_93 : decode cX5_burns 93 = .ok (.aload_n 0, 1) := by decide +kernel
theorem dX5_burns_94 : decode cX5_burns 94 = .ok (.iload_n 2, 1) := by decide +kernel
theorem dX5_burns_95 : decode cX5_burns 95 = .ok (.iconst 2, 1) := by decide +kernel
theorem dX5_burns_96 : decode cX5_burns 96 = .ok (.iadd, 1) := by decide +kernel
theorem dX5_burns_97 : decode cX5_burns 97 = .ok (.dup2, 1) := by decide +kernel
theorem dX5_burns_98 : decode cX5_burns 98 = .ok (.iaload, 1) := by decide +kernel
theorem dX5_burns_99 : decode cX5_burns 99 = .ok (.aload_n 0, 1) := by decide +kernel
theorem dX5_burns_100 : decode cX5_burns 100 = .ok (.iload_n 2, 1) := by decide +kernel
theorem dX5_burns_101 : decode cX5_burns 101 = .ok (.iaload, 1) := by decide +kernel
theorem dX5_burns_102 : decode cX5_burns 102 = .ok (.ifCond .le 17, 3) := by decide +kernel
theorem dX5_burns_105 : decode cX5_burns 105 = .ok (.aload_n 0, 1) := by decide +kernel
theorem dX5_burns_106 : decode cX5_burns 106 = .ok (.iload_n 2, 1) := by decide +kernel
theorem dX5_burns_107 : decode cX5_burns 107 = .ok (.iconst 2, 1) := by decide +kernel
theorem dX5_burns_108 : decode cX5_burns 108 = .ok (.iadd, 1) := by decide +kernel
theorem dX5_burns_109 : decode cX5_burns 109 = .ok (.iaload, 1) := by decide +kernel
theorem dX5_burns_110 : decode cX5_burns 110 = .ok (.bipush 9, 2) := by decide +kernel
theorem dX5_burns_112 : decode cX5_burns 112 = .ok (.if_icmp .ge 7, 3) := by decide +kernel
theorem dX5_burns_115 : decode cX5_burns 115 = .ok (.iconst 1, 1) := by decide +kernel
theorem dX5_burns_116 : decode cX5_burns 116 = .ok (.goto 4, 3) := by decide +kernel
theorem dX5_burns_119 : decode cX5_burns 119 = .ok (.iconst 0, 1) := by decide +kernel
theorem dX5_burns_120 : decode cX5_burns 120 = .ok (.iadd, 1) := by decide +kernel
theorem dX5_burns_121 : decode cX5_burns 121 = .ok (.iastore, 1) := by decide +kernel
theorem dX5_burns_122 : decode cX5_burns 122 = .ok (.return_, 1) := by decide +kernel
theorem dX5_draws_0 : decode cX5_draws 0 = .ok (.aload_n 0, 1) := by decide +kernel
theorem dX5_draws_1 : decode cX5_draws 1 = .ok (.aload_n 0, 1) := by decide +kernel
theorem dX5_draws_2 : decode cX5_draws 2 = .ok (.bipush 7, 2) := by decide +kernel
theorem dX5_draws_4 : decode cX5_draws 4 = .ok (.iaload, 1) := by decide +kernel
theorem dX5_draws_5 : decode cX5_draws 5 = .ok (.aload_n 0, 1) := by decide +kernel
theorem dX5_draws_6 : decode cX5_draws 6 = .ok (.bipush 8, 2) := by decide +kernel
theorem dX5_draws_8 : decode cX5_draws 8 = .ok (.iaload, 1) := by decide +kernel
theorem dX5_draws_9 : decode cX5_draws 9 = .ok (.invokestatic 60, 3) := by decide +kernel
theorem dX5_draws_12 : decode cX5_draws 12 = .ok (.istore_n 1, 1) := by decide +kernel
theorem dX5_draws_13 : decode cX5_draws 13 = .ok (.aload_n 0, 1) := by decide +kernel
theorem dX5_draws_14 : decode cX5_draws 14 = .ok (.bipush 6, 2) := by decide +kernel
theorem dX5_draws_16 : decode cX5_draws 16 = .ok (.dup2, 1) := by decide +kernel
theorem dX5_draws_17 : decode cX5_draws 17 = .ok (.iaload, 1) := by decide +kernel
theorem dX5_draws_18 : decode cX5_draws 18 = .ok (.aload_n 0, 1) := by decide +kernel
theorem dX5_draws_19 : decode cX5_draws 19 = .ok (.aload_n 0, 1) := by decide +kernel
theorem dX5_draws_20 : decode cX5_draws 20 = .ok (.bipush 7, 2) := by decide +kernel
theorem dX5_draws_22 : decode cX5_draws 22 = .ok (.iaload, 1) := by decide +kernel
theorem dX5_draws_23 : decode cX5_draws 23 = .ok (.aload_n 0, 1) := by decide +kernel
theorem dX5_draws_24 : decode cX5_draws 24 = .ok (.bipush 8, 2) := by decide +kernel
theorem dX5_draws_26 : decode cX5_draws 26 = .ok (.iaload, 1) := by decide +kernel
theorem dX5_draws_27 : decode cX5_draws 27 = .ok (.invokestatic 87, 3) := by decide +kernel
theorem dX5_draws_30 : decode cX5_draws 30 = .ok (.iadd, 1) := by decide +kernel
theorem dX5_draws_31 : decode cX5_draws 31 = .ok (.iastore, 1) := by decide +kernel
theorem dX5_draws_32 : decode cX5_draws 32 = .ok (.iconst 0, 1) := by decide +kernel
theorem dX5_draws_33 : decode cX5_draws 33 = .ok (.istore_n 2, 1) := by decide +kernel
theorem dX5_draws_34 : decode cX5_draws 34 = .ok (.iload_n 2, 1) := by decide +kernel
theorem dX5_draws_35 : decode cX5_draws 35 = .ok (.iload_n 1, 1) := by decide +kernel
theorem dX5_draws_36 : decode cX5_draws 36 = .ok (.if_icmp .ge 29, 3) := by decide +kernel
theorem dX5_draws_39 : decode cX5_draws 39 = .ok (.aload_n 0, 1) := by decide +kernel
theorem dX5_draws_40 : decode cX5_draws 40 = .ok (.bipush 9, 2) := by decide +kernel
theorem dX5_draws_42 : decode cX5_draws 42 = .ok (.bipush 15, 2) := by decide +kernel
theorem dX5_draws_44 : decode cX5_draws 44 = .ok (.aload_n 0, 1) := by decide +kernel
theorem dX5_draws_45 : decode cX5_draws 45 = .ok (.bipush 7, 2) := by decide +kernel
theorem dX5_draws_47 : decode cX5_draws 47 = .ok (.iaload, 1) := by decide +kernel
theorem dX5_draws_48 : decode cX5_draws 48 = .ok (.iload_n 2, 1) := by decide +kernel
theorem dX5_draws_49 : decode cX5_draws 49 = .ok (.iadd, 1) := by decide +kernel
theorem dX5_draws_50 : decode cX5_draws 50 = .ok (.bipush 6, 2) := by decide +kernel
theorem dX5_draws_52 : decode cX5_draws 52 = .ok (.irem, 1) := by decide +kernel
theorem dX5_draws_53 : decode cX5_draws 53 = .ok (.imul, 1) := by decide +kernel
theorem dX5_draws_54 : decode cX5_draws 54 = .ok (.iadd, 1) := by decide +kernel
theorem dX5_draws_55 : decode cX5_draws 55 = .ok (.iconst 1, 1) := by decide +kernel
theorem dX5_draws_56 : decode cX5_draws 56 = .ok (.iadd, 1) := by decide +kernel
theorem dX5_draws_57 : decode cX5_draws 57 = .ok (.iconst 0, 1) := by decide +kernel
theorem dX5_draws_58 : decode cX5_draws 58 = .ok (.iastore, 1) := by decide +kernel
theorem dX5_draws_59 : decode cX5_draws 59 = .ok (.iinc 2 1, 3) := by decide +kernel
theorem dX5_draws_62 : decode cX5_draws 62 = .ok (.goto (-28), 3) := by decide +kernel
theorem dX5_draws_65 : decode cX5_draws 65 = .ok (.aload_n 0, 1) := by decide +kernel
theorem dX5_draws_66 : decode cX5_draws 66 = .ok (.bipush 7, 2) := by decide +kernel
theorem dX5_draws_68 : decode cX5_draws 68 = .ok (.iconst (-1), 1) := by decide +kernel
theorem dX5_draws_69 : decode cX5_draws 69 = .ok (.iastore, 1) := by decide +kernel
theorem dX5_draws_70 : decode cX5_draws 70 = .ok (.aload_n 0, 1) := by decide +kernel
theorem dX5_draws_71 : decode cX5_draws 71 = .ok (.bipush 8, 2) := by decide +kernel
theorem dX5_draws_73 : decode cX5_draws 73 = .ok (.iconst 0, 1) := by decide +kernel
theorem dX5_draws_74 : decode cX5_draws 74 = .ok (.iastore, 1) := by decide +kernel
theorem dX5_draws_75 : decode cX5_draws 75 = .ok (.return_, 1) := by decide +kernel
theorem dX5_ages_0 : decode cX5_ages 0 = .ok (.bipush 9, 2) := by decide +kernel
theorem dX5_ages_2 : decode cX5_ages 2 = .ok (.bipush 15, 2) := by decide +kernel
theorem dX5_ages_4 : decode cX5_ages 4 = .ok (.iload_n 1, 1) := by decide +kernel
theorem dX5_ages_5 : decode cX5_ages 5 = .ok (.imul, 1) := by decide +kernel
theorem dX5_ages_6 : decode cX5_ages 6 = .ok (.iadd, 1) := by decide +kernel
theorem dX5_ages_7 : decode cX5_ages 7 = .ok (.istore_n 2, 1) := by decide +kernel
theorem dX5_ages_8 : decode cX5_ages 8 = .ok (.iconst 0, 1) := by decide +kernel
theorem dX5_ages_9 : decode cX5_ages 9 = .ok (.istore_n 3, 1) := by decide +kernel
theorem dX5_ages_10 : decode cX5_ages 10 = .ok (.iconst 0, 1) := by decide +kernel
theorem dX5_ages_11 : decode cX5_ages 11 = .ok (.istore 4, 2) := by decide +kernel
theorem dX5_ages_13 : decode cX5_ages 13 = .ok (.iload 4, 2) := by decide +kernel
theorem dX5_ages_15 : decode cX5_ages 15 = .ok (.aload_n 0, 1) := by decide +kernel
theorem dX5_ages_16 : decode cX5_ages 16 = .ok (.iload_n 2, 1) := by decide +kernel
theorem dX5_ages_17 : decode cX5_ages 17 = .ok (.bipush 6, 2) := by decide +kernel
theorem dX5_ages_19 : decode cX5_ages 19 = .ok (.iadd, 1) := by decide +kernel
theorem dX5_ages_20 : decode cX5_ages 20 = .ok (.iaload, 1) := by decide +kernel
theorem dX5_ages_21 : decode cX5_ages 21 = .ok (.if_icmp .ge 92, 3) := by decide +kernel
theorem dX5_ages_24 : decode cX5_ages 24 = .ok (.aload_n 0, 1) := by decide +kernel
theorem dX5_ages_25 : decode cX5_ages 25 = .ok (.iload_n 2, 1) := by decide +kernel
theorem dX5_ages_26 : decode cX5_ages 26 = .ok (.iconst 1, 1) := by decide +kernel
theorem dX5_ages_27 : decode cX5_ages 27 = .ok (.iadd, 1) := by decide +kernel
theorem dX5_ages_28 : decode cX5_ages 28 = .ok (.iaload, 1) := by decide +kernel
theorem dX5_ages_29 : decode cX5_ages 29 = .ok (.iconst 1, 1) := by decide +kernel
theorem dX5_ages_30 : decode cX5_ages 30 = .ok (.if_icmp .ne 7, 3) := by decide +kernel
theorem dX5_ages_33 : decode cX5_ages 33 = .ok (.iconst 0, 1) := by decide +kernel
theorem dX5_ages_34 : decode cX5_ages 34 = .ok (.goto 14, 3) := by decide +kernel
theorem dX5_ages_37 : decode cX5_ages 37 = .ok (.aload_n 0, 1) := by decide +kernel
theorem dX5_ages_38 : decode cX5_ages 38 = .ok (.iload_n 2, 1) := by decide +kernel
theorem dX5_ages_39 : decode cX5_ages 39 = .ok (.bipush 11, 2) := by decide +kernel
theorem dX5_ages_41 : decode cX5_ages 41 = .ok (.iadd, 1) := by decide +kernel
theorem dX5_ages_42 : decode cX5_ages 42 = .ok (.iload 4, 2) := by decide +kernel
theorem dX5_ages_44 : decode cX5_ages 44 = .ok (.iadd, 1) := by decide +kernel
theorem dX5_ages_45 : decode cX5_ages 45 = .ok (.iaload, 1) := by decide +kernel
theorem dX5_ages_46 : decode cX5_ages 46 = .ok (.iconst 1, 1) := by decide +kernel
theorem dX5_ages_47 : decode cX5_ages 47 = .ok (.iadd, 1) := by decide +kernel
theorem dX5_ages_48 : decode cX5_ages 48 = .ok (.istore 5, 2) := by decide +kernel
theorem dX5_ages_50 : decode cX5_ages 50 = .ok (.aload_n 0, 1) := by decide +kernel
theorem dX5_ages_51 : decode cX5_ages 51 = .ok (.iload_n 2, 1) := by decide +kernel
theorem dX5_ages_52 : decode cX5_ages 52 = .ok (.iconst 1, 1) := by decide +kernel
theorem dX5_ages_53 : decode cX5_ages 53 = .ok (.iadd, 1) := by decide +kernel
theorem dX5_ages_54 : decode cX5_ages 54 = .ok (.iaload, 1) := by decide +kernel
theorem dX5_ages_55 : decode cX5_ages 55 = .ok (.iconst 1, 1) := by decide +kernel
theorem dX5_ages_56 : decode cX5_ages 56 = .ok (.if_icmp .eq 11, 3) := by decide +kernel
theorem dX5_ages_59 : decode cX5_ages 59 = .ok (.iload 5, 2) := by decide +kernel
theorem dX5_ages_61 : decode cX5_ages 61 = .ok (.aload_n 0, 1) := by decide +kernel
theorem dX5_ages_62 : decode cX5_ages 62 = .ok (.iconst 0, 1) := by decide +kernel
theorem dX5_ages_63 : decode cX5_ages 63 = .ok (.iaload, 1) := by decide +kernel
theorem dX5_ages_64 : decode cX5_ages 64 = .ok (.if_icmp .ge 36, 3) := by decide +kernel
theorem dX5_ages_67 : decode cX5_ages 67 = .ok (.aload_n 0, 1) := by decide +kernel
theorem dX5_ages_68 : decode cX5_ages 68 = .ok (.iload_n 2, 1) := by decide +kernel
theorem dX5_ages_69 : decode cX5_ages 69 = .ok (.bipush 7, 2) := by decide +kernel
theorem dX5_ages_71 : decode cX5_ages 71 = .ok (.iadd, 1) := by decide +kernel
theorem dX5_ages_72 : decode cX5_ages 72 = .ok (.iload_n 3, 1) := by decide +kernel
theorem dX5_ages_73 : decode cX5_ages 73 = .ok (.iadd, 1) := by decide +kernel
theorem dX5_ages_74 : decode cX5_ages 74 = .ok (.aload_n 0, 1) := by decide +kernel
theorem dX5_ages_75 : decode cX5_ages 75 = .ok (.iload_n 2, 1) := by decide +kernel
theorem dX5_ages_76 : decode cX5_ages 76 = .ok (.bipush 7, 2) := by decide +kernel
theorem dX5_ages_78 : decode cX5_ages 78 = .ok (.iadd, 1) := by decide +kernel
theorem dX5_ages_79 : decode cX5_ages 79 = .ok (.iload 4, 2) := by decide +kernel
theorem dX5_ages_81 : decode cX5_ages 81 = .ok (.iadd, 1) := by decide +kernel
theorem dX5_ages_82 : decode cX5_ages 82 = .ok (.iaload, 1) := by decide +kernel
theorem dX5_ages_83 : decode cX5_ages 83 = .ok (.iastore, 1) := by decide +kernel
theorem dX5_ages_84 : decode cX5_ages 84 = .ok (.aload_n 0, 1) := by decide +kernel
theorem dX5_ages_85 : decode cX5_ages 85 = .ok (.iload_n 2, 1) := by decide +kernel
theorem dX5_ages_86 : decode cX5_ages 86 = .ok (.bipush 11, 2) := by decide +kernel
theorem dX5_ages_88 : decode cX5_ages 88 = .ok (.iadd, 1) := by decide +kernel
theorem dX5_ages_89 : decode cX5_ages 89 = .ok (.iload_n 3, 1) := by decide +kernel
theorem dX5_ages_90 : decode cX5_ages 90 = .ok (.iadd, 1) := by decide +kernel
theorem dX5_ages_91 : decode cX5_ages 91 = .ok (.iload 5, 2) := by decide +kernel
theorem dX5_ages_93 : decode cX5_ages 93 = .ok (.iastore, 1) := by decide +kernel
theorem dX5_ages_94 : decode cX5_ages 94 = .ok (.iinc 3 1, 3) := by decide +kernel
theorem dX5_ages_97 : decode cX5_ages 97 = .ok (.goto 10, 3) := by decide +kernel
theorem dX5_ages_100 : decode cX5_ages 100 = .ok (.aload_n 0, 1) := by decide +kernel
theorem dX5_ages_101 : decode cX5_ages 101 = .ok (.iconst 3, 1) := by decide +kernel
theorem dX5_ages_102 : decode cX5_ages 102 = .ok (.dup2, 1) := by decide +kernel
theorem dX5_ages_103 : decode cX5_ages 103 = .ok (.iaload, 1) := by decide +kernel
theorem dX5_ages_104 : decode cX5_ages 104 = .ok (.iconst 1, 1) := by decide +kernel
theorem dX5_ages_105 : decode cX5_ages 105 = .ok (.iadd, 1) := by decide +kernel
theorem dX5_ages_106 : decode cX5_ages 106 = .ok (.iastore, 1) := by decide +kernel
theorem dX5_ages_107 : decode cX5_ages 107 = .ok (.iinc 4 1, 3) := by decide +kernel
theorem dX5_ages_110 : decode cX5_ages 110 = .ok (.goto (-97), 3) := by decide +kernel
theorem dX5_ages_113 : decode cX5_ages 113 = .ok (.aload_n 0, 1) := by decide +kernel
theorem dX5_ages_114 : decode cX5_ages 114 = .ok (.iload_n 2, 1) := by decide +kernel
theorem dX5_ages_115 : decode cX5_ages 115 = .ok (.bipush 6, 2) := by decide +kernel
theorem dX5_ages_117 : decode cX5_ages 117 = .ok (.iadd, 1) := by decide +kernel
theorem dX5_ages_118 : decode cX5_ages 118 = .ok (.iload_n 3, 1) := by decide +kernel
theorem dX5_ages_119 : decode cX5_ages 119 = .ok (.iastore, 1) := by decide +kernel
theorem dX5_ages_120 : decode cX5_ages 120 = .ok (.return_, 1) := by decide +kernel
theorem dX5_beats_0 : decode cX5_beats 0 = .ok (.iconst 0, 1) := by decide +kernel
theorem dX5_beats_1 : decode cX5_beats 1 = .ok (.istore_n 2, 1) := by decide +kernel
theorem dX5_beats_2 : decode cX5_beats 2 = .ok (.iload_n 2, 1) := by decide +kernel
theorem dX5_beats_3 : decode cX5_beats 3 = .ok (.iload_n 1, 1) := by decide +kernel
theorem dX5_beats_4 : decode cX5_beats 4 = .ok (.if_icmp .ge 66, 3) := by decide +kernel
theorem dX5_beats_7 : decode cX5_beats 7 = .ok (.aload_n 0, 1) := by decide +kernel
theorem dX5_beats_8 : decode cX5_beats 8 = .ok (.iconst 2, 1) := by decide +kernel
theorem dX5_beats_9 : decode cX5_beats 9 = .ok (.dup2, 1) := by decide +kernel
theorem dX5_beats_10 : decode cX5_beats 10 = .ok (.iaload, 1) := by decide +kernel
theorem dX5_beats_11 : decode cX5_beats 11 = .ok (.iconst 1, 1) := by decide +kernel
theorem dX5_beats_12 : decode cX5_beats 12 = .ok (.iadd, 1) := by decide +kernel
theorem dX5_beats_13 : decode cX5_beats 13 = .ok (.iastore, 1) := by decide +kernel
theorem dX5_beats_14 : decode cX5_beats 14 = .ok (.iconst 0, 1) := by decide +kernel
theorem dX5_beats_15 : decode cX5_beats 15 = .ok (.istore_n 3, 1) := by decide +kernel
theorem dX5_beats_16 : decode cX5_beats 16 = .ok (.iload_n 3, 1) := by decide +kernel
theorem dX5_beats_17 : decode cX5_beats 17 = .ok (.bipush 6, 2) := by decide +kernel
theorem dX5_beats_19 : decode cX5_beats 19 = .ok (.if_icmp .ge 14, 3) := by decide +kernel
theorem dX5_beats_22 : decode cX5_beats 22 = .ok (.aload_n 0, 1) := by decide +kernel
theorem dX5_beats_23 : decode cX5_beats 23 = .ok (.iload_n 3, 1) := by decide +kernel
theorem dX5_beats_24 : decode cX5_beats 24 = .ok (.invokestatic 90, 3) := by decide +kernel
theorem dX5_beats_27 : decode cX5_beats 27 = .ok (.iinc 3 1, 3) := by decide +kernel
theorem dX5_beats_30 : decode cX5_beats 30 = .ok (.goto (-14), 3) := by decide +kernel
theorem dX5_beats_33 : decode cX5_beats 33 = .ok (.aload_n 0, 1) := by decide +kernel
theorem dX5_beats_34 : decode cX5_beats 34 = .ok (.bipush 7, 2) := by decide +kernel
theorem dX5_beats_36 : decode cX5_beats 36 = .ok (.iaload, 1) := by decide +kernel
theorem dX5_beats_37 : decode cX5_beats 37 = .ok (.iconst (-1), 1) := by decide +kernel
theorem dX5_beats_38 : decode cX5_beats 38 = .ok (.if_icmp .eq 7, 3) := by decide +kernel
theorem dX5_beats_41 : decode cX5_beats 41 = .ok (.aload_n 0, 1) := by decide +kernel
theorem dX5_beats_42 : decode cX5_beats 42 = .ok (.invokestatic 93, 3) := by decide +kernel
theorem dX5_beats_45 : decode cX5_beats 45 = .ok (.iconst 0, 1) := by decide +kernel
theorem dX5_beats_46 : decode cX5_beats 46 = .ok (.istore_n 3, 1) := by decide +kernel
theorem dX5_beats_47 : decode cX5_beats 47 = .ok (.iload_n 3, 1) := by decide +kernel
theorem dX5_beats_48 : decode cX5_beats 48 = .ok (.bipush 6, 2) := by decide +kernel
theorem dX5_beats_50 : decode cX5_beats 50 = .ok (.if_icmp .ge 14, 3) := by decide +kernel
theorem dX5_beats_53 : decode cX5_beats 53 = .ok (.aload_n 0, 1) := by decide +kernel
theorem dX5_beats_54 : decode cX5_beats 54 = .ok (.iload_n 3, 1) := by decide +kernel
theorem dX5_beats_55 : decode cX5_beats 55 = .ok (.invokestatic 97, 3) := by decide +kernel
theorem dX5_beats_58 : decode cX5_beats 58 = .ok (.iinc 3 1, 3) := by decide +kernel
theorem dX5_beats_61 : decode cX5_beats 61 = .ok (.goto (-14), 3) := by decide +kernel
theorem dX5_beats_64 : decode cX5_beats 64 = .ok (.iinc 2 1, 3) := by decide +kernel
theorem dX5_beats_67 : decode cX5_beats 67 = .ok (.goto (-65), 3) := by decide +kernel
theorem dX5_beats_70 : decode cX5_beats 70 = .ok (.return_, 1) := by decide +kernel
theorem dX5_find_0 : decode cX5_find 0 = .ok (.iconst 0, 1) := by decide +kernel
theorem dX5_find_1 : decode cX5_find 1 = .ok (.istore_n 2, 1) := by decide +kernel
theorem dX5_find_2 : decode cX5_find 2 = .ok (.iload_n 2, 1) := by decide +kernel
theorem dX5_find_3 : decode cX5_find 3 = .ok (.bipush 24, 2) := by decide +kernel
theorem dX5_find_5 : decode cX5_find 5 = .ok (.if_icmp .ge 43, 3) := by decide +kernel
theorem dX5_find_8 : decode cX5_find 8 = .ok (.iload_n 2, 1) := by decide +kernel
theorem dX5_find_9 : decode cX5_find 9 = .ok (.iconst 4, 1) := by decide +kernel
theorem dX5_find_10 : decode cX5_find 10 = .ok (.irem, 1) := by decide +kernel
theorem dX5_find_11 : decode cX5_find 11 = .ok (.aload_n 0, 1) := by decide +kernel
theorem dX5_find_12 : decode cX5_find 12 = .ok (.iload_n 2, 1) := by decide +kernel
theorem dX5_find_13 : decode cX5_find 13 = .ok (.iconst 4, 1) := by decide +kernel
theorem dX5_find_14 : decode cX5_find 14 = .ok (.idiv, 1) := by decide +kernel
theorem dX5_find_15 : decode cX5_find 15 = .ok (.bipush 6, 2) := by decide +kernel
theorem dX5_find_17 : decode cX5_find 17 = .ok (.invokestatic 33, 3) := by decide +kernel
theorem dX5_find_20 : decode cX5_find 20 = .ok (.if_icmp .ge 22, 3) := by decide +kernel
theorem dX5_find_23 : decode cX5_find 23 = .ok (.aload_n 0, 1) := by decide +kernel
theorem dX5_find_24 : decode cX5_find 24 = .ok (.iload_n 2, 1) := by decide +kernel
theorem dX5_find_25 : decode cX5_find 25 = .ok (.iconst 4, 1) := by decide +kernel
theorem dX5_find_26 : decode cX5_find 26 = .ok (.idiv, 1) := by decide +kernel
theorem dX5_find_27 : decode cX5_find 27 = .ok (.bipush 7, 2) := by decide +kernel
theorem dX5_find_29 : decode cX5_find 29 = .ok (.iload_n 2, 1) := by decide +kernel
theorem dX5_find_30 : decode cX5_find 30 = .ok (.iconst 4, 1) := by decide +kernel
theorem dX5_find_31 : decode cX5_find 31 = .ok (.irem, 1) := by decide +kernel
theorem dX5_find_32 : decode cX5_find 32 = .ok (.iadd, 1) := by decide +kernel
theorem dX5_find_33 : decode cX5_find 33 = .ok (.invokestatic 33, 3) := by decide +kernel
theorem dX5_find_36 : decode cX5_find 36 = .ok (.iload_n 1, 1) := by decide +kernel
theorem dX5_find_37 : decode cX5_find 37 = .ok (.if_icmp .ne 5, 3) := by decide +kernel
theorem dX5_find_40 : decode cX5_find 40 = .ok (.iload_n 2, 1) := by decide +kernel
theorem dX5_find_41 : decode cX5_find 41 = .ok (.ireturn, 1) := by decide +kernel
theorem dX5_find_42 : decode cX5_find 42 = .ok (.iinc 2 1, 3) := by decide +kernel
theorem dX5_find_45 : decode cX5_find 45 = .ok (.goto (-43), 3) := by decide +kernel
theorem dX5_find_48 : decode cX5_find 48 = .ok (.iconst (-1), 1) := by decide +kernel
theorem dX5_find_49 : decode cX5_find 49 = .ok (.ireturn, 1) := by decide +kernel
theorem dX5_mayKeep_0 : decode cX5_mayKeep 0 = .ok (.aload_n 0, 1) := by decide +kernel
theorem dX5_mayKeep_1 : decode cX5_mayKeep 1 = .ok (.iload_n 2, 1) := by decide +kernel
theorem dX5_mayKeep_2 : decode cX5_mayKeep 2 = .ok (.invokestatic 100, 3) := by decide +kernel
theorem dX5_mayKeep_5 : decode cX5_mayKeep 5 = .ok (.iconst (-1), 1) := by decide +kernel
theorem dX5_mayKeep_6 : decode cX5_mayKeep 6 = .ok (.if_icmp .ne 18, 3) := by decide +kernel
theorem dX5_mayKeep_9 : decode cX5_mayKeep 9 = .ok (.aload_n 0, 1) := by decide +kernel
theorem dX5_mayKeep_10 : decode cX5_mayKeep 10 = .ok (.iload_n 1, 1) := by decide +kernel
theorem dX5_mayKeep_11 : decode cX5_mayKeep 11 = .ok (.bipush 6, 2) := by decide +kernel
theorem dX5_mayKeep_13 : decode cX5_mayKeep 13 = .ok (.invokestatic 33, 3) := by decide +kernel
theorem dX5_mayKeep_16 : decode cX5_mayKeep 16 = .ok (.iconst 4, 1) := by decide +kernel
theorem dX5_mayKeep_17 : decode cX5_mayKeep 17 = .ok (.if_icmp .ge 7, 3) := by decide +kernel
theorem dX5_mayKeep_20 : decode cX5_mayKeep 20 = .ok (.iconst 1, 1) := by decide +kernel
theorem dX5_mayKeep_21 : decode cX5_mayKeep 21 = .ok (.goto 4, 3) := by decide +kernel
theorem dX5_mayKeep_24 : decode cX5_mayKeep 24 = .ok (.iconst 0, 1) := by decide +kernel
theorem dX5_mayKeep_25 : decode cX5_mayKeep 25 = .ok (.ireturn, 1) := by decide +kernel
theorem dX5_keeps_0 : decode cX5_keeps 0 = .ok (.bipush 9, 2) := by decide +kernel
theorem dX5_keeps_2 : decode cX5_keeps 2 = .ok (.bipush 15, 2) := by decide +kernel
theorem dX5_keeps_4 : decode cX5_keeps 4 = .ok (.iload_n 1, 1) := by decide +kernel
theorem dX5_keeps_5 : decode cX5_keeps 5 = .ok (.imul, 1) := by decide +kernel
theorem dX5_keeps_6 : decode cX5_keeps 6 = .ok (.iadd, 1) := by decide +kernel
theorem dX5_keeps_7 : decode cX5_keeps 7 = .ok (.istore_n 3, 1) := by decide +kernel
theorem dX5_keeps_8 : decode cX5_keeps 8 = .ok (.aload_n 0, 1) := by decide +kernel
theorem dX5_keeps_9 : decode cX5_keeps 9 = .ok (.iload_n 3, 1) := by decide +kernel
theorem dX5_keeps_10 : decode cX5_keeps 10 = .ok (.bipush 7, 2) := by decide +kernel
theorem dX5_keeps_12 : decode cX5_keeps 12 = .ok (.iadd, 1) := by decide +kernel
theorem dX5_keeps_13 : decode cX5_keeps 13 = .ok (.aload_n 0, 1) := by decide +kernel
theorem dX5_keeps_14 : decode cX5_keeps 14 = .ok (.iload_n 3, 1) := by decide +kernel
theorem dX5_keeps_15 : decode cX5_keeps 15 = .ok (.bipush 6, 2) := by decide +kernel
theorem dX5_keeps_17 : decode cX5_keeps 17 = .ok (.iadd, 1) := by decide +kernel
theorem dX5_keeps_18 : decode cX5_keeps 18 = .ok (.iaload, 1) := by decide +kernel
theorem dX5_keeps_19 : decode cX5_keeps 19 = .ok (.iadd, 1) := by decide +kernel
theorem dX5_keeps_20 : decode cX5_keeps 20 = .ok (.iload_n 2, 1) := by decide +kernel
theorem dX5_keeps_21 : decode cX5_keeps 21 = .ok (.iastore, 1) := by decide +kernel
theorem dX5_keeps_22 : decode cX5_keeps 22 = .ok (.aload_n 0, 1) := by decide +kernel
theorem dX5_keeps_23 : decode cX5_keeps 23 = .ok (.iload_n 3, 1) := by decide +kernel
theorem dX5_keeps_24 : decode cX5_keeps 24 = .ok (.bipush 11, 2) := by decide +kernel
theorem dX5_keeps_26 : decode cX5_keeps 26 = .ok (.iadd, 1) := by decide +kernel
theorem dX5_keeps_27 : decode cX5_keeps 27 = .ok (.aload_n 0, 1) := by decide +kernel
theorem dX5_keeps_28 : decode cX5_keeps 28 = .ok (.iload_n 3, 1) := by decide +kernel
theorem dX5_keeps_29 : decode cX5_keeps 29 = .ok (.bipush 6, 2) := by decide +kernel
theorem dX5_keeps_31 : decode cX5_keeps 31 = .ok (.iadd, 1) := by decide +kernel
theorem dX5_keeps_32 : decode cX5_keeps 32 = .ok (.iaload, 1) := by decide +kernel
theorem dX5_keeps_33 : decode cX5_keeps 33 = .ok (.iadd, 1) := by decide +kernel
theorem dX5_keeps_34 : decode cX5_keeps 34 = .ok (.iconst 0, 1) := by decide +kernel
theorem dX5_keeps_35 : decode cX5_keeps 35 = .ok (.iastore, 1) := by decide +kernel
theorem dX5_keeps_36 : decode cX5_keeps 36 = .ok (.aload_n 0, 1) := by decide +kernel
theorem dX5_keeps_37 : decode cX5_keeps 37 = .ok (.iload_n 3, 1) := by decide +kernel
theorem dX5_keeps_38 : decode cX5_keeps 38 = .ok (.bipush 6, 2) := by decide +kernel
theorem dX5_keeps_40 : decode cX5_keeps 40 = .ok (.iadd, 1) := by decide +kernel
theorem dX5_keeps_41 : decode cX5_keeps 41 = .ok (.dup2, 1) := by decide +kernel
theorem dX5_keeps_42 : decode cX5_keeps 42 = .ok (.iaload, 1) := by decide +kernel
theorem dX5_keeps_43 : decode cX5_keeps 43 = .ok (.iconst 1, 1) := by decide +kernel
theorem dX5_keeps_44 : decode cX5_keeps 44 = .ok (.iadd, 1) := by decide +kernel
theorem dX5_keeps_45 : decode cX5_keeps 45 = .ok (.iastore, 1) := by decide +kernel
theorem dX5_keeps_46 : decode cX5_keeps 46 = .ok (.aload_n 0, 1) := by decide +kernel
theorem dX5_keeps_47 : decode cX5_keeps 47 = .ok (.iload_n 3, 1) := by decide +kernel
theorem dX5_keeps_48 : decode cX5_keeps 48 = .ok (.bipush 6, 2) := by decide +kernel
theorem dX5_keeps_50 : decode cX5_keeps 50 = .ok (.iadd, 1) := by decide +kernel
theorem dX5_keeps_51 : decode cX5_keeps 51 = .ok (.iaload, 1) := by decide +kernel
theorem dX5_keeps_52 : decode cX5_keeps 52 = .ok (.ireturn, 1) := by decide +kernel
theorem dX5_keep_0 : decode cX5_keep 0 = .ok (.aload_n 0, 1) := by decide +kernel
theorem dX5_keep_1 : decode cX5_keep 1 = .ok (.iconst 0, 1) := by decide +kernel
theorem dX5_keep_2 : decode cX5_keep 2 = .ok (.putfield 25, 3) := by decide +kernel
theorem dX5_keep_5 : decode cX5_keep 5 = .ok (.iload_n 1, 1) := by decide +kernel
theorem dX5_keep_6 : decode cX5_keep 6 = .ok (.invokestatic 63, 3) := by decide +kernel
theorem dX5_keep_9 : decode cX5_keep 9 = .ok (.ifCond .ne 9, 3) := by decide +kernel
theorem dX5_keep_12 : decode cX5_keep 12 = .ok (.aload_n 0, 1) := by decide +kernel
theorem dX5_keep_13 : decode cX5_keep 13 = .ok (.iconst 1, 1) := by decide +kernel
theorem dX5_keep_14 : decode cX5_keep 14 = .ok (.invokevirtual 44, 3) := by decide +kernel
theorem dX5_keep_17 : decode cX5_keep 17 = .ok (.ireturn, 1) := by decide +kernel
theorem dX5_keep_18 : decode cX5_keep 18 = .ok (.iload_n 2, 1) := by decide +kernel
theorem dX5_keep_19 : decode cX5_keep 19 = .ok (.iconst 0, 1) := by decide +kernel
theorem dX5_keep_20 : decode cX5_keep 20 = .ok (.bipush 99, 2) := by decide +kernel
theorem dX5_keep_22 : decode cX5_keep 22 = .ok (.invokestatic 29, 3) := by decide +kernel
theorem dX5_keep_25 : decode cX5_keep 25 = .ok (.ifCond .ne 9, 3) := by decide +kernel
theorem dX5_keep_28 : decode cX5_keep 28 = .ok (.aload_n 0, 1) := by decide +kernel
theorem dX5_keep_29 : decode cX5_keep 29 = .ok (.iconst 2, 1) := by decide +kernel
theorem dX5_keep_30 : decode cX5_keep 30 = .ok (.invokevirtual 44, 3) := by decide +kernel
theorem dX5_keep_33 : decode cX5_keep 33 = .ok (.ireturn, 1) := by decide +kernel
theorem dX5_keep_34 : decode cX5_keep 34 = .ok (.aload_n 0, 1) := by decide +kernel
theorem dX5_keep_35 : decode cX5_keep 35 = .ok (.getfield 7, 3) := by decide +kernel
theorem dX5_keep_38 : decode cX5_keep 38 = .ok (.iload_n 1, 1) := by decide +kernel
theorem dX5_keep_39 : decode cX5_keep 39 = .ok (.iload_n 2, 1) := by decide +kernel
theorem dX5_keep_40 : decode cX5_keep 40 = .ok (.invokestatic 104, 3) := by decide +kernel
theorem dX5_keep_43 : decode cX5_keep 43 = .ok (.ifCond .ne 9, 3) := by decide +kernel
theorem dX5_keep_46 : decode cX5_keep 46 = .ok (.aload_n 0, 1) := by decide +kernel
theorem dX5_keep_47 : decode cX5_keep 47 = .ok (.iconst 3, 1) := by decide +kernel
theorem dX5_keep_48 : decode cX5_keep 48 = .ok (.invokevirtual 44, 3) := by decide +kernel
theorem dX5_keep_51 : decode cX5_keep 51 = .ok (.ireturn, 1) := by decide +kernel
theorem dX5_keep_52 : decode cX5_keep 52 = .ok (.aload_n 0, 1) := by decide +kernel
theorem dX5_keep_53 : decode cX5_keep 53 = .ok (.invokevirtual 70, 3) := by decide +kernel
theorem dX5_keep_56 : decode cX5_keep 56 = .ok (.aload_n 0, 1) := by decide +kernel
theorem dX5_keep_57 : decode cX5_keep 57 = .ok (.getfield 7, 3) := by decide +kernel
theorem dX5_keep_60 : decode cX5_keep 60 = .ok (.iload_n 1, 1) := by decide +kernel
theorem dX5_keep_61 : decode cX5_keep 61 = .ok (.iload_n 2, 1) := by decide +kernel
theorem dX5_keep_62 : decode cX5_keep 62 = .ok (.invokestatic 107, 3) := by decide +kernel
theorem dX5_keep_65 : decode cX5_keep 65 = .ok (.ireturn, 1) := by decide +kernel
theorem dX5_read_0 : decode cX5_read 0 = .ok (.aload_n 0, 1) := by decide +kernel
theorem dX5_read_1 : decode cX5_read 1 = .ok (.iconst 0, 1) := by decide +kernel
theorem dX5_read_2 : decode cX5_read 2 = .ok (.putfield 25, 3) := by decide +kernel
theorem dX5_read_5 : decode cX5_read 5 = .ok (.iload_n 1, 1) := by decide +kernel
theorem dX5_read_6 : decode cX5_read 6 = .ok (.iconst 0, 1) := by decide +kernel
theorem dX5_read_7 : decode cX5_read 7 = .ok (.bipush 99, 2) := by decide +kernel
theorem dX5_read_9 : decode cX5_read 9 = .ok (.invokestatic 29, 3) := by decide +kernel
theorem dX5_read_12 : decode cX5_read 12 = .ok (.ifCond .ne 9, 3) := by decide +kernel
theorem dX5_read_15 : decode cX5_read 15 = .ok (.aload_n 0, 1) := by decide +kernel
theorem dX5_read_16 : decode cX5_read 16 = .ok (.iconst 1, 1) := by decide +kernel
theorem dX5_read_17 : decode cX5_read 17 = .ok (.invokevirtual 44, 3) := by decide +kernel
theorem dX5_read_20 : decode cX5_read 20 = .ok (.ireturn, 1) := by decide +kernel
theorem dX5_read_21 : decode cX5_read 21 = .ok (.aload_n 0, 1) := by decide +kernel
theorem dX5_read_22 : decode cX5_read 22 = .ok (.invokevirtual 70, 3) := by decide +kernel
theorem dX5_read_25 : decode cX5_read 25 = .ok (.aload_n 0, 1) := by decide +kernel
theorem dX5_read_26 : decode cX5_read 26 = .ok (.getfield 7, 3) := by decide +kernel
theorem dX5_read_29 : decode cX5_read 29 = .ok (.iload_n 1, 1) := by decide +kernel
theorem dX5_read_30 : decode cX5_read 30 = .ok (.invokestatic 100, 3) := by decide +kernel
theorem dX5_read_33 : decode cX5_read 33 = .ok (.istore_n 2, 1) := by decide +kernel
theorem dX5_read_34 : decode cX5_read 34 = .ok (.iload_n 2, 1) := by decide +kernel
theorem dX5_read_35 : decode cX5_read 35 = .ok (.iconst (-1), 1) := by decide +kernel
theorem dX5_read_36 : decode cX5_read 36 = .ok (.if_icmp .ne 5, 3) := by decide +kernel
theorem dX5_read_39 : decode cX5_read 39 = .ok (.iconst (-1), 1) := by decide +kernel
theorem dX5_read_40 : decode cX5_read 40 = .ok (.ireturn, 1) := by decide +kernel
theorem dX5_read_41 : decode cX5_read 41 = .ok (.iload_n 2, 1) := by decide +kernel
theorem dX5_read_42 : decode cX5_read 42 = .ok (.iconst 4, 1) := by decide +kernel
theorem dX5_read_43 : decode cX5_read 43 = .ok (.idiv, 1) := by decide +kernel
theorem dX5_read_44 : decode cX5_read 44 = .ok (.istore_n 3, 1) := by decide +kernel
theorem dX5_read_45 : decode cX5_read 45 = .ok (.aload_n 0, 1) := by decide +kernel
theorem dX5_read_46 : decode cX5_read 46 = .ok (.getfield 7, 3) := by decide +kernel
theorem dX5_read_49 : decode cX5_read 49 = .ok (.iload_n 3, 1) := by decide +kernel
theorem dX5_read_50 : decode cX5_read 50 = .ok (.invokestatic 52, 3) := by decide +kernel
theorem dX5_read_53 : decode cX5_read 53 = .ok (.istore 4, 2) := by decide +kernel
theorem dX5_read_55 : decode cX5_read 55 = .ok (.aload_n 0, 1) := by decide +kernel
theorem dX5_read_56 : decode cX5_read 56 = .ok (.getfield 7, 3) := by decide +kernel
theorem dX5_read_59 : decode cX5_read 59 = .ok (.iconst 4, 1) := by decide +kernel
theorem dX5_read_60 : decode cX5_read 60 = .ok (.dup2, 1) := by decide +kernel
theorem dX5_read_61 : decode cX5_read 61 = .ok (.iaload, 1) := by decide +kernel
theorem dX5_read_62 : decode cX5_read 62 = .ok (.iconst 1, 1) := by decide +kernel
theorem dX5_read_63 : decode cX5_read 63 = .ok (.iadd, 1) := by decide +kernel
theorem dX5_read_64 : decode cX5_read 64 = .ok (.iastore, 1) := by decide +kernel
theorem dX5_read_65 : decode cX5_read 65 = .ok (.aload_n 0, 1) := by decide +kernel
theorem dX5_read_66 : decode cX5_read 66 = .ok (.getfield 7, 3) := by decide +kernel
theorem dX5_read_69 : decode cX5_read 69 = .ok (.iconst 5, 1) := by decide +kernel
theorem dX5_read_70 : decode cX5_read 70 = .ok (.dup2, 1) := by decide +kernel
theorem dX5_read_71 : decode cX5_read 71 = .ok (.iaload, 1) := by decide +kernel
theorem dX5_read_72 : decode cX5_read 72 = .ok (.iload 4, 2) := by decide +kernel
theorem dX5_read_74 : decode cX5_read 74 = .ok (.ifCond .eq 7, 3) := by decide +kernel
theorem dX5_read_77 : decode cX5_read 77 = .ok (.iconst 0, 1) := by decide +kernel
theorem dX5_read_78 : decode cX5_read 78 = .ok (.goto 4, 3) := by decide +kernel
theorem dX5_read_81 : decode cX5_read 81 = .ok (.iconst 1, 1) := by decide +kernel
theorem dX5_read_82 : decode cX5_read 82 = .ok (.iadd, 1) := by decide +kernel
theorem dX5_read_83 : decode cX5_read 83 = .ok (.iastore, 1) := by decide +kernel
theorem dX5_read_84 : decode cX5_read 84 = .ok (.aload_n 0, 1) := by decide +kernel
theorem dX5_read_85 : decode cX5_read 85 = .ok (.getfield 7, 3) := by decide +kernel
theorem dX5_read_88 : decode cX5_read 88 = .ok (.bipush 9, 2) := by decide +kernel
theorem dX5_read_90 : decode cX5_read 90 = .ok (.bipush 15, 2) := by decide +kernel
theorem dX5_read_92 : decode cX5_read 92 = .ok (.iload_n 3, 1) := by decide +kernel
theorem dX5_read_93 : decode cX5_read 93 = .ok (.imul, 1) := by decide +kernel
theorem dX5_read_94 : decode cX5_read 94 = .ok (.iadd, 1) := by decide +kernel
theorem dX5_read_95 : decode cX5_read 95 = .ok (.iconst 2, 1) := by decide +kernel
theorem dX5_read_96 : decode cX5_read 96 = .ok (.iadd, 1) := by decide +kernel
theorem dX5_read_97 : decode cX5_read 97 = .ok (.iload 4, 2) := by decide +kernel
theorem dX5_read_99 : decode cX5_read 99 = .ok (.ifCond .eq 7, 3) := by decide +kernel
theorem dX5_read_102 : decode cX5_read 102 = .ok (.iconst 0, 1) := by decide +kernel
theorem dX5_read_103 : decode cX5_read 103 = .ok (.goto 12, 3) := by decide +kernel
theorem dX5_read_106 : decode cX5_read 106 = .ok (.aload_n 0, 1) := by decide +kernel
theorem dX5_read_107 : decode cX5_read 107 = .ok (.getfield 7, 3) := by decide +kernel
theorem dX5_read_110 : decode cX5_read 110 = .ok (.iload_n 3, 1) := by decide +kernel
theorem dX5_read_111 : decode cX5_read 111 = .ok (.iconst 2, 1) := by decide +kernel
theorem dX5_read_112 : decode cX5_read 112 = .ok (.invokestatic 33, 3) := by decide +kernel
theorem dX5_read_115 : decode cX5_read 115 = .ok (.iastore, 1) := by decide +kernel
theorem dX5_read_116 : decode cX5_read 116 = .ok (.aload_n 0, 1) := by decide +kernel
theorem dX5_read_117 : decode cX5_read 117 = .ok (.getfield 7, 3) := by decide +kernel
theorem dX5_read_120 : decode cX5_read 120 = .ok (.iload 4, 2) := by decide +kernel
theorem dX5_read_122 : decode cX5_read 122 = .ok (.ifCond .eq 7, 3) := by decide +kernel
theorem dX5_read_125 : decode cX5_read 125 = .ok (.iconst 1, 1) := by decide +kernel
theorem dX5_read_126 : decode cX5_read 126 = .ok (.goto 4, 3) := by decide +kernel
theorem dX5_read_129 : decode cX5_read 129 = .ok (.iconst 3, 1) := by decide +kernel
theorem dX5_read_130 : decode cX5_read 130 = .ok (.invokestatic 110, 3) := by decide +kernel
theorem dX5_read_133 : decode cX5_read 133 = .ok (.iload_n 3, 1) := by decide +kernel
theorem dX5_read_134 : decode cX5_read 134 = .ok (.ireturn, 1) := by decide +kernel
theorem dX5_pass_0 : decode cX5_pass 0 = .ok (.aload_n 0, 1) := by decide +kernel
theorem dX5_pass_1 : decode cX5_pass 1 = .ok (.iconst 0, 1) := by decide +kernel
theorem dX5_pass_2 : decode cX5_pass 2 = .ok (.putfield 25, 3) := by decide +kernel
theorem dX5_pass_5 : decode cX5_pass 5 = .ok (.iload_n 1, 1) := by decide +kernel
theorem dX5_pass_6 : decode cX5_pass 6 = .ok (.iconst 1, 1) := by decide +kernel
theorem dX5_pass_7 : decode cX5_pass 7 = .ok (.bipush 60, 2) := by decide +kernel
theorem dX5_pass_9 : decode cX5_pass 9 = .ok (.invokestatic 29, 3) := by decide +kernel
theorem dX5_pass_12 : decode cX5_pass 12 = .ok (.ifCond .ne 9, 3) := by decide +kernel
theorem dX5_pass_15 : decode cX5_pass 15 = .ok (.aload_n 0, 1) := by decide +kernel
theorem dX5_pass_16 : decode cX5_pass 16 = .ok (.iconst 1, 1) := by decide +kernel
theorem dX5_pass_17 : decode cX5_pass 17 = .ok (.invokevirtual 44, 3) := by decide +kernel
theorem dX5_pass_20 : decode cX5_pass 20 = .ok (.ireturn, 1) := by decide +kernel
theorem dX5_pass_21 : decode cX5_pass 21 = .ok (.aload_n 0, 1) := by decide +kernel
theorem dX5_pass_22 : decode cX5_pass 22 = .ok (.invokevirtual 70, 3) := by decide +kernel
theorem dX5_pass_25 : decode cX5_pass 25 = .ok (.aload_n 0, 1) := by decide +kernel
theorem dX5_pass_26 : decode cX5_pass 26 = .ok (.getfield 7, 3) := by decide +kernel
theorem dX5_pass_29 : decode cX5_pass 29 = .ok (.iconst 3, 1) := by decide +kernel
theorem dX5_pass_30 : decode cX5_pass 30 = .ok (.iaload, 1) := by decide +kernel
theorem dX5_pass_31 : decode cX5_pass 31 = .ok (.istore_n 2, 1) := by decide +kernel
theorem dX5_pass_32 : decode cX5_pass 32 = .ok (.aload_n 0, 1) := by decide +kernel
theorem dX5_pass_33 : decode cX5_pass 33 = .ok (.getfield 7, 3) := by decide +kernel
theorem dX5_pass_36 : decode cX5_pass 36 = .ok (.iload_n 1, 1) := by decide +kernel
theorem dX5_pass_37 : decode cX5_pass 37 = .ok (.invokestatic 110, 3) := by decide +kernel
theorem dX5_pass_40 : decode cX5_pass 40 = .ok (.aload_n 0, 1) := by decide +kernel
theorem dX5_pass_41 : decode cX5_pass 41 = .ok (.getfield 7, 3) := by decide +kernel
theorem dX5_pass_44 : decode cX5_pass 44 = .ok (.iconst 3, 1) := by decide +kernel
theorem dX5_pass_45 : decode cX5_pass 45 = .ok (.iaload, 1) := by decide +kernel
theorem dX5_pass_46 : decode cX5_pass 46 = .ok (.iload_n 2, 1) := by decide +kernel
theorem dX5_pass_47 : decode cX5_pass 47 = .ok (.isub, 1) := by decide +kernel
theorem dX5_pass_48 : decode cX5_pass 48 = .ok (.ireturn, 1) := by decide +kernel
theorem dX5_append_0 : decode cX5_append 0 = .ok (.aload_n 0, 1) := by decide +kernel
theorem dX5_append_1 : decode cX5_append 1 = .ok (.iconst 0, 1) := by decide +kernel
theorem dX5_append_2 : decode cX5_append 2 = .ok (.putfield 25, 3) := by decide +kernel
theorem dX5_append_5 : decode cX5_append 5 = .ok (.iload_n 1, 1) := by decide +kernel
theorem dX5_append_6 : decode cX5_append 6 = .ok (.bipush 33, 2) := by decide +kernel
theorem dX5_append_8 : decode cX5_append 8 = .ok (.bipush 126, 2) := by decide +kernel
theorem dX5_append_10 : decode cX5_append 10 = .ok (.invokestatic 29, 3) := by decide +kernel
theorem dX5_append_13 : decode cX5_append 13 = .ok (.ifCond .ne 9, 3) := by decide +kernel
theorem dX5_append_16 : decode cX5_append 16 = .ok (.aload_n 0, 1) := by decide +kernel
theorem dX5_append_17 : decode cX5_append 17 = .ok (.iconst 1, 1) := by decide +kernel
theorem dX5_append_18 : decode cX5_append 18 = .ok (.invokevirtual 44, 3) := by decide +kernel
theorem dX5_append_21 : decode cX5_append 21 = .ok (.ireturn, 1) := by decide +kernel
theorem dX5_append_22 : decode cX5_append 22 = .ok (.aload_n 0, 1) := by decide +kernel
theorem dX5_append_23 : decode cX5_append 23 = .ok (.getfield 113, 3) := by decide +kernel
theorem dX5_append_26 : decode cX5_append 26 = .ok (.bipush 60, 2) := by decide +kernel
theorem dX5_append_28 : decode cX5_append 28 = .ok (.if_icmp .ne 9, 3) := by decide +kernel
theorem dX5_append_31 : decode cX5_append 31 = .ok (.aload_n 0, 1) := by decide +kernel
theorem dX5_append_32 : decode cX5_append 32 = .ok (.iconst 2, 1) := by decide +kernel
theorem dX5_append_33 : decode cX5_append 33 = .ok (.invokevirtual 44, 3) := by decide +kernel
theorem dX5_append_36 : decode cX5_append 36 = .ok (.ireturn, 1) := by decide +kernel
theorem dX5_append_37 : decode cX5_append 37 = .ok (.aload_n 0, 1) := by decide +kernel
theorem dX5_append_38 : decode cX5_append 38 = .ok (.getfield 19, 3) := by decide +kernel
theorem dX5_append_41 : decode cX5_append 41 = .ok (.aload_n 0, 1) := by decide +kernel
theorem dX5_append_42 : decode cX5_append 42 = .ok (.getfield 113, 3) := by decide +kernel
theorem dX5_append_45 : decode cX5_append 45 = .ok (.iload_n 1, 1) := by decide +kernel
theorem dX5_append_46 : decode cX5_append 46 = .ok (.iastore, 1) := by decide +kernel
theorem dX5_append_47 : decode cX5_append 47 = .ok (.aload_n 0, 1) := by decide +kernel
theorem dX5_append_48 : decode cX5_append 48 = .ok (.dup, 1) := by decide +kernel
theorem dX5_append_49 : decode cX5_append 49 = .ok (.getfield 113, 3) := by decide +kernel
theorem dX5_append_52 : decode cX5_append 52 = .ok (.iconst 1, 1) := by decide +kernel
theorem dX5_append_53 : decode cX5_append 53 = .ok (.iadd, 1) := by decide +kernel
theorem dX5_append_54 : decode cX5_append 54 = .ok (.putfield 113, 3) := by decide +kernel
theorem dX5_append_57 : decode cX5_append 57 = .ok (.aload_n 0, 1) := by decide +kernel
theorem dX5_append_58 : decode cX5_append 58 = .ok (.getfield 113, 3) := by decide +kernel
theorem dX5_append_61 : decode cX5_append 61 = .ok (.ireturn, 1) := by decide +kernel
theorem dX5_clearBuffer_0 : decode cX5_clearBuffer 0 = .ok (.aload_n 0, 1) := by decide +kernel
theorem dX5_clearBuffer_1 : decode cX5_clearBuffer 1 = .ok (.iconst 0, 1) := by decide +kernel
theorem dX5_clearBuffer_2 : decode cX5_clearBuffer 2 = .ok (.putfield 25, 3) := by decide +kernel
theorem dX5_clearBuffer_5 : decode cX5_clearBuffer 5 = .ok (.aload_n 0, 1) := by decide +kernel
theorem dX5_clearBuffer_6 : decode cX5_clearBuffer 6 = .ok (.getfield 113, 3) := by decide +kernel
theorem dX5_clearBuffer_9 : decode cX5_clearBuffer 9 = .ok (.istore_n 1, 1) := by decide +kernel
theorem dX5_clearBuffer_10 : decode cX5_clearBuffer 10 = .ok (.aload_n 0, 1) := by decide +kernel
theorem dX5_clearBuffer_11 : decode cX5_clearBuffer 11 = .ok (.iconst 0, 1) := by decide +kernel
theorem dX5_clearBuffer_12 : decode cX5_clearBuffer 12 = .ok (.putfield 113, 3) := by decide +kernel
theorem dX5_clearBuffer_15 : decode cX5_clearBuffer 15 = .ok (.iload_n 1, 1) := by decide +kernel
theorem dX5_clearBuffer_16 : decode cX5_clearBuffer 16 = .ok (.ireturn, 1) := by decide +kernel
theorem dX5_isAt_0 : decode cX5_isAt 0 = .ok (.aload_n 0, 1) := by decide +kernel
theorem dX5_isAt_1 : decode cX5_isAt 1 = .ok (.getfield 116, 3) := by decide +kernel
theorem dX5_isAt_4 : decode cX5_isAt 4 = .ok (.aload_n 0, 1) := by decide +kernel
theorem dX5_isAt_5 : decode cX5_isAt 5 = .ok (.getfield 113, 3) := by decide +kernel
theorem dX5_isAt_8 : decode cX5_isAt 8 = .ok (.if_icmp .ge 24, 3) := by decide +kernel
theorem dX5_isAt_11 : decode cX5_isAt 11 = .ok (.aload_n 0, 1) := by decide +kernel
theorem dX5_isAt_12 : decode cX5_isAt 12 = .ok (.getfield 19, 3) := by decide +kernel
theorem dX5_isAt_15 : decode cX5_isAt 15 = .ok (.aload_n 0, 1) := by decide +kernel
theorem dX5_isAt_16 : decode cX5_isAt 16 = .ok (.getfield 116, 3) := by decide +kernel
theorem dX5_isAt_19 : decode cX5_isAt 19 = .ok (.iaload, 1) := by decide +kernel
theorem dX5_isAt_20 : decode cX5_isAt 20 = .ok (.iload_n 1, 1) := by decide +kernel
theorem dX5_isAt_21 : decode cX5_isAt 21 = .ok (.iload_n 2, 1) := by decide +kernel
theorem dX5_isAt_22 : decode cX5_isAt 22 = .ok (.invokestatic 29, 3) := by decide +kernel
theorem dX5_isAt_25 : decode cX5_isAt 25 = .ok (.ifCond .eq 7, 3) := by decide +kernel
theorem dX5_isAt_28 : decode cX5_isAt 28 = .ok (.iconst 1, 1) := by decide +kernel
theorem dX5_isAt_29 : decode cX5_isAt 29 = .ok (.goto 4, 3) := by decide +kernel
theorem dX5_isAt_32 : decode cX5_isAt 32 = .ok (.iconst 0, 1) := by decide +kernel
theorem dX5_isAt_33 : decode cX5_isAt 33 = .ok (.ireturn, 1) := by decide +kernel
theorem dX5_stops_0 : decode cX5_stops 0 = .ok (.aload_n 0, 1) := by decide +kernel
theorem dX5_stops_1 : decode cX5_stops 1 = .ok (.aload_n 0, 1) := by decide +kernel
theorem dX5_stops_2 : decode cX5_stops 2 = .ok (.getfield 116, 3) := by decide +kernel
theorem dX5_stops_5 : decode cX5_stops 5 = .ok (.aload_n 0, 1) := by decide +kernel
theorem dX5_stops_6 : decode cX5_stops 6 = .ok (.getfield 113, 3) := by decide +kernel
theorem dX5_stops_9 : decode cX5_stops 9 = .ok (.if_icmp .ge 7, 3) := by decide +kernel
theorem dX5_stops_12 : decode cX5_stops 12 = .ok (.iconst 1, 1) := by decide +kernel
theorem dX5_stops_13 : decode cX5_stops 13 = .ok (.goto 4, 3) := by decide +kernel
theorem dX5_stops_16 : decode cX5_stops 16 = .ok (.iconst 0, 1) := by decide +kernel
theorem dX5_stops_17 : decode cX5_stops 17 = .ok (.putfield 119, 3) := by decide +kernel
theorem dX5_stops_20 : decode cX5_stops 20 = .ok (.iconst 0, 1) := by decide +kernel
theorem dX5_stops_21 : decode cX5_stops 21 = .ok (.ireturn, 1) := by decide +kernel
theorem dX5_isPart_0 : decode cX5_isPart 0 = .ok (.aload_n 0, 1) := by decide +kernel
theorem dX5_isPart_1 : decode cX5_isPart 1 = .ok (.bipush 48, 2) := by decide +kernel
theorem dX5_isPart_3 : decode cX5_isPart 3 = .ok (.bipush 53, 2) := by decide +kernel
theorem dX5_isPart_5 : decode cX5_isPart 5 = .ok (.invokevirtual 123, 3) := by decide +kernel
theorem dX5_isPart_8 : decode cX5_isPart 8 = .ok (.ifCond .ne 8, 3) := by decide +kernel
theorem dX5_isPart_11 : decode cX5_isPart 11 = .ok (.aload_n 0, 1) := by decide +kernel
theorem dX5_isPart_12 : decode cX5_isPart 12 = .ok (.invokevirtual 127, 3) := by decide +kernel
theorem dX5_isPart_15 : decode cX5_isPart 15 = .ok (.ireturn, 1) := by decide +kernel
theorem dX5_isPart_16 : decode cX5_isPart 16 = .ok (.aload_n 0, 1) := by decide +kernel
theorem dX5_isPart_17 : decode cX5_isPart 17 = .ok (.getfield 22, 3) := by decide +kernel
theorem dX5_isPart_20 : decode cX5_isPart 20 = .ok (.iconst 3, 1) := by decide +kernel
theorem dX5_isPart_21 : decode cX5_isPart 21 = .ok (.aload_n 0, 1) := by decide +kernel
theorem dX5_isPart_22 : decode cX5_isPart 22 = .ok (.getfield 131, 3) := by decide +kernel
theorem dX5_isPart_25 : decode cX5_isPart 25 = .ok (.imul, 1) := by decide +kernel
theorem dX5_isPart_26 : decode cX5_isPart 26 = .ok (.aload_n 0, 1) := by decide +kernel
theorem dX5_isPart_27 : decode cX5_isPart 27 = .ok (.getfield 19, 3) := by decide +kernel
theorem dX5_isPart_30 : decode cX5_isPart 30 = .ok (.aload_n 0, 1) := by decide +kernel
theorem dX5_isPart_31 : decode cX5_isPart 31 = .ok (.getfield 116, 3) := by decide +kernel
theorem dX5_isPart_34 : decode cX5_isPart 34 = .ok (.iaload, 1) := by decide +kernel
theorem dX5_isPart_35 : decode cX5_isPart 35 = .ok (.bipush 48, 2) := by decide +kernel
theorem dX5_isPart_37 : decode cX5_isPart 37 = .ok (.isub, 1) := by decide +kernel
theorem dX5_isPart_38 : decode cX5_isPart 38 = .ok (.iastore, 1) := by decide +kernel
theorem dX5_isPart_39 : decode cX5_isPart 39 = .ok (.aload_n 0, 1) := by decide +kernel
theorem dX5_isPart_40 : decode cX5_isPart 40 = .ok (.dup, 1) := by decide +kernel
theorem dX5_isPart_41 : decode cX5_isPart 41 = .ok (.getfield 116, 3) := by decide +kernel
theorem dX5_isPart_44 : decode cX5_isPart 44 = .ok (.iconst 1, 1) := by decide +kernel
theorem dX5_isPart_45 : decode cX5_isPart 45 = .ok (.iadd, 1) := by decide +kernel
theorem dX5_isPart_46 : decode cX5_isPart 46 = .ok (.putfield 116, 3) := by decide +kernel
theorem dX5_isPart_49 : decode cX5_isPart 49 = .ok (.aload_n 0, 1) := by decide +kernel
theorem dX5_isPart_50 : decode cX5_isPart 50 = .ok (.getfield 116, 3) := by decide +kernel
theorem dX5_isPart_53 : decode cX5_isPart 53 = .ok (.aload_n 0, 1) := by decide +kernel
theorem dX5_isPart_54 : decode cX5_isPart 54 = .ok (.getfield 113, 3) := by decide +kernel
theorem dX5_isPart_57 : decode cX5_isPart 57 = .ok (.if_icmp .ge 15, 3) := by decide +kernel
theorem dX5_isPart_60 : decode cX5_isPart 60 = .ok (.aload_n 0, 1) := by decide +kernel
theorem dX5_isPart_61 : decode cX5_isPart 61 = .ok (.getfield 19, 3) := by decide +kernel
theorem dX5_isPart_64 : decode cX5_isPart 64 = .ok (.aload_n 0, 1) := by decide +kernel
theorem dX5_isPart_65 : decode cX5_isPart 65 = .ok (.getfield 116, 3) := by decide +kernel
theorem dX5_isPart_68 : decode cX5_isPart 68 = .ok (.iaload, 1) := by decide +kernel
theorem dX5_isPart_69 : decode cX5_isPart 69 = .ok (.goto 4, 3) := by decide +kernel
theorem dX5_isPart_72 : decode cX5_isPart 72 = .ok (.iconst 0, 1) := by decide +kernel
theorem dX5_isPart_73 : decode cX5_isPart 73 = .ok (.istore_n 1, 1) := by decide +kernel
theorem dX5_isPart_74 : decode cX5_isPart 74 = .ok (.aload_n 0, 1) := by decide +kernel
theorem dX5_isPart_75 : decode cX5_isPart 75 = .ok (.getfield 22, 3) := by decide +kernel
theorem dX5_isPart_78 : decode cX5_isPart 78 = .ok (.iconst 3, 1) := by decide +kernel
theorem dX5_isPart_79 : decode cX5_isPart 79 = .ok (.aload_n 0, 1) := by decide +kernel
theorem dX5_isPart_80 : decode cX5_isPart 80 = .ok (.getfield 131, 3) := by decide +kernel
theorem dX5_isPart_83 : decode cX5_isPart 83 = .ok (.imul, 1) := by decide +kernel
theorem dX5_isPart_84 : decode cX5_isPart 84 = .ok (.iconst 1, 1) := by decide +kernel
theorem dX5_isPart_85 : decode cX5_isPart 85 = .ok (.iadd, 1) := by decide +kernel
theorem dX5_isPart_86 : decode cX5_isPart 86 = .ok (.iload_n 1, 1) := by decide +kernel
theorem dX5_isPart_87 : decode cX5_isPart 87 = .ok (.iastore, 1) := by decide +kernel
theorem dX5_isPart_88 : decode cX5_isPart 88 = .ok (.iload_n 1, 1) := by decide +kernel
theorem dX5_isPart_89 : decode cX5_isPart 89 = .ok (.bipush 42, 2) := by decide +kernel
theorem dX5_isPart_91 : decode cX5_isPart 91 = .ok (.if_icmp .eq 38, 3) := by decide +kernel
theorem dX5_isPart_94 : decode cX5_isPart 94 = .ok (.iload_n 1, 1) := by decide +kernel
theorem dX5_isPart_95 : decode cX5_isPart 95 = .ok (.bipush 60, 2) := by decide +kernel
theorem dX5_isPart_97 : decode cX5_isPart 97 = .ok (.if_icmp .eq 32, 3) := by decide +kernel
theorem dX5_isPart_100 : decode cX5_isPart 100 = .ok (.iload_n 1, 1) := by decide +kernel
theorem dX5_isPart_101 : decode cX5_isPart 101 = .ok (.bipush 62, 2) := by decide +kernel
theorem dX5_isPart_103 : decode cX5_isPart 103 = .ok (.if_icmp .eq 26, 3) := by decide +kernel
theorem dX5_isPart_106 : decode cX5_isPart 106 = .ok (.iload_n 1, 1) := by decide +kernel
theorem dX5_isPart_107 : decode cX5_isPart 107 = .ok (.bipush 110, 2) := by decide +kernel
theorem dX5_isPart_109 : decode cX5_isPart 109 = .ok (.if_icmp .eq 20, 3) := by decide +kernel
theorem dX5_isPart_112 : decode cX5_isPart 112 = .ok (.iload_n 1, 1) := by decide +kernel
theorem dX5_isPart_113 : decode cX5_isPart 113 = .ok (.bipush 98, 2) := by decide +kernel
theorem dX5_isPart_115 : decode cX5_isPart 115 = .ok (.if_icmp .eq 14, 3) := by decide +kernel
theorem dX5_isPart_118 : decode cX5_isPart 118 = .ok (.iload_n 1, 1) := by decide +kernel
theorem dX5_isPart_119 : decode cX5_isPart 119 = .ok (.bipush 43, 2) := by decide +kernel
theorem dX5_isPart_121 : decode cX5_isPart 121 = .ok (.if_icmp .eq 8, 3) := by decide +kernel
theorem dX5_isPart_124 : decode cX5_isPart 124 = .ok (.aload_n 0, 1) := by decide +kernel
theorem dX5_isPart_125 : decode cX5_isPart 125 = .ok (.invokevirtual 127, 3) := by decide +kernel
theorem dX5_isPart_128 : decode cX5_isPart 128 = .ok (.ireturn, 1) := by decide +kernel
theorem dX5_isPart_129 : decode cX5_isPart 129 = .ok (.aload_n 0, 1) := by decide +kernel
theorem dX5_isPart_130 : decode cX5_isPart 130 = .ok (.dup, 1) := by decide +kernel
theorem dX5_isPart_131 : decode cX5_isPart 131 = .ok (.getfield 116, 3) := by decide +kernel
theorem dX5_isPart_134 : decode cX5_isPart 134 = .ok (.iconst 1, 1) := by decide +kernel
theorem dX5_isPart_135 : decode cX5_isPart 135 = .ok (.iadd, 1) := by decide +kernel
theorem dX5_isPart_136 : decode cX5_isPart 136 = .ok (.putfield 116, 3) := by decide +kernel
theorem dX5_isPart_139 : decode cX5_isPart 139 = .ok (.iload_n 1, 1) := by decide +kernel
theorem dX5_isPart_140 : decode cX5_isPart 140 = .ok (.bipush 98, 2) := by decide +kernel
theorem dX5_isPart_142 : decode cX5_isPart 142 = .ok (.if_icmp .eq 9, 3) := by decide +kernel
theorem dX5_isPart_145 : decode cX5_isPart 145 = .ok (.iload_n 1, 1) := by decide +kernel
theorem dX5_isPart_146 : decode cX5_isPart 146 = .ok (.bipush 43, 2) := by decide +kernel
theorem dX5_isPart_148 : decode cX5_isPart 148 = .ok (.if_icmp .ne 43, 3) := by decide +kernel
theorem dX5_isPart_151 : decode cX5_isPart 151 = .ok (.aload_n 0, 1) := by decide +kernel
theorem dX5_isPart_152 : decode cX5_isPart 152 = .ok (.iload_n 1, 1) := by decide +kernel
theorem dX5_isPart_153 : decode cX5_isPart 153 = .ok (.bipush 98, 2) := by decide +kernel
theorem dX5_isPart_155 : decode cX5_isPart 155 = .ok (.if_icmp .ne 7, 3) := by decide +kernel
theorem dX5_isPart_158 : decode cX5_isPart 158 = .ok (.iconst 1, 1) := by decide +kernel
theorem dX5_isPart_159 : decode cX5_isPart 159 = .ok (.goto 4, 3) := by decide +kernel
theorem dX5_isPart_162 : decode cX5_isPart 162 = .ok (.iconst 0, 1) := by decide +kernel
theorem dX5_isPart_163 : decode cX5_isPart 163 = .ok (.iload_n 1, 1) := by decide +kernel
theorem dX5_isPart_164 : decode cX5_isPart 164 = .ok (.bipush 98, 2) := by decide +kernel
theorem dX5_isPart_166 : decode cX5_isPart 166 = .ok (.if_icmp .ne 8, 3) := by decide +kernel
theorem dX5_isPart_169 : decode cX5_isPart 169 = .ok (.bipush 6, 2) := by decide +kernel
theorem dX5_isPart_171 : decode cX5_isPart 171 = .ok (.goto 5, 3) := by decide +kernel
theorem dX5_isPart_174 : decode cX5_isPart 174 = .ok (.bipush 9, 2) := by decide +kernel
theorem dX5_isPart_176 : decode cX5_isPart 176 = .ok (.iload_n 1, 1) := by decide +kernel
theorem dX5_isPart_177 : decode cX5_isPart 177 = .ok (.bipush 43, 2) := by decide +kernel
theorem dX5_isPart_179 : decode cX5_isPart 179 = .ok (.if_icmp .ne 7, 3) := by decide +kernel
theorem dX5_isPart_182 : decode cX5_isPart 182 = .ok (.iconst 1, 1) := by decide +kernel
theorem dX5_isPart_183 : decode cX5_isPart 183 = .ok (.goto 4, 3) := by decide +kernel
theorem dX5_isPart_186 : decode cX5_isPart 186 = .ok (.iconst 0, 1) := by decide +kernel
theorem dX5_isPart_187 : decode cX5_isPart 187 = .ok (.invokevirtual 134, 3) := by decide +kernel
theorem dX5_isPart_190 : decode cX5_isPart 190 = .ok (.ireturn, 1) := by decide +kernel
theorem dX5_isPart_191 : decode cX5_isPart 191 = .ok (.iconst 1, 1) := by decide +kernel
theorem dX5_isPart_192 : decode cX5_isPart 192 = .ok (.ireturn, 1) := by decide +kernel
theorem dX5_isNumber_0 : decode cX5_isNumber 0 = .ok (.aload_n 0, 1) := by decide +kernel
theorem dX5_isNumber_1 : decode cX5_isNumber 1 = .ok (.bipush 48, 2) := by decide +kernel
theorem dX5_isNumber_3 : decode cX5_isNumber 3 = .ok (.iload_n 1, 1) := by decide +kernel
theorem dX5_isNumber_4 : decode cX5_isNumber 4 = .ok (.iadd, 1) := by decide +kernel
theorem dX5_isNumber_5 : decode cX5_isNumber 5 = .ok (.bipush 48, 2) := by decide +kernel
theorem dX5_isNumber_7 : decode cX5_isNumber 7 = .ok (.iload_n 2, 1) := by decide +kernel
theorem dX5_isNumber_8 : decode cX5_isNumber 8 = .ok (.iadd, 1) := by decide +kernel
theorem dX5_isNumber_9 : decode cX5_isNumber 9 = .ok (.invokevirtual 123, 3) := by decide +kernel
theorem dX5_isNumber_12 : decode cX5_isNumber 12 = .ok (.ifCond .ne 8, 3) := by decide +kernel
theorem dX5_isNumber_15 : decode cX5_isNumber 15 = .ok (.aload_n 0, 1) := by decide +kernel
theorem dX5_isNumber_16 : decode cX5_isNumber 16 = .ok (.invokevirtual 127, 3) := by decide +kernel
theorem dX5_isNumber_19 : decode cX5_isNumber 19 = .ok (.ireturn, 1) := by decide +kernel
theorem dX5_isNumber_20 : decode cX5_isNumber 20 = .ok (.aload_n 0, 1) := by decide +kernel
theorem dX5_isNumber_21 : decode cX5_isNumber 21 = .ok (.getfield 19, 3) := by decide +kernel
theorem dX5_isNumber_24 : decode cX5_isNumber 24 = .ok (.aload_n 0, 1) := by decide +kernel
theorem dX5_isNumber_25 : decode cX5_isNumber 25 = .ok (.getfield 116, 3) := by decide +kernel
theorem dX5_isNumber_28 : decode cX5_isNumber 28 = .ok (.iaload, 1) := by decide +kernel
theorem dX5_isNumber_29 : decode cX5_isNumber 29 = .ok (.bipush 48, 2) := by decide +kernel
theorem dX5_isNumber_31 : decode cX5_isNumber 31 = .ok (.isub, 1) := by decide +kernel
theorem dX5_isNumber_32 : decode cX5_isNumber 32 = .ok (.istore 4, 2) := by decide +kernel
theorem dX5_isNumber_34 : decode cX5_isNumber 34 = .ok (.aload_n 0, 1) := by decide +kernel
theorem dX5_isNumber_35 : decode cX5_isNumber 35 = .ok (.dup, 1) := by decide +kernel
theorem dX5_isNumber_36 : decode cX5_isNumber 36 = .ok (.getfield 116, 3) := by decide +kernel
theorem dX5_isNumber_39 : decode cX5_isNumber 39 = .ok (.iconst 1, 1) := by decide +kernel
theorem dX5_isNumber_40 : decode cX5_isNumber 40 = .ok (.iadd, 1) := by decide +kernel
theorem dX5_isNumber_41 : decode cX5_isNumber 41 = .ok (.putfield 116, 3) := by decide +kernel
theorem dX5_isNumber_44 : decode cX5_isNumber 44 = .ok (.iload_n 3, 1) := by decide +kernel
theorem dX5_isNumber_45 : decode cX5_isNumber 45 = .ok (.ifCond .eq 49, 3) := by decide +kernel
theorem dX5_isNumber_48 : decode cX5_isNumber 48 = .ok (.iload 4, 2) := by decide +kernel
theorem dX5_isNumber_50 : decode cX5_isNumber 50 = .ok (.ifCond .le 44, 3) := by decide +kernel
theorem dX5_isNumber_53 : decode cX5_isNumber 53 = .ok (.aload_n 0, 1) := by decide +kernel
theorem dX5_isNumber_54 : decode cX5_isNumber 54 = .ok (.bipush 48, 2) := by decide +kernel
theorem dX5_isNumber_56 : decode cX5_isNumber 56 = .ok (.bipush 57, 2) := by decide +kernel
theorem dX5_isNumber_58 : decode cX5_isNumber 58 = .ok (.invokevirtual 123, 3) := by decide +kernel
theorem dX5_isNumber_61 : decode cX5_isNumber 61 = .ok (.ifCond .eq 33, 3) := by decide +kernel
theorem dX5_isNumber_64 : decode cX5_isNumber 64 = .ok (.bipush 10, 2) := by decide +kernel
theorem dX5_isNumber_66 : decode cX5_isNumber 66 = .ok (.iload 4, 2) := by decide +kernel
theorem dX5_isNumber_68 : decode cX5_isNumber 68 = .ok (.imul, 1) := by decide +kernel
theorem dX5_isNumber_69 : decode cX5_isNumber 69 = .ok (.aload_n 0, 1) := by decide +kernel
theorem dX5_isNumber_70 : decode cX5_isNumber 70 = .ok (.getfield 19, 3) := by decide +kernel
theorem dX5_isNumber_73 : decode cX5_isNumber 73 = .ok (.aload_n 0, 1) := by decide +kernel
theorem dX5_isNumber_74 : decode cX5_isNumber 74 = .ok (.getfield 116, 3) := by decide +kernel
theorem dX5_isNumber_77 : decode cX5_isNumber 77 = .ok (.iaload, 1) := by decide +kernel
theorem dX5_isNumber_78 : decode cX5_isNumber 78 = .ok (.iadd, 1) := by decide +kernel
theorem dX5_isNumber_79 : decode cX5_isNumber 79 = .ok (.bipush 48, 2) := by decide +kernel
theorem dX5_isNumber_81 : decode cX5_isNumber 81 = .ok (.isub, 1) := by decide +kernel
theorem dX5_isNumber_82 : decode cX5_isNumber 82 = .ok (.istore 4, 2) := by decide +kernel
theorem dX5_isNumber_84 : decode cX5_isNumber 84 = .ok (.aload_n 0, 1) := by decide +kernel
theorem dX5_isNumber_85 : decode cX5_isNumber 85 = .ok (.dup, 1) := by decide +kernel
theorem dX5_isNumber_86 : decode cX5_isNumber 86 = .ok (.getfield 116, 3) := by decide +kernel
theorem dX5_isNumber_89 : decode cX5_isNumber 89 = .ok (.iconst 1, 1) := by decide +kernel
theorem dX5_isNumber_90 : decode cX5_isNumber 90 = .ok (.iadd, 1) := by decide +kernel
theorem dX5_isNumber_91 : decode cX5_isNumber 91 = .ok (.putfield 116, 3) := by decide +kernel
theorem dX5_isNumber_94 : decode cX5_isNumber 94 = .ok (.aload_n 0, 1) := by decide +kernel
theorem dX5_isNumber_95 : decode cX5_isNumber 95 = .ok (.getfield 22, 3) := by decide +kernel
theorem dX5_isNumber_98 : decode cX5_isNumber 98 = .ok (.iconst 3, 1) := by decide +kernel
theorem dX5_isNumber_99 : decode cX5_isNumber 99 = .ok (.aload_n 0, 1) := by decide +kernel
theorem dX5_isNumber_100 : decode cX5_isNumber 100 = .ok (.getfield 131, 3) := by decide +kernel
theorem dX5_isNumber_103 : decode cX5_isNumber 103 = .ok (.imul, 1) := by decide +kernel
theorem dX5_isNumber_104 : decode cX5_isNumber 104 = .ok (.iconst 2, 1) := by decide +kernel
theorem dX5_isNumber_105 : decode cX5_isNumber 105 = .ok (.iadd, 1) := by decide +kernel
theorem dX5_isNumber_106 : decode cX5_isNumber 106 = .ok (.iload 4, 2) := by decide +kernel
theorem dX5_isNumber_108 : decode cX5_isNumber 108 = .ok (.iastore, 1) := by decide +kernel
theorem dX5_isNumber_109 : decode cX5_isNumber 109 = .ok (.iconst 1, 1) := by decide +kernel
theorem dX5_isNumber_110 : decode cX5_isNumber 110 = .ok (.ireturn, 1) := by decide +kernel
theorem dX5_isText_0 : decode cX5_isText 0 = .ok (.aload_n 0, 1) := by decide +kernel
theorem dX5_isText_1 : decode cX5_isText 1 = .ok (.iconst 0, 1) := by decide +kernel
theorem dX5_isText_2 : decode cX5_isText 2 = .ok (.putfield 116, 3) := by decide +kernel
theorem dX5_isText_5 : decode cX5_isText 5 = .ok (.aload_n 0, 1) := by decide +kernel
theorem dX5_isText_6 : decode cX5_isText 6 = .ok (.iconst 0, 1) := by decide +kernel
theorem dX5_isText_7 : decode cX5_isText 7 = .ok (.putfield 131, 3) := by decide +kernel
theorem dX5_isText_10 : decode cX5_isText 10 = .ok (.aload_n 0, 1) := by decide +kernel
theorem dX5_isText_11 : decode cX5_isText 11 = .ok (.iconst 0, 1) := by decide +kernel
theorem dX5_isText_12 : decode cX5_isText 12 = .ok (.putfield 119, 3) := by decide +kernel
theorem dX5_isText_15 : decode cX5_isText 15 = .ok (.iconst 1, 1) := by decide +kernel
theorem dX5_isText_16 : decode cX5_isText 16 = .ok (.istore_n 1, 1) := by decide +kernel
theorem dX5_isText_17 : decode cX5_isText 17 = .ok (.iload_n 1, 1) := by decide +kernel
theorem dX5_isText_18 : decode cX5_isText 18 = .ok (.ifCond .eq 52, 3) := by decide +kernel
theorem dX5_isText_21 : decode cX5_isText 21 = .ok (.aload_n 0, 1) := by decide +kernel
theorem dX5_isText_22 : decode cX5_isText 22 = .ok (.invokevirtual 138, 3) := by decide +kernel
theorem dX5_isText_25 : decode cX5_isText 25 = .ok (.ifCond .ne 5, 3) := by decide +kernel
theorem dX5_isText_28 : decode cX5_isText 28 = .ok (.iconst 0, 1) := by decide +kernel
theorem dX5_isText_29 : decode cX5_isText 29 = .ok (.ireturn, 1) := by decide +kernel
theorem dX5_isText_30 : decode cX5_isText 30 = .ok (.aload_n 0, 1) := by decide +kernel
theorem dX5_isText_31 : decode cX5_isText 31 = .ok (.dup, 1) := by decide +kernel
theorem dX5_isText_32 : decode cX5_isText 32 = .ok (.getfield 131, 3) := by decide +kernel
theorem dX5_isText_35 : decode cX5_isText 35 = .ok (.iconst 1, 1) := by decide +kernel
theorem dX5_isText_36 : decode cX5_isText 36 = .ok (.iadd, 1) := by decide +kernel
theorem dX5_isText_37 : decode cX5_isText 37 = .ok (.putfield 131, 3) := by decide +kernel
theorem dX5_isText_40 : decode cX5_isText 40 = .ok (.aload_n 0, 1) := by decide +kernel
theorem dX5_isText_41 : decode cX5_isText 41 = .ok (.bipush 44, 2) := by decide +kernel
theorem dX5_isText_43 : decode cX5_isText 43 = .ok (.bipush 44, 2) := by decide +kernel
theorem dX5_isText_45 : decode cX5_isText 45 = .ok (.invokevirtual 123, 3) := by decide +kernel
theorem dX5_isText_48 : decode cX5_isText 48 = .ok (.istore_n 1, 1) := by decide +kernel
theorem dX5_isText_49 : decode cX5_isText 49 = .ok (.aload_n 0, 1) := by decide +kernel
theorem dX5_isText_50 : decode cX5_isText 50 = .ok (.dup, 1) := by decide +kernel
theorem dX5_isText_51 : decode cX5_isText 51 = .ok (.getfield 116, 3) := by decide +kernel
theorem dX5_isText_54 : decode cX5_isText 54 = .ok (.iload_n 1, 1) := by decide +kernel
theorem dX5_isText_55 : decode cX5_isText 55 = .ok (.ifCond .eq 7, 3) := by decide +kernel
theorem dX5_isText_58 : decode cX5_isText 58 = .ok (.iconst 1, 1) := by decide +kernel
theorem dX5_isText_59 : decode cX5_isText 59 = .ok (.goto 4, 3) := by decide +kernel
theorem dX5_isText_62 : decode cX5_isText 62 = .ok (.iconst 0, 1) := by decide +kernel
theorem dX5_isText_63 : decode cX5_isText 63 = .ok (.iadd, 1) := by decide +kernel
theorem dX5_isText_64 : decode cX5_isText 64 = .ok (.putfield 116, 3) := by decide +kernel
theorem dX5_isText_67 : decode cX5_isText 67 = .ok (.goto (-50), 3) := by decide +kernel
theorem dX5_isText_70 : decode cX5_isText 70 = .ok (.aload_n 0, 1) := by decide +kernel
theorem dX5_isText_71 : decode cX5_isText 71 = .ok (.aload_n 0, 1) := by decide +kernel
theorem dX5_isText_72 : decode cX5_isText 72 = .ok (.getfield 116, 3) := by decide +kernel
theorem dX5_isText_75 : decode cX5_isText 75 = .ok (.aload_n 0, 1) := by decide +kernel
theorem dX5_isText_76 : decode cX5_isText 76 = .ok (.getfield 113, 3) := by decide +kernel
theorem dX5_isText_79 : decode cX5_isText 79 = .ok (.if_icmp .ge 7, 3) := by decide +kernel
theorem dX5_isText_82 : decode cX5_isText 82 = .ok (.iconst 1, 1) := by decide +kernel
theorem dX5_isText_83 : decode cX5_isText 83 = .ok (.goto 4, 3) := by decide +kernel
theorem dX5_isText_86 : decode cX5_isText 86 = .ok (.iconst 0, 1) := by decide +kernel
theorem dX5_isText_87 : decode cX5_isText 87 = .ok (.putfield 119, 3) := by decide +kernel
theorem dX5_isText_90 : decode cX5_isText 90 = .ok (.aload_n 0, 1) := by decide +kernel
theorem dX5_isText_91 : decode cX5_isText 91 = .ok (.getfield 116, 3) := by decide +kernel
theorem dX5_isText_94 : decode cX5_isText 94 = .ok (.aload_n 0, 1) := by decide +kernel
theorem dX5_isText_95 : decode cX5_isText 95 = .ok (.getfield 113, 3) := by decide +kernel
theorem dX5_isText_98 : decode cX5_isText 98 = .ok (.if_icmp .ne 7, 3) := by decide +kernel
theorem dX5_isText_101 : decode cX5_isText 101 = .ok (.iconst 1, 1) := by decide +kernel
theorem dX5_isText_102 : decode cX5_isText 102 = .ok (.goto 4, 3) := by decide +kernel
theorem dX5_isText_105 : decode cX5_isText 105 = .ok (.iconst 0, 1) := by decide +kernel
theorem dX5_isText_106 : decode cX5_isText 106 = .ok (.ireturn, 1) := by decide +kernel
theorem dX5_firstError_0 : decode cX5_firstError 0 = .ok (.aload_n 0, 1) := by decide +kernel
theorem dX5_firstError_1 : decode cX5_firstError 1 = .ok (.iconst 0, 1) := by decide +kernel
theorem dX5_firstError_2 : decode cX5_firstError 2 = .ok (.putfield 25, 3) := by decide +kernel
theorem dX5_firstError_5 : decode cX5_firstError 5 = .ok (.aload_n 0, 1) := by decide +kernel
theorem dX5_firstError_6 : decode cX5_firstError 6 = .ok (.invokevirtual 141, 3) := by decide +kernel
theorem dX5_firstError_9 : decode cX5_firstError 9 = .ok (.istore_n 1, 1) := by decide +kernel
theorem dX5_firstError_10 : decode cX5_firstError 10 = .ok (.iload_n 1, 1) := by decide +kernel
theorem dX5_firstError_11 : decode cX5_firstError 11 = .ok (.ifCond .ne 17, 3) := by decide +kernel
theorem dX5_firstError_14 : decode cX5_firstError 14 = .ok (.aload_n 0, 1) := by decide +kernel
theorem dX5_firstError_15 : decode cX5_firstError 15 = .ok (.getfield 119, 3) := by decide +kernel
theorem dX5_firstError_18 : decode cX5_firstError 18 = .ok (.ifCond .eq 10, 3) := by decide +kernel
theorem dX5_firstError_21 : decode cX5_firstError 21 = .ok (.aload_n 0, 1) := by decide +kernel
theorem dX5_firstError_22 : decode cX5_firstError 22 = .ok (.getfield 116, 3) := by decide +kernel
theorem dX5_firstError_25 : decode cX5_firstError 25 = .ok (.goto 7, 3) := by decide +kernel
theorem dX5_firstError_28 : decode cX5_firstError 28 = .ok (.aload_n 0, 1) := by decide +kernel
theorem dX5_firstError_29 : decode cX5_firstError 29 = .ok (.getfield 113, 3) := by decide +kernel
theorem dX5_firstError_32 : decode cX5_firstError 32 = .ok (.ireturn, 1) := by decide +kernel
theorem dX5_does_0 : decode cX5_does 0 = .ok (.aload_n 0, 1) := by decide +kernel
theorem dX5_does_1 : decode cX5_does 1 = .ok (.getfield 22, 3) := by decide +kernel
theorem dX5_does_4 : decode cX5_does 4 = .ok (.iconst 3, 1) := by decide +kernel
theorem dX5_does_5 : decode cX5_does 5 = .ok (.iload_n 1, 1) := by decide +kernel
theorem dX5_does_6 : decode cX5_does 6 = .ok (.imul, 1) := by decide +kernel
theorem dX5_does_7 : decode cX5_does 7 = .ok (.iaload, 1) := by decide +kernel
theorem dX5_does_8 : decode cX5_does 8 = .ok (.istore_n 2, 1) := by decide +kernel
theorem dX5_does_9 : decode cX5_does 9 = .ok (.aload_n 0, 1) := by decide +kernel
theorem dX5_does_10 : decode cX5_does 10 = .ok (.getfield 22, 3) := by decide +kernel
theorem dX5_does_13 : decode cX5_does 13 = .ok (.iconst 3, 1) := by decide +kernel
theorem dX5_does_14 : decode cX5_does 14 = .ok (.iload_n 1, 1) := by decide +kernel
theorem dX5_does_15 : decode cX5_does 15 = .ok (.imul, 1) := by decide +kernel
theorem dX5_does_16 : decode cX5_does 16 = .ok (.iconst 1, 1) := by decide +kernel
theorem dX5_does_17 : decode cX5_does 17 = .ok (.iadd, 1) := by decide +kernel
theorem dX5_does_18 : decode cX5_does 18 = .ok (.iaload, 1) := by decide +kernel
theorem dX5_does_19 : decode cX5_does 19 = .ok (.istore_n 3, 1) := by decide +kernel
theorem dX5_does_20 : decode cX5_does 20 = .ok (.aload_n 0, 1) := by decide +kernel
theorem dX5_does_21 : decode cX5_does 21 = .ok (.getfield 22, 3) := by decide +kernel
theorem dX5_does_24 : decode cX5_does 24 = .ok (.iconst 3, 1) := by decide +kernel
theorem dX5_does_25 : decode cX5_does 25 = .ok (.iload_n 1, 1) := by decide +kernel
theorem dX5_does_26 : decode cX5_does 26 = .ok (.imul, 1) := by decide +kernel
theorem dX5_does_27 : decode cX5_does 27 = .ok (.iconst 2, 1) := by decide +kernel
theorem dX5_does_28 : decode cX5_does 28 = .ok (.iadd, 1) := by decide +kernel
theorem dX5_does_29 : decode cX5_does 29 = .ok (.iaload, 1) := by decide +kernel
theorem dX5_does_30 : decode cX5_does 30 = .ok (.istore 4, 2) := by decide +kernel
theorem dX5_does_32 : decode cX5_does 32 = .ok (.iload_n 2, 1) := by decide +kernel
theorem dX5_does_33 : decode cX5_does 33 = .ok (.iload_n 3, 1) := by decide +kernel
theorem dX5_does_34 : decode cX5_does 34 = .ok (.bipush 60, 2) := by decide +kernel
theorem dX5_does_36 : decode cX5_does 36 = .ok (.if_icmp .ne 7, 3) := by decide +kernel
theorem dX5_does_39 : decode cX5_does 39 = .ok (.iconst 5, 1) := by decide +kernel
theorem dX5_does_40 : decode cX5_does 40 = .ok (.goto 4, 3) := by decide +kernel
theorem dX5_does_43 : decode cX5_does 43 = .ok (.iconst 1, 1) := by decide +kernel
theorem dX5_does_44 : decode cX5_does 44 = .ok (.iadd, 1) := by decide +kernel
theorem dX5_does_45 : decode cX5_does 45 = .ok (.bipush 6, 2) := by decide +kernel
theorem dX5_does_47 : decode cX5_does 47 = .ok (.irem, 1) := by decide +kernel
theorem dX5_does_48 : decode cX5_does 48 = .ok (.istore 5, 2) := by decide +kernel
theorem dX5_does_50 : decode cX5_does 50 = .ok (.iload_n 3, 1) := by decide +kernel
theorem dX5_does_51 : decode cX5_does 51 = .ok (.bipush 42, 2) := by decide +kernel
theorem dX5_does_53 : decode cX5_does 53 = .ok (.if_icmp .ne 14, 3) := by decide +kernel
theorem dX5_does_56 : decode cX5_does 56 = .ok (.aload_n 0, 1) := by decide +kernel
theorem dX5_does_57 : decode cX5_does 57 = .ok (.getfield 7, 3) := by decide +kernel
theorem dX5_does_60 : decode cX5_does 60 = .ok (.iload_n 2, 1) := by decide +kernel
theorem dX5_does_61 : decode cX5_does 61 = .ok (.invokestatic 67, 3) := by decide +kernel
theorem dX5_does_64 : decode cX5_does 64 = .ok (.goto 33, 3) := by decide +kernel
theorem dX5_does_67 : decode cX5_does 67 = .ok (.iload_n 3, 1) := by decide +kernel
theorem dX5_does_68 : decode cX5_does 68 = .ok (.bipush 60, 2) := by decide +kernel
theorem dX5_does_70 : decode cX5_does 70 = .ok (.if_icmp .eq 9, 3) := by decide +kernel
theorem dX5_does_73 : decode cX5_does 73 = .ok (.iload_n 3, 1) := by decide +kernel
theorem dX5_does_74 : decode cX5_does 74 = .ok (.bipush 62, 2) := by decide +kernel
theorem dX5_does_76 : decode cX5_does 76 = .ok (.if_icmp .ne 20, 3) := by decide +kernel
theorem dX5_does_79 : decode cX5_does 79 = .ok (.aload_n 0, 1) := by decide +kernel
theorem dX5_does_80 : decode cX5_does 80 = .ok (.getfield 7, 3) := by decide +kernel
theorem dX5_does_83 : decode cX5_does 83 = .ok (.iload_n 2, 1) := by decide +kernel
theorem dX5_does_84 : decode cX5_does 84 = .ok (.iload 5, 2) := by decide +kernel
theorem dX5_does_86 : decode cX5_does 86 = .ok (.invokestatic 77, 3) := by decide +kernel
theorem dX5_does_89 : decode cX5_does 89 = .ok (.ifCond .eq 7, 3) := by decide +kernel
theorem dX5_does_92 : decode cX5_does 92 = .ok (.iconst 1, 1) := by decide +kernel
theorem dX5_does_93 : decode cX5_does 93 = .ok (.goto 4, 3) := by decide +kernel
theorem dX5_does_96 : decode cX5_does 96 = .ok (.iconst 0, 1) := by decide +kernel
theorem dX5_does_97 : decode cX5_does 97 = .ok (.istore 6, 2) := by decide +kernel
theorem dX5_does_99 : decode cX5_does 99 = .ok (.iload 6, 2) := by decide +kernel
theorem dX5_does_101 : decode cX5_does 101 = .ok (.ifCond .ne 43, 3) := by decide +kernel
theorem dX5_does_104 : decode cX5_does 104 = .ok (.iload_n 3, 1) := by decide +kernel
theorem dX5_does_105 : decode cX5_does 105 = .ok (.bipush 110, 2) := by decide +kernel
theorem dX5_does_107 : decode cX5_does 107 = .ok (.if_icmp .ne 12, 3) := by decide +kernel
theorem dX5_does_110 : decode cX5_does 110 = .ok (.aload_n 0, 1) := by decide +kernel
theorem dX5_does_111 : decode cX5_does 111 = .ok (.getfield 7, 3) := by decide +kernel
theorem dX5_does_114 : decode cX5_does 114 = .ok (.iconst 1, 1) := by decide +kernel
theorem dX5_does_115 : decode cX5_does 115 = .ok (.iaload, 1) := by decide +kernel
theorem dX5_does_116 : decode cX5_does 116 = .ok (.ifCond .gt 28, 3) := by decide +kernel
theorem dX5_does_119 : decode cX5_does 119 = .ok (.iload_n 3, 1) := by decide +kernel
theorem dX5_does_120 : decode cX5_does 120 = .ok (.bipush 98, 2) := by decide +kernel
theorem dX5_does_122 : decode cX5_does 122 = .ok (.if_icmp .eq 22, 3) := by decide +kernel
theorem dX5_does_125 : decode cX5_does 125 = .ok (.iload_n 3, 1) := by decide +kernel
theorem dX5_does_126 : decode cX5_does 126 = .ok (.bipush 43, 2) := by decide +kernel
theorem dX5_does_128 : decode cX5_does 128 = .ok (.if_icmp .ne 20, 3) := by decide +kernel
theorem dX5_does_131 : decode cX5_does 131 = .ok (.aload_n 0, 1) := by decide +kernel
theorem dX5_does_132 : decode cX5_does 132 = .ok (.getfield 7, 3) := by decide +kernel
theorem dX5_does_135 : decode cX5_does 135 = .ok (.iload_n 2, 1) := by decide +kernel
theorem dX5_does_136 : decode cX5_does 136 = .ok (.iload 4, 2) := by decide +kernel
theorem dX5_does_138 : decode cX5_does 138 = .ok (.invokestatic 104, 3) := by decide +kernel
theorem dX5_does_141 : decode cX5_does 141 = .ok (.ifCond .eq 7, 3) := by decide +kernel
theorem dX5_does_144 : decode cX5_does 144 = .ok (.iconst 1, 1) := by decide +kernel
theorem dX5_does_145 : decode cX5_does 145 = .ok (.goto 4, 3) := by decide +kernel
theorem dX5_does_148 : decode cX5_does 148 = .ok (.iconst 0, 1) := by decide +kernel
theorem dX5_does_149 : decode cX5_does 149 = .ok (.istore 7, 2) := by decide +kernel
theorem dX5_does_151 : decode cX5_does 151 = .ok (.iload 6, 2) := by decide +kernel
theorem dX5_does_153 : decode cX5_does 153 = .ok (.ifCond .eq 14, 3) := by decide +kernel
theorem dX5_does_156 : decode cX5_does 156 = .ok (.aload_n 0, 1) := by decide +kernel
theorem dX5_does_157 : decode cX5_does 157 = .ok (.getfield 7, 3) := by decide +kernel
theorem dX5_does_160 : decode cX5_does 160 = .ok (.iload_n 2, 1) := by decide +kernel
theorem dX5_does_161 : decode cX5_does 161 = .ok (.invokestatic 73, 3) := by decide +kernel
theorem dX5_does_164 : decode cX5_does 164 = .ok (.goto 72, 3) := by decide +kernel
theorem dX5_does_167 : decode cX5_does 167 = .ok (.iload 7, 2) := by decide +kernel
theorem dX5_does_169 : decode cX5_does 169 = .ok (.ifCond .eq 20, 3) := by decide +kernel
theorem dX5_does_172 : decode cX5_does 172 = .ok (.iload_n 3, 1) := by decide +kernel
theorem dX5_does_173 : decode cX5_does 173 = .ok (.bipush 110, 2) := by decide +kernel
theorem dX5_does_175 : decode cX5_does 175 = .ok (.if_icmp .ne 14, 3) := by decide +kernel
theorem dX5_does_178 : decode cX5_does 178 = .ok (.aload_n 0, 1) := by decide +kernel
theorem dX5_does_179 : decode cX5_does 179 = .ok (.getfield 7, 3) := by decide +kernel
theorem dX5_does_182 : decode cX5_does 182 = .ok (.iload_n 2, 1) := by decide +kernel
theorem dX5_does_183 : decode cX5_does 183 = .ok (.invokestatic 80, 3) := by decide +kernel
theorem dX5_does_186 : decode cX5_does 186 = .ok (.goto 50, 3) := by decide +kernel
theorem dX5_does_189 : decode cX5_does 189 = .ok (.iload 7, 2) := by decide +kernel
theorem dX5_does_191 : decode cX5_does 191 = .ok (.ifCond .eq 29, 3) := by decide +kernel
theorem dX5_does_194 : decode cX5_does 194 = .ok (.iload_n 3, 1) := by decide +kernel
theorem dX5_does_195 : decode cX5_does 195 = .ok (.bipush 98, 2) := by decide +kernel
theorem dX5_does_197 : decode cX5_does 197 = .ok (.if_icmp .ne 23, 3) := by decide +kernel
theorem dX5_does_200 : decode cX5_does 200 = .ok (.aload_n 0, 1) := by decide +kernel
theorem dX5_does_201 : decode cX5_does 201 = .ok (.getfield 7, 3) := by decide +kernel
theorem dX5_does_204 : decode cX5_does 204 = .ok (.bipush 7, 2) := by decide +kernel
theorem dX5_does_206 : decode cX5_does 206 = .ok (.iload_n 2, 1) := by decide +kernel
theorem dX5_does_207 : decode cX5_does 207 = .ok (.iastore, 1) := by decide +kernel
theorem dX5_does_208 : decode cX5_does 208 = .ok (.aload_n 0, 1) := by decide +kernel
theorem dX5_does_209 : decode cX5_does 209 = .ok (.getfield 7, 3) := by decide +kernel
theorem dX5_does_212 : decode cX5_does 212 = .ok (.bipush 8, 2) := by decide +kernel
theorem dX5_does_214 : decode cX5_does 214 = .ok (.iload 4, 2) := by decide +kernel
theorem dX5_does_216 : decode cX5_does 216 = .ok (.iastore, 1) := by decide +kernel
theorem dX5_does_217 : decode cX5_does 217 = .ok (.goto 19, 3) := by decide +kernel
theorem dX5_does_220 : decode cX5_does 220 = .ok (.iload 7, 2) := by decide +kernel
theorem dX5_does_222 : decode cX5_does 222 = .ok (.ifCond .eq 14, 3) := by decide +kernel
theorem dX5_does_225 : decode cX5_does 225 = .ok (.aload_n 0, 1) := by decide +kernel
theorem dX5_does_226 : decode cX5_does 226 = .ok (.getfield 7, 3) := by decide +kernel
theorem dX5_does_229 : decode cX5_does 229 = .ok (.iload_n 2, 1) := by decide +kernel
theorem dX5_does_230 : decode cX5_does 230 = .ok (.iload 4, 2) := by decide +kernel
theorem dX5_does_232 : decode cX5_does 232 = .ok (.invokestatic 107, 3) := by decide +kernel
theorem dX5_does_235 : decode cX5_does 235 = .ok (.pop, 1) := by decide +kernel
theorem dX5_does_236 : decode cX5_does 236 = .ok (.iload 7, 2) := by decide +kernel
theorem dX5_does_238 : decode cX5_does 238 = .ok (.ireturn, 1) := by decide +kernel
theorem dX5_play_0 : decode cX5_play 0 = .ok (.aload_n 0, 1) := by decide +kernel
theorem dX5_play_1 : decode cX5_play 1 = .ok (.iconst 0, 1) := by decide +kernel
theorem dX5_play_2 : decode cX5_play 2 = .ok (.putfield 25, 3) := by decide +kernel
theorem dX5_play_5 : decode cX5_play 5 = .ok (.aload_n 0, 1) := by decide +kernel
theorem dX5_play_6 : decode cX5_play 6 = .ok (.invokevirtual 141, 3) := by decide +kernel
theorem dX5_play_9 : decode cX5_play 9 = .ok (.ifCond .ne 9, 3) := by decide +kernel
theorem dX5_play_12 : decode cX5_play 12 = .ok (.aload_n 0, 1) := by decide +kernel
theorem dX5_play_13 : decode cX5_play 13 = .ok (.iconst 1, 1) := by decide +kernel
theorem dX5_play_14 : decode cX5_play 14 = .ok (.invokevirtual 44, 3) := by decide +kernel
theorem dX5_play_17 : decode cX5_play 17 = .ok (.ireturn, 1) := by decide +kernel
theorem dX5_play_18 : decode cX5_play 18 = .ok (.aload_n 0, 1) := by decide +kernel
theorem dX5_play_19 : decode cX5_play 19 = .ok (.invokevirtual 70, 3) := by decide +kernel
theorem dX5_play_22 : decode cX5_play 22 = .ok (.aload_n 0, 1) := by decide +kernel
theorem dX5_play_23 : decode cX5_play 23 = .ok (.iconst 0, 1) := by decide +kernel
theorem dX5_play_24 : decode cX5_play 24 = .ok (.putfield 113, 3) := by decide +kernel
theorem dX5_play_27 : decode cX5_play 27 = .ok (.iconst 0, 1) := by decide +kernel
theorem dX5_play_28 : decode cX5_play 28 = .ok (.istore_n 1, 1) := by decide +kernel
theorem dX5_play_29 : decode cX5_play 29 = .ok (.iload_n 1, 1) := by decide +kernel
theorem dX5_play_30 : decode cX5_play 30 = .ok (.aload_n 0, 1) := by decide +kernel
theorem dX5_play_31 : decode cX5_play 31 = .ok (.getfield 131, 3) := by decide +kernel
theorem dX5_play_34 : decode cX5_play 34 = .ok (.if_icmp .ge 17, 3) := by decide +kernel
theorem dX5_play_37 : decode cX5_play 37 = .ok (.aload_n 0, 1) := by decide +kernel
theorem dX5_play_38 : decode cX5_play 38 = .ok (.iload_n 1, 1) := by decide +kernel
theorem dX5_play_39 : decode cX5_play 39 = .ok (.invokevirtual 144, 3) := by decide +kernel
theorem dX5_play_42 : decode cX5_play 42 = .ok (.ifCond .eq 9, 3) := by decide +kernel
theorem dX5_play_45 : decode cX5_play 45 = .ok (.iinc 1 1, 3) := by decide +kernel
theorem dX5_play_48 : decode cX5_play 48 = .ok (.goto (-19), 3) := by decide +kernel
theorem dX5_play_51 : decode cX5_play 51 = .ok (.iload_n 1, 1) := by decide +kernel
theorem dX5_play_52 : decode cX5_play 52 = .ok (.ireturn, 1) := by decide +kernel
theorem dX5_ofRoom_0 : decode cX5_ofRoom 0 = .ok (.iload_n 2, 1) := by decide +kernel
theorem dX5_ofRoom_1 : decode cX5_ofRoom 1 = .ok (.tableswitch 90 4 7 #[31, 42, 52, 62], 31) := by decide +kernel
theorem dX5_ofRoom_32 : decode cX5_ofRoom 32 = .ok (.aload_n 0, 1) := by decide +kernel
theorem dX5_ofRoom_33 : decode cX5_ofRoom 33 = .ok (.getfield 7, 3) := by decide +kernel
theorem dX5_ofRoom_36 : decode cX5_ofRoom 36 = .ok (.iload_n 1, 1) := by decide +kernel
theorem dX5_ofRoom_37 : decode cX5_ofRoom 37 = .ok (.bipush 6, 2) := by decide +kernel
theorem dX5_ofRoom_39 : decode cX5_ofRoom 39 = .ok (.invokestatic 33, 3) := by decide +kernel
theorem dX5_ofRoom_42 : decode cX5_ofRoom 42 = .ok (.ireturn, 1) := by decide +kernel
theorem dX5_ofRoom_43 : decode cX5_ofRoom 43 = .ok (.aload_n 0, 1) := by decide +kernel
theorem dX5_ofRoom_44 : decode cX5_ofRoom 44 = .ok (.getfield 7, 3) := by decide +kernel
theorem dX5_ofRoom_47 : decode cX5_ofRoom 47 = .ok (.iload_n 1, 1) := by decide +kernel
theorem dX5_ofRoom_48 : decode cX5_ofRoom 48 = .ok (.iconst 5, 1) := by decide +kernel
theorem dX5_ofRoom_49 : decode cX5_ofRoom 49 = .ok (.invokestatic 33, 3) := by decide +kernel
theorem dX5_ofRoom_52 : decode cX5_ofRoom 52 = .ok (.ireturn, 1) := by decide +kernel
theorem dX5_ofRoom_53 : decode cX5_ofRoom 53 = .ok (.aload_n 0, 1) := by decide +kernel
theorem dX5_ofRoom_54 : decode cX5_ofRoom 54 = .ok (.getfield 7, 3) := by decide +kernel
theorem dX5_ofRoom_57 : decode cX5_ofRoom 57 = .ok (.iload_n 1, 1) := by decide +kernel
theorem dX5_ofRoom_58 : decode cX5_ofRoom 58 = .ok (.iconst 4, 1) := by decide +kernel
theorem dX5_ofRoom_59 : decode cX5_ofRoom 59 = .ok (.invokestatic 33, 3) := by decide +kernel
theorem dX5_ofRoom_62 : decode cX5_ofRoom 62 = .ok (.ireturn, 1) := by decide +kernel
theorem dX5_ofRoom_63 : decode cX5_ofRoom 63 = .ok (.aload_n 0, 1) := by decide +kernel
theorem dX5_ofRoom_64 : decode cX5_ofRoom 64 = .ok (.getfield 7, 3) := by decide +kernel
theorem dX5_ofRoom_67 : decode cX5_ofRoom 67 = .ok (.iload_n 1, 1) := by decide +kernel
theorem dX5_ofRoom_68 : decode cX5_ofRoom 68 = .ok (.bipush 6, 2) := by decide +kernel
theorem dX5_ofRoom_70 : decode cX5_ofRoom 70 = .ok (.invokestatic 33, 3) := by decide +kernel
theorem dX5_ofRoom_73 : decode cX5_ofRoom 73 = .ok (.ifCond .ne 7, 3) := by decide +kernel
theorem dX5_ofRoom_76 : decode cX5_ofRoom 76 = .ok (.iconst (-1), 1) := by decide +kernel
theorem dX5_ofRoom_77 : decode cX5_ofRoom 77 = .ok (.goto 13, 3) := by decide +kernel
theorem dX5_ofRoom_80 : decode cX5_ofRoom 80 = .ok (.aload_n 0, 1) := by decide +kernel
theorem dX5_ofRoom_81 : decode cX5_ofRoom 81 = .ok (.getfield 7, 3) := by decide +kernel
theorem dX5_ofRoom_84 : decode cX5_ofRoom 84 = .ok (.iload_n 1, 1) := by decide +kernel
theorem dX5_ofRoom_85 : decode cX5_ofRoom 85 = .ok (.bipush 7, 2) := by decide +kernel
theorem dX5_ofRoom_87 : decode cX5_ofRoom 87 = .ok (.invokestatic 33, 3) := by decide +kernel
theorem dX5_ofRoom_90 : decode cX5_ofRoom 90 = .ok (.ireturn, 1) := by decide +kernel
theorem dX5_ofRoom_91 : decode cX5_ofRoom 91 = .ok (.aload_n 0, 1) := by decide +kernel
theorem dX5_ofRoom_92 : decode cX5_ofRoom 92 = .ok (.getfield 7, 3) := by decide +kernel
theorem dX5_ofRoom_95 : decode cX5_ofRoom 95 = .ok (.iload_n 1, 1) := by decide +kernel
theorem dX5_ofRoom_96 : decode cX5_ofRoom 96 = .ok (.iload_n 2, 1) := by decide +kernel
theorem dX5_ofRoom_97 : decode cX5_ofRoom 97 = .ok (.invokestatic 33, 3) := by decide +kernel
theorem dX5_ofRoom_100 : decode cX5_ofRoom 100 = .ok (.ireturn, 1) := by decide +kernel
theorem dX5_room_0 : decode cX5_room 0 = .ok (.aload_n 0, 1) := by decide +kernel
theorem dX5_room_1 : decode cX5_room 1 = .ok (.iconst 0, 1) := by decide +kernel
theorem dX5_room_2 : decode cX5_room 2 = .ok (.putfield 25, 3) := by decide +kernel
theorem dX5_room_5 : decode cX5_room 5 = .ok (.iload_n 1, 1) := by decide +kernel
theorem dX5_room_6 : decode cX5_room 6 = .ok (.invokestatic 63, 3) := by decide +kernel
theorem dX5_room_9 : decode cX5_room 9 = .ok (.ifCond .ne 9, 3) := by decide +kernel
theorem dX5_room_12 : decode cX5_room 12 = .ok (.aload_n 0, 1) := by decide +kernel
theorem dX5_room_13 : decode cX5_room 13 = .ok (.iconst 1, 1) := by decide +kernel
theorem dX5_room_14 : decode cX5_room 14 = .ok (.invokevirtual 44, 3) := by decide +kernel
theorem dX5_room_17 : decode cX5_room 17 = .ok (.ireturn, 1) := by decide +kernel
theorem dX5_room_18 : decode cX5_room 18 = .ok (.iload_n 2, 1) := by decide +kernel
theorem dX5_room_19 : decode cX5_room 19 = .ok (.iconst 0, 1) := by decide +kernel
theorem dX5_room_20 : decode cX5_room 20 = .ok (.bipush 7, 2) := by decide +kernel
theorem dX5_room_22 : decode cX5_room 22 = .ok (.invokestatic 29, 3) := by decide +kernel
theorem dX5_room_25 : decode cX5_room 25 = .ok (.ifCond .eq 12, 3) := by decide +kernel
theorem dX5_room_28 : decode cX5_room 28 = .ok (.aload_n 0, 1) := by decide +kernel
theorem dX5_room_29 : decode cX5_room 29 = .ok (.iload_n 1, 1) := by decide +kernel
theorem dX5_room_30 : decode cX5_room 30 = .ok (.iload_n 2, 1) := by decide +kernel
theorem dX5_room_31 : decode cX5_room 31 = .ok (.invokevirtual 147, 3) := by decide +kernel
theorem dX5_room_34 : decode cX5_room 34 = .ok (.goto 8, 3) := by decide +kernel
theorem dX5_room_37 : decode cX5_room 37 = .ok (.aload_n 0, 1) := by decide +kernel
theorem dX5_room_38 : decode cX5_room 38 = .ok (.iconst 2, 1) := by decide +kernel
theorem dX5_room_39 : decode cX5_room 39 = .ok (.invokevirtual 44, 3) := by decide +kernel
theorem dX5_room_42 : decode cX5_room 42 = .ok (.ireturn, 1) := by decide +kernel
theorem dX5_thing_0 : decode cX5_thing 0 = .ok (.aload_n 0, 1) := by decide +kernel
theorem dX5_thing_1 : decode cX5_thing 1 = .ok (.iconst 0, 1) := by decide +kernel
theorem dX5_thing_2 : decode cX5_thing 2 = .ok (.putfield 25, 3) := by decide +kernel
theorem dX5_thing_5 : decode cX5_thing 5 = .ok (.iload_n 1, 1) := by decide +kernel
theorem dX5_thing_6 : decode cX5_thing 6 = .ok (.iconst 0, 1) := by decide +kernel
theorem dX5_thing_7 : decode cX5_thing 7 = .ok (.bipush 99, 2) := by decide +kernel
theorem dX5_thing_9 : decode cX5_thing 9 = .ok (.invokestatic 29, 3) := by decide +kernel
theorem dX5_thing_12 : decode cX5_thing 12 = .ok (.ifCond .eq 12, 3) := by decide +kernel
theorem dX5_thing_15 : decode cX5_thing 15 = .ok (.iload_n 2, 1) := by decide +kernel
theorem dX5_thing_16 : decode cX5_thing 16 = .ok (.iconst 0, 1) := by decide +kernel
theorem dX5_thing_17 : decode cX5_thing 17 = .ok (.iconst 2, 1) := by decide +kernel
theorem dX5_thing_18 : decode cX5_thing 18 = .ok (.invokestatic 29, 3) := by decide +kernel
theorem dX5_thing_21 : decode cX5_thing 21 = .ok (.ifCond .ne 9, 3) := by decide +kernel
theorem dX5_thing_24 : decode cX5_thing 24 = .ok (.aload_n 0, 1) := by decide +kernel
theorem dX5_thing_25 : decode cX5_thing 25 = .ok (.iconst 1, 1) := by decide +kernel
theorem dX5_thing_26 : decode cX5_thing 26 = .ok (.invokevirtual 44, 3) := by decide +kernel
theorem dX5_thing_29 : decode cX5_thing 29 = .ok (.ireturn, 1) := by decide +kernel
theorem dX5_thing_30 : decode cX5_thing 30 = .ok (.aload_n 0, 1) := by decide +kernel
theorem dX5_thing_31 : decode cX5_thing 31 = .ok (.getfield 7, 3) := by decide +kernel
theorem dX5_thing_34 : decode cX5_thing 34 = .ok (.iload_n 1, 1) := by decide +kernel
theorem dX5_thing_35 : decode cX5_thing 35 = .ok (.invokestatic 100, 3) := by decide +kernel
theorem dX5_thing_38 : decode cX5_thing 38 = .ok (.istore_n 3, 1) := by decide +kernel
theorem dX5_thing_39 : decode cX5_thing 39 = .ok (.iload_n 3, 1) := by decide +kernel
theorem dX5_thing_40 : decode cX5_thing 40 = .ok (.iconst (-1), 1) := by decide +kernel
theorem dX5_thing_41 : decode cX5_thing 41 = .ok (.if_icmp .ne 5, 3) := by decide +kernel
theorem dX5_thing_44 : decode cX5_thing 44 = .ok (.iconst (-1), 1) := by decide +kernel
theorem dX5_thing_45 : decode cX5_thing 45 = .ok (.ireturn, 1) := by decide +kernel
theorem dX5_thing_46 : decode cX5_thing 46 = .ok (.iload_n 2, 1) := by decide +kernel
theorem dX5_thing_47 : decode cX5_thing 47 = .ok (.ifCond .ne 9, 3) := by decide +kernel
theorem dX5_thing_50 : decode cX5_thing 50 = .ok (.iload_n 3, 1) := by decide +kernel
theorem dX5_thing_51 : decode cX5_thing 51 = .ok (.iconst 4, 1) := by decide +kernel
theorem dX5_thing_52 : decode cX5_thing 52 = .ok (.idiv, 1) := by decide +kernel
theorem dX5_thing_53 : decode cX5_thing 53 = .ok (.goto 30, 3) := by decide +kernel
theorem dX5_thing_56 : decode cX5_thing 56 = .ok (.iload_n 2, 1) := by decide +kernel
theorem dX5_thing_57 : decode cX5_thing 57 = .ok (.iconst 2, 1) := by decide +kernel
theorem dX5_thing_58 : decode cX5_thing 58 = .ok (.if_icmp .ne 9, 3) := by decide +kernel
theorem dX5_thing_61 : decode cX5_thing 61 = .ok (.iload_n 3, 1) := by decide +kernel
theorem dX5_thing_62 : decode cX5_thing 62 = .ok (.iconst 4, 1) := by decide +kernel
theorem dX5_thing_63 : decode cX5_thing 63 = .ok (.irem, 1) := by decide +kernel
theorem dX5_thing_64 : decode cX5_thing 64 = .ok (.goto 19, 3) := by decide +kernel
theorem dX5_thing_67 : decode cX5_thing 67 = .ok (.aload_n 0, 1) := by decide +kernel
theorem dX5_thing_68 : decode cX5_thing 68 = .ok (.getfield 7, 3) := by decide +kernel
theorem dX5_thing_71 : decode cX5_thing 71 = .ok (.iload_n 3, 1) := by decide +kernel
theorem dX5_thing_72 : decode cX5_thing 72 = .ok (.iconst 4, 1) := by decide +kernel
theorem dX5_thing_73 : decode cX5_thing 73 = .ok (.idiv, 1) := by decide +kernel
theorem dX5_thing_74 : decode cX5_thing 74 = .ok (.bipush 11, 2) := by decide +kernel
theorem dX5_thing_76 : decode cX5_thing 76 = .ok (.iload_n 3, 1) := by decide +kernel
theorem dX5_thing_77 : decode cX5_thing 77 = .ok (.iconst 4, 1) := by decide +kernel
theorem dX5_thing_78 : decode cX5_thing 78 = .ok (.irem, 1) := by decide +kernel
theorem dX5_thing_79 : decode cX5_thing 79 = .ok (.iadd, 1) := by decide +kernel
theorem dX5_thing_80 : decode cX5_thing 80 = .ok (.invokestatic 33, 3) := by decide +kernel
theorem dX5_thing_83 : decode cX5_thing 83 = .ok (.ireturn, 1) := by decide +kernel
theorem dX5_things_0 : decode cX5_things 0 = .ok (.iconst 0, 1) := by decide +kernel
theorem dX5_things_1 : decode cX5_things 1 = .ok (.istore_n 1, 1) := by decide +kernel
theorem dX5_things_2 : decode cX5_things 2 = .ok (.iconst 0, 1) := by decide +kernel
theorem dX5_things_3 : decode cX5_things 3 = .ok (.istore_n 2, 1) := by decide +kernel
theorem dX5_things_4 : decode cX5_things 4 = .ok (.iload_n 2, 1) := by decide +kernel
theorem dX5_things_5 : decode cX5_things 5 = .ok (.bipush 6, 2) := by decide +kernel
theorem dX5_things_7 : decode cX5_things 7 = .ok (.if_icmp .ge 22, 3) := by decide +kernel
theorem dX5_things_10 : decode cX5_things 10 = .ok (.iload_n 1, 1) := by decide +kernel
theorem dX5_things_11 : decode cX5_things 11 = .ok (.aload_n 0, 1) := by decide +kernel
theorem dX5_things_12 : decode cX5_things 12 = .ok (.getfield 7, 3) := by decide +kernel
theorem dX5_things_15 : decode cX5_things 15 = .ok (.iload_n 2, 1) := by decide +kernel
theorem dX5_things_16 : decode cX5_things 16 = .ok (.bipush 6, 2) := by decide +kernel
theorem dX5_things_18 : decode cX5_things 18 = .ok (.invokestatic 33, 3) := by decide +kernel
theorem dX5_things_21 : decode cX5_things 21 = .ok (.iadd, 1) := by decide +kernel
theorem dX5_things_22 : decode cX5_things 22 = .ok (.istore_n 1, 1) := by decide +kernel
theorem dX5_things_23 : decode cX5_things 23 = .ok (.iinc 2 1, 3) := by decide +kernel
theorem dX5_things_26 : decode cX5_things 26 = .ok (.goto (-22), 3) := by decide +kernel
theorem dX5_things_29 : decode cX5_things 29 = .ok (.iload_n 1, 1) := by decide +kernel
theorem dX5_things_30 : decode cX5_things 30 = .ok (.ireturn, 1) := by decide +kernel
theorem dX5_counted_0 : decode cX5_counted 0 = .ok (.iload_n 1, 1) := by decide +kernel
theorem dX5_counted_1 : decode cX5_counted 1 = .ok (.tableswitch 102 0 11 #[63, 70, 77, 85, 102, 102, 102, 102, 102, 102, 90, 97], 63) := by decide +kernel
theorem dX5_counted_64 : decode cX5_counted 64 = .ok (.aload_n 0, 1) := by decide +kernel
theorem dX5_counted_65 : decode cX5_counted 65 = .ok (.getfield 7, 3) := by decide +kernel
theorem dX5_counted_68 : decode cX5_counted 68 = .ok (.iconst 2, 1) := by decide +kernel
theorem dX5_counted_69 : decode cX5_counted 69 = .ok (.iaload, 1) := by decide +kernel
theorem dX5_counted_70 : decode cX5_counted 70 = .ok (.ireturn, 1) := by decide +kernel
theorem dX5_counted_71 : decode cX5_counted 71 = .ok (.aload_n 0, 1) := by decide +kernel
theorem dX5_counted_72 : decode cX5_counted 72 = .ok (.getfield 7, 3) := by decide +kernel
theorem dX5_counted_75 : decode cX5_counted 75 = .ok (.iconst 1, 1) := by decide +kernel
theorem dX5_counted_76 : decode cX5_counted 76 = .ok (.iaload, 1) := by decide +kernel
theorem dX5_counted_77 : decode cX5_counted 77 = .ok (.ireturn, 1) := by decide +kernel
theorem dX5_counted_78 : decode cX5_counted 78 = .ok (.aload_n 0, 1) := by decide +kernel
theorem dX5_counted_79 : decode cX5_counted 79 = .ok (.getfield 7, 3) := by decide +kernel
theorem dX5_counted_82 : decode cX5_counted 82 = .ok (.invokestatic 48, 3) := by decide +kernel
theorem dX5_counted_85 : decode cX5_counted 85 = .ok (.ireturn, 1) := by decide +kernel
theorem dX5_counted_86 : decode cX5_counted 86 = .ok (.aload_n 0, 1) := by decide +kernel
theorem dX5_counted_87 : decode cX5_counted 87 = .ok (.invokevirtual 151, 3) := by decide +kernel
theorem dX5_counted_90 : decode cX5_counted 90 = .ok (.ireturn, 1) := by decide +kernel
theorem dX5_counted_91 : decode cX5_counted 91 = .ok (.aload_n 0, 1) := by decide +kernel
theorem dX5_counted_92 : decode cX5_counted 92 = .ok (.getfield 7, 3) := by decide +kernel
theorem dX5_counted_95 : decode cX5_counted 95 = .ok (.iconst 0, 1) := by decide +kernel
theorem dX5_counted_96 : decode cX5_counted 96 = .ok (.iaload, 1) := by decide +kernel
theorem dX5_counted_97 : decode cX5_counted 97 = .ok (.ireturn, 1) := by decide +kernel
theorem dX5_counted_98 : decode cX5_counted 98 = .ok (.aload_n 0, 1) := by decide +kernel
theorem dX5_counted_99 : decode cX5_counted 99 = .ok (.getfield 37, 3) := by decide +kernel
theorem dX5_counted_102 : decode cX5_counted 102 = .ok (.ireturn, 1) := by decide +kernel
theorem dX5_counted_103 : decode cX5_counted 103 = .ok (.aload_n 0, 1) := by decide +kernel
theorem dX5_counted_104 : decode cX5_counted 104 = .ok (.getfield 7, 3) := by decide +kernel
theorem dX5_counted_107 : decode cX5_counted 107 = .ok (.iload_n 1, 1) := by decide +kernel
theorem dX5_counted_108 : decode cX5_counted 108 = .ok (.iconst 1, 1) := by decide +kernel
theorem dX5_counted_109 : decode cX5_counted 109 = .ok (.isub, 1) := by decide +kernel
theorem dX5_counted_110 : decode cX5_counted 110 = .ok (.iaload, 1) := by decide +kernel
theorem dX5_counted_111 : decode cX5_counted 111 = .ok (.ireturn, 1) := by decide +kernel
theorem dX5_count_0 : decode cX5_count 0 = .ok (.aload_n 0, 1) := by decide +kernel
theorem dX5_count_1 : decode cX5_count 1 = .ok (.iconst 0, 1) := by decide +kernel
theorem dX5_count_2 : decode cX5_count 2 = .ok (.putfield 25, 3) := by decide +kernel
theorem dX5_count_5 : decode cX5_count 5 = .ok (.iload_n 1, 1) := by decide +kernel
theorem dX5_count_6 : decode cX5_count 6 = .ok (.iconst 0, 1) := by decide +kernel
theorem dX5_count_7 : decode cX5_count 7 = .ok (.bipush 11, 2) := by decide +kernel
theorem dX5_count_9 : decode cX5_count 9 = .ok (.invokestatic 29, 3) := by decide +kernel
theorem dX5_count_12 : decode cX5_count 12 = .ok (.ifCond .eq 11, 3) := by decide +kernel
theorem dX5_count_15 : decode cX5_count 15 = .ok (.aload_n 0, 1) := by decide +kernel
theorem dX5_count_16 : decode cX5_count 16 = .ok (.iload_n 1, 1) := by decide +kernel
theorem dX5_count_17 : decode cX5_count 17 = .ok (.invokevirtual 155, 3) := by decide +kernel
theorem dX5_count_20 : decode cX5_count 20 = .ok (.goto 8, 3) := by decide +kernel
theorem dX5_count_23 : decode cX5_count 23 = .ok (.aload_n 0, 1) := by decide +kernel
theorem dX5_count_24 : decode cX5_count 24 = .ok (.iconst 1, 1) := by decide +kernel
theorem dX5_count_25 : decode cX5_count 25 = .ok (.invokevirtual 44, 3) := by decide +kernel
theorem dX5_count_28 : decode cX5_count 28 = .ok (.ireturn, 1) := by decide +kernel
theorem dX5_stays_0 : decode cX5_stays 0 = .ok (.aload_n 0, 1) := by decide +kernel
theorem dX5_stays_1 : decode cX5_stays 1 = .ok (.getfield 7, 3) := by decide +kernel
theorem dX5_stays_4 : decode cX5_stays 4 = .ok (.iconst 0, 1) := by decide +kernel
theorem dX5_stays_5 : decode cX5_stays 5 = .ok (.aload_n 0, 1) := by decide +kernel
theorem dX5_stays_6 : decode cX5_stays 6 = .ok (.getfield 13, 3) := by decide +kernel
theorem dX5_stays_9 : decode cX5_stays 9 = .ok (.iconst 0, 1) := by decide +kernel
theorem dX5_stays_10 : decode cX5_stays 10 = .ok (.invokestatic 40, 3) := by decide +kernel
theorem dX5_stays_13 : decode cX5_stays 13 = .ok (.iconst 0, 1) := by decide +kernel
theorem dX5_stays_14 : decode cX5_stays 14 = .ok (.istore_n 2, 1) := by decide +kernel
theorem dX5_stays_15 : decode cX5_stays 15 = .ok (.aload_n 0, 1) := by decide +kernel
theorem dX5_stays_16 : decode cX5_stays 16 = .ok (.getfield 13, 3) := by decide +kernel
theorem dX5_stays_19 : decode cX5_stays 19 = .ok (.iload_n 1, 1) := by decide +kernel
theorem dX5_stays_20 : decode cX5_stays 20 = .ok (.invokestatic 52, 3) := by decide +kernel
theorem dX5_stays_23 : decode cX5_stays 23 = .ok (.ifCond .eq 17, 3) := by decide +kernel
theorem dX5_stays_26 : decode cX5_stays 26 = .ok (.aload_n 0, 1) := by decide +kernel
theorem dX5_stays_27 : decode cX5_stays 27 = .ok (.getfield 13, 3) := by decide +kernel
theorem dX5_stays_30 : decode cX5_stays 30 = .ok (.iconst 1, 1) := by decide +kernel
theorem dX5_stays_31 : decode cX5_stays 31 = .ok (.invokestatic 110, 3) := by decide +kernel
theorem dX5_stays_34 : decode cX5_stays 34 = .ok (.iinc 2 1, 3) := by decide +kernel
theorem dX5_stays_37 : decode cX5_stays 37 = .ok (.goto (-22), 3) := by decide +kernel
theorem dX5_stays_40 : decode cX5_stays 40 = .ok (.iload_n 2, 1) := by decide +kernel
theorem dX5_stays_41 : decode cX5_stays 41 = .ok (.ireturn, 1) := by decide +kernel
theorem dX5_lasts_0 : decode cX5_lasts 0 = .ok (.aload_n 0, 1) := by decide +kernel
theorem dX5_lasts_1 : decode cX5_lasts 1 = .ok (.iconst 0, 1) := by decide +kernel
theorem dX5_lasts_2 : decode cX5_lasts 2 = .ok (.putfield 25, 3) := by decide +kernel
theorem dX5_lasts_5 : decode cX5_lasts 5 = .ok (.iload_n 1, 1) := by decide +kernel
theorem dX5_lasts_6 : decode cX5_lasts 6 = .ok (.invokestatic 63, 3) := by decide +kernel
theorem dX5_lasts_9 : decode cX5_lasts 9 = .ok (.ifCond .eq 11, 3) := by decide +kernel
theorem dX5_lasts_12 : decode cX5_lasts 12 = .ok (.aload_n 0, 1) := by decide +kernel
theorem dX5_lasts_13 : decode cX5_lasts 13 = .ok (.iload_n 1, 1) := by decide +kernel
theorem dX5_lasts_14 : decode cX5_lasts 14 = .ok (.invokevirtual 158, 3) := by decide +kernel
theorem dX5_lasts_17 : decode cX5_lasts 17 = .ok (.goto 8, 3) := by decide +kernel
theorem dX5_lasts_20 : decode cX5_lasts 20 = .ok (.aload_n 0, 1) := by decide +kernel
theorem dX5_lasts_21 : decode cX5_lasts 21 = .ok (.iconst 1, 1) := by decide +kernel
theorem dX5_lasts_22 : decode cX5_lasts 22 = .ok (.invokevirtual 44, 3) := by decide +kernel
theorem dX5_lasts_25 : decode cX5_lasts 25 = .ok (.ireturn, 1) := by decide +kernel
theorem dX5_firstForgotten_0 : decode cX5_firstForgotten 0 = .ok (.aload_n 0, 1) := by decide +kernel
theorem dX5_firstForgotten_1 : decode cX5_firstForgotten 1 = .ok (.invokevirtual 151, 3) := by decide +kernel
theorem dX5_firstForgotten_4 : decode cX5_firstForgotten 4 = .ok (.ifCond .ne 5, 3) := by decide +kernel
theorem dX5_firstForgotten_7 : decode cX5_firstForgotten 7 = .ok (.iconst (-1), 1) := by decide +kernel
theorem dX5_firstForgotten_8 : decode cX5_firstForgotten 8 = .ok (.ireturn, 1) := by decide +kernel
theorem dX5_firstForgotten_9 : decode cX5_firstForgotten 9 = .ok (.aload_n 0, 1) := by decide +kernel
theorem dX5_firstForgotten_10 : decode cX5_firstForgotten 10 = .ok (.getfield 7, 3) := by decide +kernel
theorem dX5_firstForgotten_13 : decode cX5_firstForgotten 13 = .ok (.iconst 0, 1) := by decide +kernel
theorem dX5_firstForgotten_14 : decode cX5_firstForgotten 14 = .ok (.aload_n 0, 1) := by decide +kernel
theorem dX5_firstForgotten_15 : decode cX5_firstForgotten 15 = .ok (.getfield 13, 3) := by decide +kernel
theorem dX5_firstForgotten_18 : decode cX5_firstForgotten 18 = .ok (.iconst 0, 1) := by decide +kernel
theorem dX5_firstForgotten_19 : decode cX5_firstForgotten 19 = .ok (.invokestatic 40, 3) := by decide +kernel
theorem dX5_firstForgotten_22 : decode cX5_firstForgotten 22 = .ok (.iconst 0, 1) := by decide +kernel
theorem dX5_firstForgotten_23 : decode cX5_firstForgotten 23 = .ok (.istore_n 1, 1) := by decide +kernel
theorem dX5_firstForgotten_24 : decode cX5_firstForgotten 24 = .ok (.aload_n 0, 1) := by decide +kernel
theorem dX5_firstForgotten_25 : decode cX5_firstForgotten 25 = .ok (.getfield 13, 3) := by decide +kernel
theorem dX5_firstForgotten_28 : decode cX5_firstForgotten 28 = .ok (.iconst 3, 1) := by decide +kernel
theorem dX5_firstForgotten_29 : decode cX5_firstForgotten 29 = .ok (.iaload, 1) := by decide +kernel
theorem dX5_firstForgotten_30 : decode cX5_firstForgotten 30 = .ok (.aload_n 0, 1) := by decide +kernel
theorem dX5_firstForgotten_31 : decode cX5_firstForgotten 31 = .ok (.getfield 7, 3) := by decide +kernel
theorem dX5_firstForgotten_34 : decode cX5_firstForgotten 34 = .ok (.iconst 3, 1) := by decide +kernel
theorem dX5_firstForgotten_35 : decode cX5_firstForgotten 35 = .ok (.iaload, 1) := by decide +kernel
theorem dX5_firstForgotten_36 : decode cX5_firstForgotten 36 = .ok (.if_icmp .ne 17, 3) := by decide +kernel
theorem dX5_firstForgotten_39 : decode cX5_firstForgotten 39 = .ok (.aload_n 0, 1) := by decide +kernel
theorem dX5_firstForgotten_40 : decode cX5_firstForgotten 40 = .ok (.getfield 13, 3) := by decide +kernel
theorem dX5_firstForgotten_43 : decode cX5_firstForgotten 43 = .ok (.iconst 1, 1) := by decide +kernel
theorem dX5_firstForgotten_44 : decode cX5_firstForgotten 44 = .ok (.invokestatic 110, 3) := by decide +kernel
theorem dX5_firstForgotten_47 : decode cX5_firstForgotten 47 = .ok (.iinc 1 1, 3) := by decide +kernel
theorem dX5_firstForgotten_50 : decode cX5_firstForgotten 50 = .ok (.goto (-26), 3) := by decide +kernel
theorem dX5_firstForgotten_53 : decode cX5_firstForgotten 53 = .ok (.iload_n 1, 1) := by decide +kernel
theorem dX5_firstForgotten_54 : decode cX5_firstForgotten 54 = .ok (.ireturn, 1) := by decide +kernel
theorem dX5_nextForgotten_0 : decode cX5_nextForgotten 0 = .ok (.aload_n 0, 1) := by decide +kernel
theorem dX5_nextForgotten_1 : decode cX5_nextForgotten 1 = .ok (.iconst 0, 1) := by decide +kernel
theorem dX5_nextForgotten_2 : decode cX5_nextForgotten 2 = .ok (.putfield 25, 3) := by decide +kernel
theorem dX5_nextForgotten_5 : decode cX5_nextForgotten 5 = .ok (.aload_n 0, 1) := by decide +kernel
theorem dX5_nextForgotten_6 : decode cX5_nextForgotten 6 = .ok (.invokevirtual 161, 3) := by decide +kernel
theorem dX5_nextForgotten_9 : decode cX5_nextForgotten 9 = .ok (.ireturn, 1) := by decide +kernel
theorem dX5_way_0 : decode cX5_way 0 = .ok (.iload_n 1, 1) := by decide +kernel
theorem dX5_way_1 : decode cX5_way 1 = .ok (.istore_n 3, 1) := by decide +kernel
theorem dX5_way_2 : decode cX5_way 2 = .ok (.iconst 1, 1) := by decide +kernel
theorem dX5_way_3 : decode cX5_way 3 = .ok (.istore 4, 2) := by decide +kernel
theorem dX5_way_5 : decode cX5_way 5 = .ok (.iload 4, 2) := by decide +kernel
theorem dX5_way_7 : decode cX5_way 7 = .ok (.bipush 6, 2) := by decide +kernel
theorem dX5_way_9 : decode cX5_way 9 = .ok (.if_icmp .ge 62, 3) := by decide +kernel
theorem dX5_way_12 : decode cX5_way 12 = .ok (.iload_n 3, 1) := by decide +kernel
theorem dX5_way_13 : decode cX5_way 13 = .ok (.iload_n 2, 1) := by decide +kernel
theorem dX5_way_14 : decode cX5_way 14 = .ok (.iadd, 1) := by decide +kernel
theorem dX5_way_15 : decode cX5_way 15 = .ok (.bipush 6, 2) := by decide +kernel
theorem dX5_way_17 : decode cX5_way 17 = .ok (.irem, 1) := by decide +kernel
theorem dX5_way_18 : decode cX5_way 18 = .ok (.istore 5, 2) := by decide +kernel
theorem dX5_way_20 : decode cX5_way 20 = .ok (.aload_n 0, 1) := by decide +kernel
theorem dX5_way_21 : decode cX5_way 21 = .ok (.getfield 7, 3) := by decide +kernel
theorem dX5_way_24 : decode cX5_way 24 = .ok (.iload_n 3, 1) := by decide +kernel
theorem dX5_way_25 : decode cX5_way 25 = .ok (.iconst 0, 1) := by decide +kernel
theorem dX5_way_26 : decode cX5_way 26 = .ok (.invokestatic 33, 3) := by decide +kernel
theorem dX5_way_29 : decode cX5_way 29 = .ok (.ifCond .eq 16, 3) := by decide +kernel
theorem dX5_way_32 : decode cX5_way 32 = .ok (.aload_n 0, 1) := by decide +kernel
theorem dX5_way_33 : decode cX5_way 33 = .ok (.getfield 7, 3) := by decide +kernel
theorem dX5_way_36 : decode cX5_way 36 = .ok (.iload_n 3, 1) := by decide +kernel
theorem dX5_way_37 : decode cX5_way 37 = .ok (.iload 5, 2) := by decide +kernel
theorem dX5_way_39 : decode cX5_way 39 = .ok (.invokestatic 56, 3) := by decide +kernel
theorem dX5_way_42 : decode cX5_way 42 = .ok (.ifCond .ne 5, 3) := by decide +kernel
theorem dX5_way_45 : decode cX5_way 45 = .ok (.iconst (-1), 1) := by decide +kernel
theorem dX5_way_46 : decode cX5_way 46 = .ok (.ireturn, 1) := by decide +kernel
theorem dX5_way_47 : decode cX5_way 47 = .ok (.aload_n 0, 1) := by decide +kernel
theorem dX5_way_48 : decode cX5_way 48 = .ok (.getfield 7, 3) := by decide +kernel
theorem dX5_way_51 : decode cX5_way 51 = .ok (.iload 5, 2) := by decide +kernel
theorem dX5_way_53 : decode cX5_way 53 = .ok (.invokestatic 52, 3) := by decide +kernel
theorem dX5_way_56 : decode cX5_way 56 = .ok (.ifCond .eq 6, 3) := by decide +kernel
theorem dX5_way_59 : decode cX5_way 59 = .ok (.iload 4, 2) := by decide +kernel
theorem dX5_way_61 : decode cX5_way 61 = .ok (.ireturn, 1) := by decide +kernel
theorem dX5_way_62 : decode cX5_way 62 = .ok (.iload 5, 2) := by decide +kernel
theorem dX5_way_64 : decode cX5_way 64 = .ok (.istore_n 3, 1) := by decide +kernel
theorem dX5_way_65 : decode cX5_way 65 = .ok (.iinc 4 1, 3) := by decide +kernel
theorem dX5_way_68 : decode cX5_way 68 = .ok (.goto (-63), 3) := by decide +kernel
theorem dX5_way_71 : decode cX5_way 71 = .ok (.iconst (-1), 1) := by decide +kernel
theorem dX5_way_72 : decode cX5_way 72 = .ok (.ireturn, 1) := by decide +kernel
theorem dX5_fewest_0 : decode cX5_fewest 0 = .ok (.aload_n 0, 1) := by decide +kernel
theorem dX5_fewest_1 : decode cX5_fewest 1 = .ok (.getfield 7, 3) := by decide +kernel
theorem dX5_fewest_4 : decode cX5_fewest 4 = .ok (.iload_n 1, 1) := by decide +kernel
theorem dX5_fewest_5 : decode cX5_fewest 5 = .ok (.invokestatic 52, 3) := by decide +kernel
theorem dX5_fewest_8 : decode cX5_fewest 8 = .ok (.ifCond .eq 5, 3) := by decide +kernel
theorem dX5_fewest_11 : decode cX5_fewest 11 = .ok (.iconst 0, 1) := by decide +kernel
theorem dX5_fewest_12 : decode cX5_fewest 12 = .ok (.ireturn, 1) := by decide +kernel
theorem dX5_fewest_13 : decode cX5_fewest 13 = .ok (.aload_n 0, 1) := by decide +kernel
theorem dX5_fewest_14 : decode cX5_fewest 14 = .ok (.getfield 7, 3) := by decide +kernel
theorem dX5_fewest_17 : decode cX5_fewest 17 = .ok (.invokestatic 48, 3) := by decide +kernel
theorem dX5_fewest_20 : decode cX5_fewest 20 = .ok (.ifCond .ne 21, 3) := by decide +kernel
theorem dX5_fewest_23 : decode cX5_fewest 23 = .ok (.aload_n 0, 1) := by decide +kernel
theorem dX5_fewest_24 : decode cX5_fewest 24 = .ok (.getfield 7, 3) := by decide +kernel
theorem dX5_fewest_27 : decode cX5_fewest 27 = .ok (.iload_n 1, 1) := by decide +kernel
theorem dX5_fewest_28 : decode cX5_fewest 28 = .ok (.iconst 0, 1) := by decide +kernel
theorem dX5_fewest_29 : decode cX5_fewest 29 = .ok (.invokestatic 33, 3) := by decide +kernel
theorem dX5_fewest_32 : decode cX5_fewest 32 = .ok (.ifCond .le 7, 3) := by decide +kernel
theorem dX5_fewest_35 : decode cX5_fewest 35 = .ok (.iconst 1, 1) := by decide +kernel
theorem dX5_fewest_36 : decode cX5_fewest 36 = .ok (.goto 4, 3) := by decide +kernel
theorem dX5_fewest_39 : decode cX5_fewest 39 = .ok (.iconst (-1), 1) := by decide +kernel
theorem dX5_fewest_40 : decode cX5_fewest 40 = .ok (.ireturn, 1) := by decide +kernel
theorem dX5_fewest_41 : decode cX5_fewest 41 = .ok (.aload_n 0, 1) := by decide +kernel
theorem dX5_fewest_42 : decode cX5_fewest 42 = .ok (.iload_n 1, 1) := by decide +kernel
theorem dX5_fewest_43 : decode cX5_fewest 43 = .ok (.iconst 1, 1) := by decide +kernel
theorem dX5_fewest_44 : decode cX5_fewest 44 = .ok (.invokevirtual 164, 3) := by decide +kernel
theorem dX5_fewest_47 : decode cX5_fewest 47 = .ok (.istore_n 2, 1) := by decide +kernel
theorem dX5_fewest_48 : decode cX5_fewest 48 = .ok (.aload_n 0, 1) := by decide +kernel
theorem dX5_fewest_49 : decode cX5_fewest 49 = .ok (.iload_n 1, 1) := by decide +kernel
theorem dX5_fewest_50 : decode cX5_fewest 50 = .ok (.iconst 5, 1) := by decide +kernel
theorem dX5_fewest_51 : decode cX5_fewest 51 = .ok (.invokevirtual 164, 3) := by decide +kernel
theorem dX5_fewest_54 : decode cX5_fewest 54 = .ok (.istore_n 3, 1) := by decide +kernel
theorem dX5_fewest_55 : decode cX5_fewest 55 = .ok (.iload_n 2, 1) := by decide +kernel
theorem dX5_fewest_56 : decode cX5_fewest 56 = .ok (.iconst (-1), 1) := by decide +kernel
theorem dX5_fewest_57 : decode cX5_fewest 57 = .ok (.if_icmp .eq 13, 3) := by decide +kernel
theorem dX5_fewest_60 : decode cX5_fewest 60 = .ok (.iload_n 3, 1) := by decide +kernel
theorem dX5_fewest_61 : decode cX5_fewest 61 = .ok (.iconst (-1), 1) := by decide +kernel
theorem dX5_fewest_62 : decode cX5_fewest 62 = .ok (.if_icmp .eq 12, 3) := by decide +kernel
theorem dX5_fewest_65 : decode cX5_fewest 65 = .ok (.iload_n 3, 1) := by decide +kernel
theorem dX5_fewest_66 : decode cX5_fewest 66 = .ok (.iload_n 2, 1) := by decide +kernel
theorem dX5_fewest_67 : decode cX5_fewest 67 = .ok (.if_icmp .ge 7, 3) := by decide +kernel
theorem dX5_fewest_70 : decode cX5_fewest 70 = .ok (.iload_n 3, 1) := by decide +kernel
theorem dX5_fewest_71 : decode cX5_fewest 71 = .ok (.goto 4, 3) := by decide +kernel
theorem dX5_fewest_74 : decode cX5_fewest 74 = .ok (.iload_n 2, 1) := by decide +kernel
theorem dX5_fewest_75 : decode cX5_fewest 75 = .ok (.ireturn, 1) := by decide +kernel
theorem dX5_carried_0 : decode cX5_carried 0 = .ok (.aload_n 0, 1) := by decide +kernel
theorem dX5_carried_1 : decode cX5_carried 1 = .ok (.iconst 0, 1) := by decide +kernel
theorem dX5_carried_2 : decode cX5_carried 2 = .ok (.putfield 25, 3) := by decide +kernel
theorem dX5_carried_5 : decode cX5_carried 5 = .ok (.iload_n 1, 1) := by decide +kernel
theorem dX5_carried_6 : decode cX5_carried 6 = .ok (.invokestatic 63, 3) := by decide +kernel
theorem dX5_carried_9 : decode cX5_carried 9 = .ok (.ifCond .eq 11, 3) := by decide +kernel
theorem dX5_carried_12 : decode cX5_carried 12 = .ok (.aload_n 0, 1) := by decide +kernel
theorem dX5_carried_13 : decode cX5_carried 13 = .ok (.iload_n 1, 1) := by decide +kernel
theorem dX5_carried_14 : decode cX5_carried 14 = .ok (.invokevirtual 167, 3) := by decide +kernel
theorem dX5_carried_17 : decode cX5_carried 17 = .ok (.goto 8, 3) := by decide +kernel
theorem dX5_carried_20 : decode cX5_carried 20 = .ok (.aload_n 0, 1) := by decide +kernel
theorem dX5_carried_21 : decode cX5_carried 21 = .ok (.iconst 1, 1) := by decide +kernel
theorem dX5_carried_22 : decode cX5_carried 22 = .ok (.invokevirtual 44, 3) := by decide +kernel
theorem dX5_carried_25 : decode cX5_carried 25 = .ok (.ireturn, 1) := by decide +kernel
theorem dX5_neediest_0 : decode cX5_neediest 0 = .ok (.iconst (-1), 1) := by decide +kernel
theorem dX5_neediest_1 : decode cX5_neediest 1 = .ok (.istore_n 1, 1) := by decide +kernel
theorem dX5_neediest_2 : decode cX5_neediest 2 = .ok (.iconst 0, 1) := by decide +kernel
theorem dX5_neediest_3 : decode cX5_neediest 3 = .ok (.istore_n 2, 1) := by decide +kernel
theorem dX5_neediest_4 : decode cX5_neediest 4 = .ok (.iload_n 2, 1) := by decide +kernel
theorem dX5_neediest_5 : decode cX5_neediest 5 = .ok (.bipush 6, 2) := by decide +kernel
theorem dX5_neediest_7 : decode cX5_neediest 7 = .ok (.if_icmp .ge 108, 3) := by decide +kernel
theorem dX5_neediest_10 : decode cX5_neediest 10 = .ok (.aload_n 0, 1) := by decide +kernel
theorem dX5_neediest_11 : decode cX5_neediest 11 = .ok (.getfield 7, 3) := by decide +kernel
theorem dX5_neediest_14 : decode cX5_neediest 14 = .ok (.iload_n 2, 1) := by decide +kernel
theorem dX5_neediest_15 : decode cX5_neediest 15 = .ok (.bipush 6, 2) := by decide +kernel
theorem dX5_neediest_17 : decode cX5_neediest 17 = .ok (.invokestatic 33, 3) := by decide +kernel
theorem dX5_neediest_20 : decode cX5_neediest 20 = .ok (.ifCond .le 77, 3) := by decide +kernel
theorem dX5_neediest_23 : decode cX5_neediest 23 = .ok (.iload_n 1, 1) := by decide +kernel
theorem dX5_neediest_24 : decode cX5_neediest 24 = .ok (.iconst (-1), 1) := by decide +kernel
theorem dX5_neediest_25 : decode cX5_neediest 25 = .ok (.if_icmp .eq 68, 3) := by decide +kernel
theorem dX5_neediest_28 : decode cX5_neediest 28 = .ok (.aload_n 0, 1) := by decide +kernel
theorem dX5_neediest_29 : decode cX5_neediest 29 = .ok (.getfield 7, 3) := by decide +kernel
theorem dX5_neediest_32 : decode cX5_neediest 32 = .ok (.iload_n 2, 1) := by decide +kernel
theorem dX5_neediest_33 : decode cX5_neediest 33 = .ok (.iconst 0, 1) := by decide +kernel
theorem dX5_neediest_34 : decode cX5_neediest 34 = .ok (.invokestatic 33, 3) := by decide +kernel
theorem dX5_neediest_37 : decode cX5_neediest 37 = .ok (.aload_n 0, 1) := by decide +kernel
theorem dX5_neediest_38 : decode cX5_neediest 38 = .ok (.getfield 7, 3) := by decide +kernel
theorem dX5_neediest_41 : decode cX5_neediest 41 = .ok (.iload_n 1, 1) := by decide +kernel
theorem dX5_neediest_42 : decode cX5_neediest 42 = .ok (.iconst 0, 1) := by decide +kernel
theorem dX5_neediest_43 : decode cX5_neediest 43 = .ok (.invokestatic 33, 3) := by decide +kernel
theorem dX5_neediest_46 : decode cX5_neediest 46 = .ok (.if_icmp .lt 47, 3) := by decide +kernel
theorem dX5_neediest_49 : decode cX5_neediest 49 = .ok (.aload_n 0, 1) := by decide +kernel
theorem dX5_neediest_50 : decode cX5_neediest 50 = .ok (.getfield 7, 3) := by decide +kernel
theorem dX5_neediest_53 : decode cX5_neediest 53 = .ok (.iload_n 2, 1) := by decide +kernel
theorem dX5_neediest_54 : decode cX5_neediest 54 = .ok (.iconst 0, 1) := by decide +kernel
theorem dX5_neediest_55 : decode cX5_neediest 55 = .ok (.invokestatic 33, 3) := by decide +kernel
theorem dX5_neediest_58 : decode cX5_neediest 58 = .ok (.aload_n 0, 1) := by decide +kernel
theorem dX5_neediest_59 : decode cX5_neediest 59 = .ok (.getfield 7, 3) := by decide +kernel
theorem dX5_neediest_62 : decode cX5_neediest 62 = .ok (.iload_n 1, 1) := by decide +kernel
theorem dX5_neediest_63 : decode cX5_neediest 63 = .ok (.iconst 0, 1) := by decide +kernel
theorem dX5_neediest_64 : decode cX5_neediest 64 = .ok (.invokestatic 33, 3) := by decide +kernel
theorem dX5_neediest_67 : decode cX5_neediest 67 = .ok (.if_icmp .ne 30, 3) := by decide +kernel
theorem dX5_neediest_70 : decode cX5_neediest 70 = .ok (.aload_n 0, 1) := by decide +kernel
theorem dX5_neediest_71 : decode cX5_neediest 71 = .ok (.getfield 7, 3) := by decide +kernel
theorem dX5_neediest_74 : decode cX5_neediest 74 = .ok (.iload_n 2, 1) := by decide +kernel
theorem dX5_neediest_75 : decode cX5_neediest 75 = .ok (.bipush 6, 2) := by decide +kernel
theorem dX5_neediest_77 : decode cX5_neediest 77 = .ok (.invokestatic 33, 3) := by decide +kernel
theorem dX5_neediest_80 : decode cX5_neediest 80 = .ok (.aload_n 0, 1) := by decide +kernel
theorem dX5_neediest_81 : decode cX5_neediest 81 = .ok (.getfield 7, 3) := by decide +kernel
theorem dX5_neediest_84 : decode cX5_neediest 84 = .ok (.iload_n 1, 1) := by decide +kernel
theorem dX5_neediest_85 : decode cX5_neediest 85 = .ok (.bipush 6, 2) := by decide +kernel
theorem dX5_neediest_87 : decode cX5_neediest 87 = .ok (.invokestatic 33, 3) := by decide +kernel
theorem dX5_neediest_90 : decode cX5_neediest 90 = .ok (.if_icmp .le 7, 3) := by decide +kernel
theorem dX5_neediest_93 : decode cX5_neediest 93 = .ok (.iconst 1, 1) := by decide +kernel
theorem dX5_neediest_94 : decode cX5_neediest 94 = .ok (.goto 4, 3) := by decide +kernel
theorem dX5_neediest_97 : decode cX5_neediest 97 = .ok (.iconst 0, 1) := by decide +kernel
theorem dX5_neediest_98 : decode cX5_neediest 98 = .ok (.istore_n 3, 1) := by decide +kernel
theorem dX5_neediest_99 : decode cX5_neediest 99 = .ok (.iload_n 3, 1) := by decide +kernel
theorem dX5_neediest_100 : decode cX5_neediest 100 = .ok (.ifCond .eq 7, 3) := by decide +kernel
theorem dX5_neediest_103 : decode cX5_neediest 103 = .ok (.iload_n 2, 1) := by decide +kernel
theorem dX5_neediest_104 : decode cX5_neediest 104 = .ok (.goto 4, 3) := by decide +kernel
theorem dX5_neediest_107 : decode cX5_neediest 107 = .ok (.iload_n 1, 1) := by decide +kernel
theorem dX5_neediest_108 : decode cX5_neediest 108 = .ok (.istore_n 1, 1) := by decide +kernel
theorem dX5_neediest_109 : decode cX5_neediest 109 = .ok (.iinc 2 1, 3) := by decide +kernel
theorem dX5_neediest_112 : decode cX5_neediest 112 = .ok (.goto (-108), 3) := by decide +kernel
theorem dX5_neediest_115 : decode cX5_neediest 115 = .ok (.iload_n 1, 1) := by decide +kernel
theorem dX5_neediest_116 : decode cX5_neediest 116 = .ok (.ireturn, 1) := by decide +kernel
theorem dX5_needy_0 : decode cX5_needy 0 = .ok (.aload_n 0, 1) := by decide +kernel
theorem dX5_needy_1 : decode cX5_needy 1 = .ok (.iconst 0, 1) := by decide +kernel
theorem dX5_needy_2 : decode cX5_needy 2 = .ok (.putfield 25, 3) := by decide +kernel
theorem dX5_needy_5 : decode cX5_needy 5 = .ok (.aload_n 0, 1) := by decide +kernel
theorem dX5_needy_6 : decode cX5_needy 6 = .ok (.invokevirtual 170, 3) := by decide +kernel
theorem dX5_needy_9 : decode cX5_needy 9 = .ok (.ireturn, 1) := by decide +kernel
theorem dX5_saved_0 : decode cX5_saved 0 = .ok (.aload_n 0, 1) := by decide +kernel
theorem dX5_saved_1 : decode cX5_saved 1 = .ok (.getfield 7, 3) := by decide +kernel
theorem dX5_saved_4 : decode cX5_saved 4 = .ok (.iload_n 1, 1) := by decide +kernel
theorem dX5_saved_5 : decode cX5_saved 5 = .ok (.invokestatic 52, 3) := by decide +kernel
theorem dX5_saved_8 : decode cX5_saved 8 = .ok (.ifCond .ne 5, 3) := by decide +kernel
theorem dX5_saved_11 : decode cX5_saved 11 = .ok (.iconst 0, 1) := by decide +kernel
theorem dX5_saved_12 : decode cX5_saved 12 = .ok (.ireturn, 1) := by decide +kernel
theorem dX5_saved_13 : decode cX5_saved 13 = .ok (.aload_n 0, 1) := by decide +kernel
theorem dX5_saved_14 : decode cX5_saved 14 = .ok (.getfield 7, 3) := by decide +kernel
theorem dX5_saved_17 : decode cX5_saved 17 = .ok (.iconst 0, 1) := by decide +kernel
theorem dX5_saved_18 : decode cX5_saved 18 = .ok (.aload_n 0, 1) := by decide +kernel
theorem dX5_saved_19 : decode cX5_saved 19 = .ok (.getfield 13, 3) := by decide +kernel
theorem dX5_saved_22 : decode cX5_saved 22 = .ok (.iconst 0, 1) := by decide +kernel
theorem dX5_saved_23 : decode cX5_saved 23 = .ok (.invokestatic 40, 3) := by decide +kernel
theorem dX5_saved_26 : decode cX5_saved 26 = .ok (.iconst 0, 1) := by decide +kernel
theorem dX5_saved_27 : decode cX5_saved 27 = .ok (.istore_n 2, 1) := by decide +kernel
theorem dX5_saved_28 : decode cX5_saved 28 = .ok (.aload_n 0, 1) := by decide +kernel
theorem dX5_saved_29 : decode cX5_saved 29 = .ok (.getfield 13, 3) := by decide +kernel
theorem dX5_saved_32 : decode cX5_saved 32 = .ok (.iload_n 1, 1) := by decide +kernel
theorem dX5_saved_33 : decode cX5_saved 33 = .ok (.invokestatic 52, 3) := by decide +kernel
theorem dX5_saved_36 : decode cX5_saved 36 = .ok (.ifCond .eq 17, 3) := by decide +kernel
theorem dX5_saved_39 : decode cX5_saved 39 = .ok (.aload_n 0, 1) := by decide +kernel
theorem dX5_saved_40 : decode cX5_saved 40 = .ok (.getfield 13, 3) := by decide +kernel
theorem dX5_saved_43 : decode cX5_saved 43 = .ok (.iload_n 1, 1) := by decide +kernel
theorem dX5_saved_44 : decode cX5_saved 44 = .ok (.invokestatic 90, 3) := by decide +kernel
theorem dX5_saved_47 : decode cX5_saved 47 = .ok (.iinc 2 1, 3) := by decide +kernel
theorem dX5_saved_50 : decode cX5_saved 50 = .ok (.goto (-22), 3) := by decide +kernel
theorem dX5_saved_53 : decode cX5_saved 53 = .ok (.aload_n 0, 1) := by decide +kernel
theorem dX5_saved_54 : decode cX5_saved 54 = .ok (.getfield 7, 3) := by decide +kernel
theorem dX5_saved_57 : decode cX5_saved 57 = .ok (.iload_n 1, 1) := by decide +kernel
theorem dX5_saved_58 : decode cX5_saved 58 = .ok (.iconst 0, 1) := by decide +kernel
theorem dX5_saved_59 : decode cX5_saved 59 = .ok (.invokestatic 33, 3) := by decide +kernel
theorem dX5_saved_62 : decode cX5_saved 62 = .ok (.iload_n 2, 1) := by decide +kernel
theorem dX5_saved_63 : decode cX5_saved 63 = .ok (.isub, 1) := by decide +kernel
theorem dX5_saved_64 : decode cX5_saved 64 = .ok (.ireturn, 1) := by decide +kernel
theorem dX5_saves_0 : decode cX5_saves 0 = .ok (.aload_n 0, 1) := by decide +kernel
theorem dX5_saves_1 : decode cX5_saves 1 = .ok (.iconst 0, 1) := by decide +kernel
theorem dX5_saves_2 : decode cX5_saves 2 = .ok (.putfield 25, 3) := by decide +kernel
theorem dX5_saves_5 : decode cX5_saves 5 = .ok (.iload_n 1, 1) := by decide +kernel
theorem dX5_saves_6 : decode cX5_saves 6 = .ok (.invokestatic 63, 3) := by decide +kernel
theorem dX5_saves_9 : decode cX5_saves 9 = .ok (.ifCond .eq 11, 3) := by decide +kernel
theorem dX5_saves_12 : decode cX5_saves 12 = .ok (.aload_n 0, 1) := by decide +kernel
theorem dX5_saves_13 : decode cX5_saves 13 = .ok (.iload_n 1, 1) := by decide +kernel
theorem dX5_saves_14 : decode cX5_saves 14 = .ok (.invokevirtual 173, 3) := by decide +kernel
theorem dX5_saves_17 : decode cX5_saves 17 = .ok (.goto 8, 3) := by decide +kernel
theorem dX5_saves_20 : decode cX5_saves 20 = .ok (.aload_n 0, 1) := by decide +kernel
theorem dX5_saves_21 : decode cX5_saves 21 = .ok (.iconst 1, 1) := by decide +kernel
theorem dX5_saves_22 : decode cX5_saves 22 = .ok (.invokevirtual 44, 3) := by decide +kernel
theorem dX5_saves_25 : decode cX5_saves 25 = .ok (.ireturn, 1) := by decide +kernel
theorem dX5_share_0 : decode cX5_share 0 = .ok (.iconst 0, 1) := by decide +kernel
theorem dX5_share_1 : decode cX5_share 1 = .ok (.istore_n 1, 1) := by decide +kernel
theorem dX5_share_2 : decode cX5_share 2 = .ok (.iconst 0, 1) := by decide +kernel
theorem dX5_share_3 : decode cX5_share 3 = .ok (.istore_n 2, 1) := by decide +kernel
theorem dX5_share_4 : decode cX5_share 4 = .ok (.iload_n 2, 1) := by decide +kernel
theorem dX5_share_5 : decode cX5_share 5 = .ok (.bipush 6, 2) := by decide +kernel
theorem dX5_share_7 : decode cX5_share 7 = .ok (.if_icmp .ge 37, 3) := by decide +kernel
theorem dX5_share_10 : decode cX5_share 10 = .ok (.iload_n 1, 1) := by decide +kernel
theorem dX5_share_11 : decode cX5_share 11 = .ok (.aload_n 0, 1) := by decide +kernel
theorem dX5_share_12 : decode cX5_share 12 = .ok (.getfield 7, 3) := by decide +kernel
theorem dX5_share_15 : decode cX5_share 15 = .ok (.iload_n 2, 1) := by decide +kernel
theorem dX5_share_16 : decode cX5_share 16 = .ok (.invokestatic 52, 3) := by decide +kernel
theorem dX5_share_19 : decode cX5_share 19 = .ok (.ifCond .eq 16, 3) := by decide +kernel
theorem dX5_share_22 : decode cX5_share 22 = .ok (.aload_n 0, 1) := by decide +kernel
theorem dX5_share_23 : decode cX5_share 23 = .ok (.getfield 7, 3) := by decide +kernel
theorem dX5_share_26 : decode cX5_share 26 = .ok (.iload_n 2, 1) := by decide +kernel
theorem dX5_share_27 : decode cX5_share 27 = .ok (.bipush 6, 2) := by decide +kernel
theorem dX5_share_29 : decode cX5_share 29 = .ok (.invokestatic 33, 3) := by decide +kernel
theorem dX5_share_32 : decode cX5_share 32 = .ok (.goto 4, 3) := by decide +kernel
theorem dX5_share_35 : decode cX5_share 35 = .ok (.iconst 0, 1) := by decide +kernel
theorem dX5_share_36 : decode cX5_share 36 = .ok (.iadd, 1) := by decide +kernel
theorem dX5_share_37 : decode cX5_share 37 = .ok (.istore_n 1, 1) := by decide +kernel
theorem dX5_share_38 : decode cX5_share 38 = .ok (.iinc 2 1, 3) := by decide +kernel
theorem dX5_share_41 : decode cX5_share 41 = .ok (.goto (-37), 3) := by decide +kernel
theorem dX5_share_44 : decode cX5_share 44 = .ok (.aload_n 0, 1) := by decide +kernel
theorem dX5_share_45 : decode cX5_share 45 = .ok (.invokevirtual 151, 3) := by decide +kernel
theorem dX5_share_48 : decode cX5_share 48 = .ok (.ifCond .ne 7, 3) := by decide +kernel
theorem dX5_share_51 : decode cX5_share 51 = .ok (.dconst 1, 1) := by decide +kernel
theorem dX5_share_52 : decode cX5_share 52 = .ok (.goto 11, 3) := by decide +kernel
theorem dX5_share_55 : decode cX5_share 55 = .ok (.iload_n 1, 1) := by decide +kernel
theorem dX5_share_56 : decode cX5_share 56 = .ok (.i2d, 1) := by decide +kernel
theorem dX5_share_57 : decode cX5_share 57 = .ok (.aload_n 0, 1) := by decide +kernel
theorem dX5_share_58 : decode cX5_share 58 = .ok (.invokevirtual 151, 3) := by decide +kernel
theorem dX5_share_61 : decode cX5_share 61 = .ok (.i2d, 1) := by decide +kernel
theorem dX5_share_62 : decode cX5_share 62 = .ok (.ddiv, 1) := by decide +kernel
theorem dX5_share_63 : decode cX5_share 63 = .ok (.dreturn, 1) := by decide +kernel
theorem dX5_lit_0 : decode cX5_lit 0 = .ok (.aload_n 0, 1) := by decide +kernel
theorem dX5_lit_1 : decode cX5_lit 1 = .ok (.iconst 0, 1) := by decide +kernel
theorem dX5_lit_2 : decode cX5_lit 2 = .ok (.putfield 25, 3) := by decide +kernel
theorem dX5_lit_5 : decode cX5_lit 5 = .ok (.aload_n 0, 1) := by decide +kernel
theorem dX5_lit_6 : decode cX5_lit 6 = .ok (.invokevirtual 176, 3) := by decide +kernel
theorem dX5_lit_9 : decode cX5_lit 9 = .ok (.dreturn, 1) := by decide +kernel
theorem dX5_digest_0 : decode cX5_digest 0 = .ok (.aload_n 0, 1) := by decide +kernel
theorem dX5_digest_1 : decode cX5_digest 1 = .ok (.iconst 0, 1) := by decide +kernel
theorem dX5_digest_2 : decode cX5_digest 2 = .ok (.putfield 25, 3) := by decide +kernel
theorem dX5_digest_5 : decode cX5_digest 5 = .ok (.ldc2_w 180, 3) := by decide +kernel
theorem dX5_digest_8 : decode cX5_digest 8 = .ok (.lstore_n 1, 1) := by decide +kernel
theorem dX5_digest_9 : decode cX5_digest 9 = .ok (.iconst 0, 1) := by decide +kernel
theorem dX5_digest_10 : decode cX5_digest 10 = .ok (.istore_n 3, 1) := by decide +kernel
theorem dX5_digest_11 : decode cX5_digest 11 = .ok (.iload_n 3, 1) := by decide +kernel
theorem dX5_digest_12 : decode cX5_digest 12 = .ok (.bipush 12, 2) := by decide +kernel
theorem dX5_digest_14 : decode cX5_digest 14 = .ok (.if_icmp .ge 22, 3) := by decide +kernel
theorem dX5_digest_17 : decode cX5_digest 17 = .ok (.ldc2_w 182, 3) := by decide +kernel
theorem dX5_digest_20 : decode cX5_digest 20 = .ok (.lload_n 1, 1) := by decide +kernel
theorem dX5_digest_21 : decode cX5_digest 21 = .ok (.lmul, 1) := by decide +kernel
theorem dX5_digest_22 : decode cX5_digest 22 = .ok (.aload_n 0, 1) := by decide +kernel
theorem dX5_digest_23 : decode cX5_digest 23 = .ok (.iload_n 3, 1) := by decide +kernel
theorem dX5_digest_24 : decode cX5_digest 24 = .ok (.invokevirtual 155, 3) := by decide +kernel
theorem dX5_digest_27 : decode cX5_digest 27 = .ok (.i2l, 1) := by decide +kernel
theorem dX5_digest_28 : decode cX5_digest 28 = .ok (.ladd, 1) := by decide +kernel
theorem dX5_digest_29 : decode cX5_digest 29 = .ok (.lstore_n 1, 1) := by decide +kernel
theorem dX5_digest_30 : decode cX5_digest 30 = .ok (.iinc 3 1, 3) := by decide +kernel
theorem dX5_digest_33 : decode cX5_digest 33 = .ok (.goto (-22), 3) := by decide +kernel
theorem dX5_digest_36 : decode cX5_digest 36 = .ok (.iconst 0, 1) := by decide +kernel
theorem dX5_digest_37 : decode cX5_digest 37 = .ok (.istore_n 3, 1) := by decide +kernel
theorem dX5_digest_38 : decode cX5_digest 38 = .ok (.iload_n 3, 1) := by decide +kernel
theorem dX5_digest_39 : decode cX5_digest 39 = .ok (.bipush 6, 2) := by decide +kernel
theorem dX5_digest_41 : decode cX5_digest 41 = .ok (.if_icmp .ge 139, 3) := by decide +kernel
theorem dX5_digest_44 : decode cX5_digest 44 = .ok (.iconst 0, 1) := by decide +kernel
theorem dX5_digest_45 : decode cX5_digest 45 = .ok (.istore 4, 2) := by decide +kernel
theorem dX5_digest_47 : decode cX5_digest 47 = .ok (.iload 4, 2) := by decide +kernel
theorem dX5_digest_49 : decode cX5_digest 49 = .ok (.bipush 8, 2) := by decide +kernel
theorem dX5_digest_51 : decode cX5_digest 51 = .ok (.if_icmp .ge 24, 3) := by decide +kernel
theorem dX5_digest_54 : decode cX5_digest 54 = .ok (.ldc2_w 182, 3) := by decide +kernel
theorem dX5_digest_57 : decode cX5_digest 57 = .ok (.lload_n 1, 1) := by decide +kernel
theorem dX5_digest_58 : decode cX5_digest 58 = .ok (.lmul, 1) := by decide +kernel
theorem dX5_digest_59 : decode cX5_digest 59 = .ok (.aload_n 0, 1) := by decide +kernel
theorem dX5_digest_60 : decode cX5_digest 60 = .ok (.iload_n 3, 1) := by decide +kernel
theorem dX5_digest_61 : decode cX5_digest 61 = .ok (.iload 4, 2) := by decide +kernel
theorem dX5_digest_63 : decode cX5_digest 63 = .ok (.invokevirtual 147, 3) := by decide +kernel
theorem dX5_digest_66 : decode cX5_digest 66 = .ok (.i2l, 1) := by decide +kernel
theorem dX5_digest_67 : decode cX5_digest 67 = .ok (.ladd, 1) := by decide +kernel
theorem dX5_digest_68 : decode cX5_digest 68 = .ok (.lstore_n 1, 1) := by decide +kernel
theorem dX5_digest_69 : decode cX5_digest 69 = .ok (.iinc 4 1, 3) := by decide +kernel
theorem dX5_digest_72 : decode cX5_digest 72 = .ok (.goto (-25), 3) := by decide +kernel
theorem dX5_digest_75 : decode cX5_digest 75 = .ok (.iconst 0, 1) := by decide +kernel
theorem dX5_digest_76 : decode cX5_digest 76 = .ok (.istore 4, 2) := by decide +kernel
theorem dX5_digest_78 : decode cX5_digest 78 = .ok (.iload 4, 2) := by decide +kernel
theorem dX5_digest_80 : decode cX5_digest 80 = .ok (.aload_n 0, 1) := by decide +kernel
theorem dX5_digest_81 : decode cX5_digest 81 = .ok (.getfield 7, 3) := by decide +kernel
theorem dX5_digest_84 : decode cX5_digest 84 = .ok (.iload_n 3, 1) := by decide +kernel
theorem dX5_digest_85 : decode cX5_digest 85 = .ok (.bipush 6, 2) := by decide +kernel
theorem dX5_digest_87 : decode cX5_digest 87 = .ok (.invokestatic 33, 3) := by decide +kernel
theorem dX5_digest_90 : decode cX5_digest 90 = .ok (.if_icmp .ge 49, 3) := by decide +kernel
theorem dX5_digest_93 : decode cX5_digest 93 = .ok (.ldc2_w 182, 3) := by decide +kernel
theorem dX5_digest_96 : decode cX5_digest 96 = .ok (.ldc2_w 182, 3) := by decide +kernel
theorem dX5_digest_99 : decode cX5_digest 99 = .ok (.lload_n 1, 1) := by decide +kernel
theorem dX5_digest_100 : decode cX5_digest 100 = .ok (.lmul, 1) := by decide +kernel
theorem dX5_digest_101 : decode cX5_digest 101 = .ok (.aload_n 0, 1) := by decide +kernel
theorem dX5_digest_102 : decode cX5_digest 102 = .ok (.getfield 7, 3) := by decide +kernel
theorem dX5_digest_105 : decode cX5_digest 105 = .ok (.iload_n 3, 1) := by decide +kernel
theorem dX5_digest_106 : decode cX5_digest 106 = .ok (.bipush 7, 2) := by decide +kernel
theorem dX5_digest_108 : decode cX5_digest 108 = .ok (.iload 4, 2) := by decide +kernel
theorem dX5_digest_110 : decode cX5_digest 110 = .ok (.iadd, 1) := by decide +kernel
theorem dX5_digest_111 : decode cX5_digest 111 = .ok (.invokestatic 33, 3) := by decide +kernel
theorem dX5_digest_114 : decode cX5_digest 114 = .ok (.i2l, 1) := by decide +kernel
theorem dX5_digest_115 : decode cX5_digest 115 = .ok (.ladd, 1) := by decide +kernel
theorem dX5_digest_116 : decode cX5_digest 116 = .ok (.lmul, 1) := by decide +kernel
theorem dX5_digest_117 : decode cX5_digest 117 = .ok (.aload_n 0, 1) := by decide +kernel
theorem dX5_digest_118 : decode cX5_digest 118 = .ok (.getfield 7, 3) := by decide +kernel
theorem dX5_digest_121 : decode cX5_digest 121 = .ok (.iload_n 3, 1) := by decide +kernel
theorem dX5_digest_122 : decode cX5_digest 122 = .ok (.bipush 11, 2) := by decide +kernel
theorem dX5_digest_124 : decode cX5_digest 124 = .ok (.iload 4, 2) := by decide +kernel
theorem dX5_digest_126 : decode cX5_digest 126 = .ok (.iadd, 1) := by decide +kernel
theorem dX5_digest_127 : decode cX5_digest 127 = .ok (.invokestatic 33, 3) := by decide +kernel
theorem dX5_digest_130 : decode cX5_digest 130 = .ok (.i2l, 1) := by decide +kernel
theorem dX5_digest_131 : decode cX5_digest 131 = .ok (.ladd, 1) := by decide +kernel
theorem dX5_digest_132 : decode cX5_digest 132 = .ok (.lstore_n 1, 1) := by decide +kernel
theorem dX5_digest_133 : decode cX5_digest 133 = .ok (.iinc 4 1, 3) := by decide +kernel
theorem dX5_digest_136 : decode cX5_digest 136 = .ok (.goto (-58), 3) := by decide +kernel
theorem dX5_digest_139 : decode cX5_digest 139 = .ok (.ldc2_w 182, 3) := by decide +kernel
theorem dX5_digest_142 : decode cX5_digest 142 = .ok (.ldc2_w 182, 3) := by decide +kernel
theorem dX5_digest_145 : decode cX5_digest 145 = .ok (.ldc2_w 182, 3) := by decide +kernel
theorem dX5_digest_148 : decode cX5_digest 148 = .ok (.lload_n 1, 1) := by decide +kernel
theorem dX5_digest_149 : decode cX5_digest 149 = .ok (.lmul, 1) := by decide +kernel
theorem dX5_digest_150 : decode cX5_digest 150 = .ok (.aload_n 0, 1) := by decide +kernel
theorem dX5_digest_151 : decode cX5_digest 151 = .ok (.iload_n 3, 1) := by decide +kernel
theorem dX5_digest_152 : decode cX5_digest 152 = .ok (.invokevirtual 158, 3) := by decide +kernel
theorem dX5_digest_155 : decode cX5_digest 155 = .ok (.i2l, 1) := by decide +kernel
theorem dX5_digest_156 : decode cX5_digest 156 = .ok (.ladd, 1) := by decide +kernel
theorem dX5_digest_157 : decode cX5_digest 157 = .ok (.lmul, 1) := by decide +kernel
theorem dX5_digest_158 : decode cX5_digest 158 = .ok (.aload_n 0, 1) := by decide +kernel
theorem dX5_digest_159 : decode cX5_digest 159 = .ok (.iload_n 3, 1) := by decide +kernel
theorem dX5_digest_160 : decode cX5_digest 160 = .ok (.invokevirtual 167, 3) := by decide +kernel
theorem dX5_digest_163 : decode cX5_digest 163 = .ok (.i2l, 1) := by decide +kernel
theorem dX5_digest_164 : decode cX5_digest 164 = .ok (.ladd, 1) := by decide +kernel
theorem dX5_digest_165 : decode cX5_digest 165 = .ok (.lmul, 1) := by decide +kernel
theorem dX5_digest_166 : decode cX5_digest 166 = .ok (.aload_n 0, 1) := by decide +kernel
theorem dX5_digest_167 : decode cX5_digest 167 = .ok (.iload_n 3, 1) := by decide +kernel
theorem dX5_digest_168 : decode cX5_digest 168 = .ok (.invokevirtual 173, 3) := by decide +kernel
theorem dX5_digest_171 : decode cX5_digest 171 = .ok (.i2l, 1) := by decide +kernel
theorem dX5_digest_172 : decode cX5_digest 172 = .ok (.ladd, 1) := by decide +kernel
theorem dX5_digest_173 : decode cX5_digest 173 = .ok (.lstore_n 1, 1) := by decide +kernel
theorem dX5_digest_174 : decode cX5_digest 174 = .ok (.iinc 3 1, 3) := by decide +kernel
theorem dX5_digest_177 : decode cX5_digest 177 = .ok (.goto (-139), 3) := by decide +kernel
theorem dX5_digest_180 : decode cX5_digest 180 = .ok (.ldc2_w 182, 3) := by decide +kernel
theorem dX5_digest_183 : decode cX5_digest 183 = .ok (.ldc2_w 182, 3) := by decide +kernel
theorem dX5_digest_186 : decode cX5_digest 186 = .ok (.lload_n 1, 1) := by decide +kernel
theorem dX5_digest_187 : decode cX5_digest 187 = .ok (.lmul, 1) := by decide +kernel
theorem dX5_digest_188 : decode cX5_digest 188 = .ok (.aload_n 0, 1) := by decide +kernel
theorem dX5_digest_189 : decode cX5_digest 189 = .ok (.invokevirtual 161, 3) := by decide +kernel
theorem dX5_digest_192 : decode cX5_digest 192 = .ok (.i2l, 1) := by decide +kernel
theorem dX5_digest_193 : decode cX5_digest 193 = .ok (.ladd, 1) := by decide +kernel
theorem dX5_digest_194 : decode cX5_digest 194 = .ok (.lmul, 1) := by decide +kernel
theorem dX5_digest_195 : decode cX5_digest 195 = .ok (.aload_n 0, 1) := by decide +kernel
theorem dX5_digest_196 : decode cX5_digest 196 = .ok (.invokevirtual 170, 3) := by decide +kernel
theorem dX5_digest_199 : decode cX5_digest 199 = .ok (.i2l, 1) := by decide +kernel
theorem dX5_digest_200 : decode cX5_digest 200 = .ok (.ladd, 1) := by decide +kernel
theorem dX5_digest_201 : decode cX5_digest 201 = .ok (.lstore_n 1, 1) := by decide +kernel
theorem dX5_digest_202 : decode cX5_digest 202 = .ok (.ldc2_w 182, 3) := by decide +kernel
theorem dX5_digest_205 : decode cX5_digest 205 = .ok (.ldc2_w 182, 3) := by decide +kernel
theorem dX5_digest_208 : decode cX5_digest 208 = .ok (.lload_n 1, 1) := by decide +kernel
theorem dX5_digest_209 : decode cX5_digest 209 = .ok (.lmul, 1) := by decide +kernel
theorem dX5_digest_210 : decode cX5_digest 210 = .ok (.aload_n 0, 1) := by decide +kernel
theorem dX5_digest_211 : decode cX5_digest 211 = .ok (.invokevirtual 176, 3) := by decide +kernel
theorem dX5_digest_214 : decode cX5_digest 214 = .ok (.invokestatic 184, 3) := by decide +kernel
theorem dX5_digest_217 : decode cX5_digest 217 = .ok (.ladd, 1) := by decide +kernel
theorem dX5_digest_218 : decode cX5_digest 218 = .ok (.lmul, 1) := by decide +kernel
theorem dX5_digest_219 : decode cX5_digest 219 = .ok (.aload_n 0, 1) := by decide +kernel
theorem dX5_digest_220 : decode cX5_digest 220 = .ok (.getfield 113, 3) := by decide +kernel
theorem dX5_digest_223 : decode cX5_digest 223 = .ok (.i2l, 1) := by decide +kernel
theorem dX5_digest_224 : decode cX5_digest 224 = .ok (.ladd, 1) := by decide +kernel
theorem dX5_digest_225 : decode cX5_digest 225 = .ok (.lstore_n 1, 1) := by decide +kernel
theorem dX5_digest_226 : decode cX5_digest 226 = .ok (.iconst 0, 1) := by decide +kernel
theorem dX5_digest_227 : decode cX5_digest 227 = .ok (.istore_n 3, 1) := by decide +kernel
theorem dX5_digest_228 : decode cX5_digest 228 = .ok (.iload_n 3, 1) := by decide +kernel
theorem dX5_digest_229 : decode cX5_digest 229 = .ok (.aload_n 0, 1) := by decide +kernel
theorem dX5_digest_230 : decode cX5_digest 230 = .ok (.getfield 113, 3) := by decide +kernel
theorem dX5_digest_233 : decode cX5_digest 233 = .ok (.if_icmp .ge 23, 3) := by decide +kernel
theorem dX5_digest_236 : decode cX5_digest 236 = .ok (.ldc2_w 182, 3) := by decide +kernel
theorem dX5_digest_239 : decode cX5_digest 239 = .ok (.lload_n 1, 1) := by decide +kernel
theorem dX5_digest_240 : decode cX5_digest 240 = .ok (.lmul, 1) := by decide +kernel
theorem dX5_digest_241 : decode cX5_digest 241 = .ok (.aload_n 0, 1) := by decide +kernel
theorem dX5_digest_242 : decode cX5_digest 242 = .ok (.getfield 19, 3) := by decide +kernel
theorem dX5_digest_245 : decode cX5_digest 245 = .ok (.iload_n 3, 1) := by decide +kernel
theorem dX5_digest_246 : decode cX5_digest 246 = .ok (.iaload, 1) := by decide +kernel
theorem dX5_digest_247 : decode cX5_digest 247 = .ok (.i2l, 1) := by decide +kernel
theorem dX5_digest_248 : decode cX5_digest 248 = .ok (.ladd, 1) := by decide +kernel
theorem dX5_digest_249 : decode cX5_digest 249 = .ok (.lstore_n 1, 1) := by decide +kernel
theorem dX5_digest_250 : decode cX5_digest 250 = .ok (.iinc 3 1, 3) := by decide +kernel
theorem dX5_digest_253 : decode cX5_digest 253 = .ok (.goto (-25), 3) := by decide +kernel
theorem dX5_digest_256 : decode cX5_digest 256 = .ok (.lload_n 1, 1) := by decide +kernel
theorem dX5_digest_257 : decode cX5_digest 257 = .ok (.lreturn, 1) := by decide +kernel

theorem dX0_init_0 : decode cX0_init 0 = .ok (.aload_n 0, 1) := by decide +kernel
theorem dX0_init_1 : decode cX0_init 1 = .ok (.invokespecial 3, 3) := by decide +kernel
theorem dX0_init_4 : decode cX0_init 4 = .ok (.aload_n 0, 1) := by decide +kernel
theorem dX0_init_5 : decode cX0_init 5 = .ok (.bipush 15, 2) := by decide +kernel
theorem dX0_init_7 : decode cX0_init 7 = .ok (.newarray .int, 2) := by decide +kernel
theorem dX0_init_9 : decode cX0_init 9 = .ok (.putfield 9, 3) := by decide +kernel
theorem dX0_init_12 : decode cX0_init 12 = .ok (.aload_n 0, 1) := by decide +kernel
theorem dX0_init_13 : decode cX0_init 13 = .ok (.bipush 15, 2) := by decide +kernel
theorem dX0_init_15 : decode cX0_init 15 = .ok (.newarray .int, 2) := by decide +kernel
theorem dX0_init_17 : decode cX0_init 17 = .ok (.putfield 15, 3) := by decide +kernel
theorem dX0_init_20 : decode cX0_init 20 = .ok (.return_, 1) := by decide +kernel
theorem dX0_enter_0 : decode cX0_enter 0 = .ok (.aload_n 0, 1) := by decide +kernel
theorem dX0_enter_1 : decode cX0_enter 1 = .ok (.getfield 9, 3) := by decide +kernel
theorem dX0_enter_4 : decode cX0_enter 4 = .ok (.aload_n 0, 1) := by decide +kernel
theorem dX0_enter_5 : decode cX0_enter 5 = .ok (.getfield 18, 3) := by decide +kernel
theorem dX0_enter_8 : decode cX0_enter 8 = .ok (.iload_n 1, 1) := by decide +kernel
theorem dX0_enter_9 : decode cX0_enter 9 = .ok (.invokestatic 22, 3) := by decide +kernel
theorem dX0_enter_12 : decode cX0_enter 12 = .ok (.aload_n 0, 1) := by decide +kernel
theorem dX0_enter_13 : decode cX0_enter 13 = .ok (.getfield 15, 3) := by decide +kernel
theorem dX0_enter_16 : decode cX0_enter 16 = .ok (.aload_n 0, 1) := by decide +kernel
theorem dX0_enter_17 : decode cX0_enter 17 = .ok (.getfield 18, 3) := by decide +kernel
theorem dX0_enter_20 : decode cX0_enter 20 = .ok (.iload_n 2, 1) := by decide +kernel
theorem dX0_enter_21 : decode cX0_enter 21 = .ok (.invokestatic 22, 3) := by decide +kernel
theorem dX0_enter_24 : decode cX0_enter 24 = .ok (.aload_n 0, 1) := by decide +kernel
theorem dX0_enter_25 : decode cX0_enter 25 = .ok (.dup, 1) := by decide +kernel
theorem dX0_enter_26 : decode cX0_enter 26 = .ok (.getfield 18, 3) := by decide +kernel
theorem dX0_enter_29 : decode cX0_enter 29 = .ok (.iconst 1, 1) := by decide +kernel
theorem dX0_enter_30 : decode cX0_enter 30 = .ok (.iadd, 1) := by decide +kernel
theorem dX0_enter_31 : decode cX0_enter 31 = .ok (.putfield 18, 3) := by decide +kernel
theorem dX0_enter_34 : decode cX0_enter 34 = .ok (.aload_n 0, 1) := by decide +kernel
theorem dX0_enter_35 : decode cX0_enter 35 = .ok (.getfield 18, 3) := by decide +kernel
theorem dX0_enter_38 : decode cX0_enter 38 = .ok (.ireturn, 1) := by decide +kernel
theorem dX0_firstWrong_0 : decode cX0_firstWrong 0 = .ok (.iconst 0, 1) := by decide +kernel
theorem dX0_firstWrong_1 : decode cX0_firstWrong 1 = .ok (.istore_n 2, 1) := by decide +kernel
theorem dX0_firstWrong_2 : decode cX0_firstWrong 2 = .ok (.iload_n 2, 1) := by decide +kernel
theorem dX0_firstWrong_3 : decode cX0_firstWrong 3 = .ok (.aload_n 0, 1) := by decide +kernel
theorem dX0_firstWrong_4 : decode cX0_firstWrong 4 = .ok (.getfield 18, 3) := by decide +kernel
theorem dX0_firstWrong_7 : decode cX0_firstWrong 7 = .ok (.if_icmp .ge 37, 3) := by decide +kernel
theorem dX0_firstWrong_10 : decode cX0_firstWrong 10 = .ok (.aload_n 1, 1) := by decide +kernel
theorem dX0_firstWrong_11 : decode cX0_firstWrong 11 = .ok (.getfield 26, 3) := by decide +kernel
theorem dX0_firstWrong_14 : decode cX0_firstWrong 14 = .ok (.aload_n 0, 1) := by decide +kernel
theorem dX0_firstWrong_15 : decode cX0_firstWrong 15 = .ok (.getfield 9, 3) := by decide +kernel
theorem dX0_firstWrong_18 : decode cX0_firstWrong 18 = .ok (.iload_n 2, 1) := by decide +kernel
theorem dX0_firstWrong_19 : decode cX0_firstWrong 19 = .ok (.invokestatic 31, 3) := by decide +kernel
theorem dX0_firstWrong_22 : decode cX0_firstWrong 22 = .ok (.invokestatic 31, 3) := by decide +kernel
theorem dX0_firstWrong_25 : decode cX0_firstWrong 25 = .ok (.aload_n 0, 1) := by decide +kernel
theorem dX0_firstWrong_26 : decode cX0_firstWrong 26 = .ok (.getfield 15, 3) := by decide +kernel
theorem dX0_firstWrong_29 : decode cX0_firstWrong 29 = .ok (.iload_n 2, 1) := by decide +kernel
theorem dX0_firstWrong_30 : decode cX0_firstWrong 30 = .ok (.invokestatic 31, 3) := by decide +kernel
theorem dX0_firstWrong_33 : decode cX0_firstWrong 33 = .ok (.if_icmp .eq 5, 3) := by decide +kernel
theorem dX0_firstWrong_36 : decode cX0_firstWrong 36 = .ok (.iload_n 2, 1) := by decide +kernel
theorem dX0_firstWrong_37 : decode cX0_firstWrong 37 = .ok (.ireturn, 1) := by decide +kernel
theorem dX0_firstWrong_38 : decode cX0_firstWrong 38 = .ok (.iinc 2 1, 3) := by decide +kernel
theorem dX0_firstWrong_41 : decode cX0_firstWrong 41 = .ok (.goto (-39), 3) := by decide +kernel
theorem dX0_firstWrong_44 : decode cX0_firstWrong 44 = .ok (.iconst (-1), 1) := by decide +kernel
theorem dX0_firstWrong_45 : decode cX0_firstWrong 45 = .ok (.ireturn, 1) := by decide +kernel
theorem dX1_init_0 : decode cX1_init 0 = .ok (.aload_n 0, 1) := by decide +kernel
theorem dX1_init_1 : decode cX1_init 1 = .ok (.invokespecial 1, 3) := by decide +kernel
theorem dX1_init_4 : decode cX1_init 4 = .ok (.return_, 1) := by decide +kernel
theorem dX1_next_0 : decode cX1_next 0 = .ok (.aload_n 0, 1) := by decide +kernel
theorem dX1_next_1 : decode cX1_next 1 = .ok (.aload_n 0, 1) := by decide +kernel
theorem dX1_next_2 : decode cX1_next 2 = .ok (.getfield 7, 3) := by decide +kernel
theorem dX1_next_5 : decode cX1_next 5 = .ok (.ldc2_w 13, 3) := by decide +kernel
theorem dX1_next_8 : decode cX1_next 8 = .ok (.lmul, 1) := by decide +kernel
theorem dX1_next_9 : decode cX1_next 9 = .ok (.ldc2_w 15, 3) := by decide +kernel
theorem dX1_next_12 : decode cX1_next 12 = .ok (.ladd, 1) := by decide +kernel
theorem dX1_next_13 : decode cX1_next 13 = .ok (.ldc2_w 17, 3) := by decide +kernel
theorem dX1_next_16 : decode cX1_next 16 = .ok (.land, 1) := by decide +kernel
theorem dX1_next_17 : decode cX1_next 17 = .ok (.putfield 7, 3) := by decide +kernel
theorem dX1_next_20 : decode cX1_next 20 = .ok (.iload_n 1, 1) := by decide +kernel
theorem dX1_next_21 : decode cX1_next 21 = .ok (.ifCond .le 18, 3) := by decide +kernel
theorem dX1_next_24 : decode cX1_next 24 = .ok (.aload_n 0, 1) := by decide +kernel
theorem dX1_next_25 : decode cX1_next 25 = .ok (.getfield 7, 3) := by decide +kernel
theorem dX1_next_28 : decode cX1_next 28 = .ok (.ldc2_w 19, 3) := by decide +kernel
theorem dX1_next_31 : decode cX1_next 31 = .ok (.ldiv, 1) := by decide +kernel
theorem dX1_next_32 : decode cX1_next 32 = .ok (.iload_n 1, 1) := by decide +kernel
theorem dX1_next_33 : decode cX1_next 33 = .ok (.i2l, 1) := by decide +kernel
theorem dX1_next_34 : decode cX1_next 34 = .ok (.lrem, 1) := by decide +kernel
theorem dX1_next_35 : decode cX1_next 35 = .ok (.l2i, 1) := by decide +kernel
theorem dX1_next_36 : decode cX1_next 36 = .ok (.goto 4, 3) := by decide +kernel
theorem dX1_next_39 : decode cX1_next 39 = .ok (.iconst 0, 1) := by decide +kernel
theorem dX1_next_40 : decode cX1_next 40 = .ok (.ireturn, 1) := by decide +kernel
theorem dX2_init_0 : decode cX2_init 0 = .ok (.aload_n 0, 1) := by decide +kernel
theorem dX2_init_1 : decode cX2_init 1 = .ok (.invokespecial 3, 3) := by decide +kernel
theorem dX2_init_4 : decode cX2_init 4 = .ok (.aload_n 0, 1) := by decide +kernel
theorem dX2_init_5 : decode cX2_init 5 = .ok (.bipush 8, 2) := by decide +kernel
theorem dX2_init_7 : decode cX2_init 7 = .ok (.newarray .int, 2) := by decide +kernel
theorem dX2_init_9 : decode cX2_init 9 = .ok (.putfield 9, 3) := by decide +kernel
theorem dX2_init_12 : decode cX2_init 12 = .ok (.aload_n 0, 1) := by decide +kernel
theorem dX2_init_13 : decode cX2_init 13 = .ok (.bipush 8, 2) := by decide +kernel
theorem dX2_init_15 : decode cX2_init 15 = .ok (.newarray .int, 2) := by decide +kernel
theorem dX2_init_17 : decode cX2_init 17 = .ok (.putfield 15, 3) := by decide +kernel
theorem dX2_init_20 : decode cX2_init 20 = .ok (.aload_n 0, 1) := by decide +kernel
theorem dX2_init_21 : decode cX2_init 21 = .ok (.bipush 7, 2) := by decide +kernel
theorem dX2_init_23 : decode cX2_init 23 = .ok (.newarray .int, 2) := by decide +kernel
theorem dX2_init_25 : decode cX2_init 25 = .ok (.putfield 18, 3) := by decide +kernel
theorem dX2_init_28 : decode cX2_init 28 = .ok (.aload_n 0, 1) := by decide +kernel
theorem dX2_init_29 : decode cX2_init 29 = .ok (.bipush 7, 2) := by decide +kernel
theorem dX2_init_31 : decode cX2_init 31 = .ok (.newarray .int, 2) := by decide +kernel
theorem dX2_init_33 : decode cX2_init 33 = .ok (.putfield 21, 3) := by decide +kernel
theorem dX2_init_36 : decode cX2_init 36 = .ok (.aload_n 0, 1) := by decide +kernel
theorem dX2_init_37 : decode cX2_init 37 = .ok (.bipush 7, 2) := by decide +kernel
theorem dX2_init_39 : decode cX2_init 39 = .ok (.newarray .int, 2) := by decide +kernel
theorem dX2_init_41 : decode cX2_init 41 = .ok (.putfield 24, 3) := by decide +kernel
theorem dX2_init_44 : decode cX2_init 44 = .ok (.aload_n 0, 1) := by decide +kernel
theorem dX2_init_45 : decode cX2_init 45 = .ok (.bipush 10, 2) := by decide +kernel
theorem dX2_init_47 : decode cX2_init 47 = .ok (.newarray .int, 2) := by decide +kernel
theorem dX2_init_49 : decode cX2_init 49 = .ok (.putfield 27, 3) := by decide +kernel
theorem dX2_init_52 : decode cX2_init 52 = .ok (.aload_n 0, 1) := by decide +kernel
theorem dX2_init_53 : decode cX2_init 53 = .ok (.iconst 5, 1) := by decide +kernel
theorem dX2_init_54 : decode cX2_init 54 = .ok (.newarray .int, 2) := by decide +kernel
theorem dX2_init_56 : decode cX2_init 56 = .ok (.putfield 30, 3) := by decide +kernel
theorem dX2_init_59 : decode cX2_init 59 = .ok (.return_, 1) := by decide +kernel
theorem dX2_empty_0 : decode cX2_empty 0 = .ok (.aload_n 0, 1) := by decide +kernel
theorem dX2_empty_1 : decode cX2_empty 1 = .ok (.iconst 0, 1) := by decide +kernel
theorem dX2_empty_2 : decode cX2_empty 2 = .ok (.putfield 33, 3) := by decide +kernel
theorem dX2_empty_5 : decode cX2_empty 5 = .ok (.aload_n 0, 1) := by decide +kernel
theorem dX2_empty_6 : decode cX2_empty 6 = .ok (.iconst 0, 1) := by decide +kernel
theorem dX2_empty_7 : decode cX2_empty 7 = .ok (.putfield 37, 3) := by decide +kernel
theorem dX2_empty_10 : decode cX2_empty 10 = .ok (.aload_n 0, 1) := by decide +kernel
theorem dX2_empty_11 : decode cX2_empty 11 = .ok (.iconst 0, 1) := by decide +kernel
theorem dX2_empty_12 : decode cX2_empty 12 = .ok (.putfield 40, 3) := by decide +kernel
theorem dX2_empty_15 : decode cX2_empty 15 = .ok (.aload_n 0, 1) := by decide +kernel
theorem dX2_empty_16 : decode cX2_empty 16 = .ok (.iconst 0, 1) := by decide +kernel
theorem dX2_empty_17 : decode cX2_empty 17 = .ok (.putfield 43, 3) := by decide +kernel
theorem dX2_empty_20 : decode cX2_empty 20 = .ok (.aload_n 0, 1) := by decide +kernel
theorem dX2_empty_21 : decode cX2_empty 21 = .ok (.iconst 0, 1) := by decide +kernel
theorem dX2_empty_22 : decode cX2_empty 22 = .ok (.putfield 46, 3) := by decide +kernel
theorem dX2_empty_25 : decode cX2_empty 25 = .ok (.aload_n 0, 1) := by decide +kernel
theorem dX2_empty_26 : decode cX2_empty 26 = .ok (.getfield 24, 3) := by decide +kernel
theorem dX2_empty_29 : decode cX2_empty 29 = .ok (.iconst (-1), 1) := by decide +kernel
theorem dX2_empty_30 : decode cX2_empty 30 = .ok (.invokestatic 49, 3) := by decide +kernel
theorem dX2_empty_33 : decode cX2_empty 33 = .ok (.aload_n 0, 1) := by decide +kernel
theorem dX2_empty_34 : decode cX2_empty 34 = .ok (.getfield 27, 3) := by decide +kernel
theorem dX2_empty_37 : decode cX2_empty 37 = .ok (.iconst 0, 1) := by decide +kernel
theorem dX2_empty_38 : decode cX2_empty 38 = .ok (.invokestatic 49, 3) := by decide +kernel
theorem dX2_empty_41 : decode cX2_empty 41 = .ok (.return_, 1) := by decide +kernel
theorem dX2_hasRoom_0 : decode cX2_hasRoom 0 = .ok (.iload_n 1, 1) := by decide +kernel
theorem dX2_hasRoom_1 : decode cX2_hasRoom 1 = .ok (.ifCond .lt 15, 3) := by decide +kernel
theorem dX2_hasRoom_4 : decode cX2_hasRoom 4 = .ok (.iload_n 1, 1) := by decide +kernel
theorem dX2_hasRoom_5 : decode cX2_hasRoom 5 = .ok (.aload_n 0, 1) := by decide +kernel
theorem dX2_hasRoom_6 : decode cX2_hasRoom 6 = .ok (.getfield 33, 3) := by decide +kernel
theorem dX2_hasRoom_9 : decode cX2_hasRoom 9 = .ok (.if_icmp .ge 7, 3) := by decide +kernel
theorem dX2_hasRoom_12 : decode cX2_hasRoom 12 = .ok (.iconst 1, 1) := by decide +kernel
theorem dX2_hasRoom_13 : decode cX2_hasRoom 13 = .ok (.goto 4, 3) := by decide +kernel
theorem dX2_hasRoom_16 : decode cX2_hasRoom 16 = .ok (.iconst 0, 1) := by decide +kernel
theorem dX2_hasRoom_17 : decode cX2_hasRoom 17 = .ok (.ireturn, 1) := by decide +kernel
theorem dX2_hasDoor_0 : decode cX2_hasDoor 0 = .ok (.iload_n 1, 1) := by decide +kernel
theorem dX2_hasDoor_1 : decode cX2_hasDoor 1 = .ok (.ifCond .lt 15, 3) := by decide +kernel
theorem dX2_hasDoor_4 : decode cX2_hasDoor 4 = .ok (.iload_n 1, 1) := by decide +kernel
theorem dX2_hasDoor_5 : decode cX2_hasDoor 5 = .ok (.aload_n 0, 1) := by decide +kernel
theorem dX2_hasDoor_6 : decode cX2_hasDoor 6 = .ok (.getfield 40, 3) := by decide +kernel
theorem dX2_hasDoor_9 : decode cX2_hasDoor 9 = .ok (.if_icmp .ge 7, 3) := by decide +kernel
theorem dX2_hasDoor_12 : decode cX2_hasDoor 12 = .ok (.iconst 1, 1) := by decide +kernel
theorem dX2_hasDoor_13 : decode cX2_hasDoor 13 = .ok (.goto 4, 3) := by decide +kernel
theorem dX2_hasDoor_16 : decode cX2_hasDoor 16 = .ok (.iconst 0, 1) := by decide +kernel
theorem dX2_hasDoor_17 : decode cX2_hasDoor 17 = .ok (.ireturn, 1) := by decide +kernel
theorem dX2_hasMirror_0 : decode cX2_hasMirror 0 = .ok (.iload_n 1, 1) := by decide +kernel
theorem dX2_hasMirror_1 : decode cX2_hasMirror 1 = .ok (.ifCond .lt 15, 3) := by decide +kernel
theorem dX2_hasMirror_4 : decode cX2_hasMirror 4 = .ok (.iload_n 1, 1) := by decide +kernel
theorem dX2_hasMirror_5 : decode cX2_hasMirror 5 = .ok (.aload_n 0, 1) := by decide +kernel
theorem dX2_hasMirror_6 : decode cX2_hasMirror 6 = .ok (.getfield 43, 3) := by decide +kernel
theorem dX2_hasMirror_9 : decode cX2_hasMirror 9 = .ok (.if_icmp .ge 7, 3) := by decide +kernel
theorem dX2_hasMirror_12 : decode cX2_hasMirror 12 = .ok (.iconst 1, 1) := by decide +kernel
theorem dX2_hasMirror_13 : decode cX2_hasMirror 13 = .ok (.goto 4, 3) := by decide +kernel
theorem dX2_hasMirror_16 : decode cX2_hasMirror 16 = .ok (.iconst 0, 1) := by decide +kernel
theorem dX2_hasMirror_17 : decode cX2_hasMirror 17 = .ok (.ireturn, 1) := by decide +kernel
theorem dX2_hasPerson_0 : decode cX2_hasPerson 0 = .ok (.iload_n 1, 1) := by decide +kernel
theorem dX2_hasPerson_1 : decode cX2_hasPerson 1 = .ok (.ifCond .lt 15, 3) := by decide +kernel
theorem dX2_hasPerson_4 : decode cX2_hasPerson 4 = .ok (.iload_n 1, 1) := by decide +kernel
theorem dX2_hasPerson_5 : decode cX2_hasPerson 5 = .ok (.aload_n 0, 1) := by decide +kernel
theorem dX2_hasPerson_6 : decode cX2_hasPerson 6 = .ok (.getfield 46, 3) := by decide +kernel
theorem dX2_hasPerson_9 : decode cX2_hasPerson 9 = .ok (.if_icmp .ge 7, 3) := by decide +kernel
theorem dX2_hasPerson_12 : decode cX2_hasPerson 12 = .ok (.iconst 1, 1) := by decide +kernel
theorem dX2_hasPerson_13 : decode cX2_hasPerson 13 = .ok (.goto 4, 3) := by decide +kernel
theorem dX2_hasPerson_16 : decode cX2_hasPerson 16 = .ok (.iconst 0, 1) := by decide +kernel
theorem dX2_hasPerson_17 : decode cX2_hasPerson 17 = .ok (.ireturn, 1) := by decide +kernel
theorem dX2_allMirrors_0 : decode cX2_allMirrors 0 = .ok (.iconst 1, 1) := by decide +kernel
theorem dX2_allMirrors_1 : decode cX2_allMirrors 1 = .ok (.aload_n 0, 1) := by decide +kernel
theorem dX2_allMirrors_2 : decode cX2_allMirrors 2 = .ok (.getfield 43, 3) := by decide +kernel
theorem dX2_allMirrors_5 : decode cX2_allMirrors 5 = .ok (.ishl, 1) := by decide +kernel
theorem dX2_allMirrors_6 : decode cX2_allMirrors 6 = .ok (.iconst 1, 1) := by decide +kernel
theorem dX2_allMirrors_7 : decode cX2_allMirrors 7 = .ok (.isub, 1) := by decide +kernel
theorem dX2_allMirrors_8 : decode cX2_allMirrors 8 = .ok (.ireturn, 1) := by decide +kernel
theorem dX2_mirrorsIn_0 : decode cX2_mirrorsIn 0 = .ok (.iconst 0, 1) := by decide +kernel
theorem dX2_mirrorsIn_1 : decode cX2_mirrorsIn 1 = .ok (.istore_n 2, 1) := by decide +kernel
theorem dX2_mirrorsIn_2 : decode cX2_mirrorsIn 2 = .ok (.iconst 0, 1) := by decide +kernel
theorem dX2_mirrorsIn_3 : decode cX2_mirrorsIn 3 = .ok (.istore_n 3, 1) := by decide +kernel
theorem dX2_mirrorsIn_4 : decode cX2_mirrorsIn 4 = .ok (.iload_n 3, 1) := by decide +kernel
theorem dX2_mirrorsIn_5 : decode cX2_mirrorsIn 5 = .ok (.aload_n 0, 1) := by decide +kernel
theorem dX2_mirrorsIn_6 : decode cX2_mirrorsIn 6 = .ok (.getfield 43, 3) := by decide +kernel
theorem dX2_mirrorsIn_9 : decode cX2_mirrorsIn 9 = .ok (.if_icmp .ge 28, 3) := by decide +kernel
theorem dX2_mirrorsIn_12 : decode cX2_mirrorsIn 12 = .ok (.aload_n 0, 1) := by decide +kernel
theorem dX2_mirrorsIn_13 : decode cX2_mirrorsIn 13 = .ok (.getfield 18, 3) := by decide +kernel
theorem dX2_mirrorsIn_16 : decode cX2_mirrorsIn 16 = .ok (.iload_n 3, 1) := by decide +kernel
theorem dX2_mirrorsIn_17 : decode cX2_mirrorsIn 17 = .ok (.invokestatic 53, 3) := by decide +kernel
theorem dX2_mirrorsIn_20 : decode cX2_mirrorsIn 20 = .ok (.iload_n 1, 1) := by decide +kernel
theorem dX2_mirrorsIn_21 : decode cX2_mirrorsIn 21 = .ok (.if_icmp .ne 10, 3) := by decide +kernel
theorem dX2_mirrorsIn_24 : decode cX2_mirrorsIn 24 = .ok (.iload_n 2, 1) := by decide +kernel
theorem dX2_mirrorsIn_25 : decode cX2_mirrorsIn 25 = .ok (.iload_n 3, 1) := by decide +kernel
theorem dX2_mirrorsIn_26 : decode cX2_mirrorsIn 26 = .ok (.iconst 1, 1) := by decide +kernel
theorem dX2_mirrorsIn_27 : decode cX2_mirrorsIn 27 = .ok (.invokestatic 57, 3) := by decide +kernel
theorem dX2_mirrorsIn_30 : decode cX2_mirrorsIn 30 = .ok (.istore_n 2, 1) := by decide +kernel
theorem dX2_mirrorsIn_31 : decode cX2_mirrorsIn 31 = .ok (.iinc 3 1, 3) := by decide +kernel
theorem dX2_mirrorsIn_34 : decode cX2_mirrorsIn 34 = .ok (.goto (-30), 3) := by decide +kernel
theorem dX2_mirrorsIn_37 : decode cX2_mirrorsIn 37 = .ok (.iload_n 2, 1) := by decide +kernel
theorem dX2_mirrorsIn_38 : decode cX2_mirrorsIn 38 = .ok (.ireturn, 1) := by decide +kernel
theorem dX2_hungAhead_0 : decode cX2_hungAhead 0 = .ok (.aload_n 0, 1) := by decide +kernel
theorem dX2_hungAhead_1 : decode cX2_hungAhead 1 = .ok (.getfield 24, 3) := by decide +kernel
theorem dX2_hungAhead_4 : decode cX2_hungAhead 4 = .ok (.iload_n 1, 1) := by decide +kernel
theorem dX2_hungAhead_5 : decode cX2_hungAhead 5 = .ok (.invokestatic 53, 3) := by decide +kernel
theorem dX2_hungAhead_8 : decode cX2_hungAhead 8 = .ok (.istore_n 2, 1) := by decide +kernel
theorem dX2_hungAhead_9 : decode cX2_hungAhead 9 = .ok (.iload_n 2, 1) := by decide +kernel
theorem dX2_hungAhead_10 : decode cX2_hungAhead 10 = .ok (.iload_n 1, 1) := by decide +kernel
theorem dX2_hungAhead_11 : decode cX2_hungAhead 11 = .ok (.if_icmp .ge 7, 3) := by decide +kernel
theorem dX2_hungAhead_14 : decode cX2_hungAhead 14 = .ok (.iload_n 2, 1) := by decide +kernel
theorem dX2_hungAhead_15 : decode cX2_hungAhead 15 = .ok (.goto 4, 3) := by decide +kernel
theorem dX2_hungAhead_18 : decode cX2_hungAhead 18 = .ok (.iconst (-1), 1) := by decide +kernel
theorem dX2_hungAhead_19 : decode cX2_hungAhead 19 = .ok (.ireturn, 1) := by decide +kernel
theorem dX2_breathOf_0 : decode cX2_breathOf 0 = .ok (.iconst 1, 1) := by decide +kernel
theorem dX2_breathOf_1 : decode cX2_breathOf 1 = .ok (.aload_n 0, 1) := by decide +kernel
theorem dX2_breathOf_2 : decode cX2_breathOf 2 = .ok (.getfield 27, 3) := by decide +kernel
theorem dX2_breathOf_5 : decode cX2_breathOf 5 = .ok (.iload_n 1, 1) := by decide +kernel
theorem dX2_breathOf_6 : decode cX2_breathOf 6 = .ok (.invokestatic 53, 3) := by decide +kernel
theorem dX2_breathOf_9 : decode cX2_breathOf 9 = .ok (.invokestatic 61, 3) := by decide +kernel
theorem dX2_breathOf_12 : decode cX2_breathOf 12 = .ok (.ireturn, 1) := by decide +kernel
theorem dX2_haveDoor_0 : decode cX2_haveDoor 0 = .ok (.iconst 0, 1) := by decide +kernel
theorem dX2_haveDoor_1 : decode cX2_haveDoor 1 = .ok (.istore_n 3, 1) := by decide +kernel
theorem dX2_haveDoor_2 : decode cX2_haveDoor 2 = .ok (.iload_n 3, 1) := by decide +kernel
theorem dX2_haveDoor_3 : decode cX2_haveDoor 3 = .ok (.aload_n 0, 1) := by decide +kernel
theorem dX2_haveDoor_4 : decode cX2_haveDoor 4 = .ok (.getfield 40, 3) := by decide +kernel
theorem dX2_haveDoor_7 : decode cX2_haveDoor 7 = .ok (.if_icmp .ge 55, 3) := by decide +kernel
theorem dX2_haveDoor_10 : decode cX2_haveDoor 10 = .ok (.aload_n 0, 1) := by decide +kernel
theorem dX2_haveDoor_11 : decode cX2_haveDoor 11 = .ok (.getfield 9, 3) := by decide +kernel
theorem dX2_haveDoor_14 : decode cX2_haveDoor 14 = .ok (.iload_n 3, 1) := by decide +kernel
theorem dX2_haveDoor_15 : decode cX2_haveDoor 15 = .ok (.invokestatic 53, 3) := by decide +kernel
theorem dX2_haveDoor_18 : decode cX2_haveDoor 18 = .ok (.istore 4, 2) := by decide +kernel
theorem dX2_haveDoor_20 : decode cX2_haveDoor 20 = .ok (.aload_n 0, 1) := by decide +kernel
theorem dX2_haveDoor_21 : decode cX2_haveDoor 21 = .ok (.getfield 15, 3) := by decide +kernel
theorem dX2_haveDoor_24 : decode cX2_haveDoor 24 = .ok (.iload_n 3, 1) := by decide +kernel
theorem dX2_haveDoor_25 : decode cX2_haveDoor 25 = .ok (.invokestatic 53, 3) := by decide +kernel
theorem dX2_haveDoor_28 : decode cX2_haveDoor 28 = .ok (.istore 5, 2) := by decide +kernel
theorem dX2_haveDoor_30 : decode cX2_haveDoor 30 = .ok (.iload 4, 2) := by decide +kernel
theorem dX2_haveDoor_32 : decode cX2_haveDoor 32 = .ok (.iload_n 1, 1) := by decide +kernel
theorem dX2_haveDoor_33 : decode cX2_haveDoor 33 = .ok (.if_icmp .ne 9, 3) := by decide +kernel
theorem dX2_haveDoor_36 : decode cX2_haveDoor 36 = .ok (.iload 5, 2) := by decide +kernel
theorem dX2_haveDoor_38 : decode cX2_haveDoor 38 = .ok (.iload_n 2, 1) := by decide +kernel
theorem dX2_haveDoor_39 : decode cX2_haveDoor 39 = .ok (.if_icmp .eq 15, 3) := by decide +kernel
theorem dX2_haveDoor_42 : decode cX2_haveDoor 42 = .ok (.iload 4, 2) := by decide +kernel
theorem dX2_haveDoor_44 : decode cX2_haveDoor 44 = .ok (.iload_n 2, 1) := by decide +kernel
theorem dX2_haveDoor_45 : decode cX2_haveDoor 45 = .ok (.if_icmp .ne 11, 3) := by decide +kernel
theorem dX2_haveDoor_48 : decode cX2_haveDoor 48 = .ok (.iload 5, 2) := by decide +kernel
theorem dX2_haveDoor_50 : decode cX2_haveDoor 50 = .ok (.iload_n 1, 1) := by decide +kernel
theorem dX2_haveDoor_51 : decode cX2_haveDoor 51 = .ok (.if_icmp .ne 5, 3) := by decide +kernel
theorem dX2_haveDoor_54 : decode cX2_haveDoor 54 = .ok (.iconst 1, 1) := by decide +kernel
theorem dX2_haveDoor_55 : decode cX2_haveDoor 55 = .ok (.ireturn, 1) := by decide +kernel
theorem dX2_haveDoor_56 : decode cX2_haveDoor 56 = .ok (.iinc 3 1, 3) := by decide +kernel
theorem dX2_haveDoor_59 : decode cX2_haveDoor 59 = .ok (.goto (-57), 3) := by decide +kernel
theorem dX2_haveDoor_62 : decode cX2_haveDoor 62 = .ok (.iconst 0, 1) := by decide +kernel
theorem dX2_haveDoor_63 : decode cX2_haveDoor 63 = .ok (.ireturn, 1) := by decide +kernel
theorem dX2_addDoor_0 : decode cX2_addDoor 0 = .ok (.aload_n 0, 1) := by decide +kernel
theorem dX2_addDoor_1 : decode cX2_addDoor 1 = .ok (.getfield 9, 3) := by decide +kernel
theorem dX2_addDoor_4 : decode cX2_addDoor 4 = .ok (.aload_n 0, 1) := by decide +kernel
theorem dX2_addDoor_5 : decode cX2_addDoor 5 = .ok (.getfield 40, 3) := by decide +kernel
theorem dX2_addDoor_8 : decode cX2_addDoor 8 = .ok (.iload_n 1, 1) := by decide +kernel
theorem dX2_addDoor_9 : decode cX2_addDoor 9 = .ok (.invokestatic 67, 3) := by decide +kernel
theorem dX2_addDoor_12 : decode cX2_addDoor 12 = .ok (.aload_n 0, 1) := by decide +kernel
theorem dX2_addDoor_13 : decode cX2_addDoor 13 = .ok (.getfield 15, 3) := by decide +kernel
theorem dX2_addDoor_16 : decode cX2_addDoor 16 = .ok (.aload_n 0, 1) := by decide +kernel
theorem dX2_addDoor_17 : decode cX2_addDoor 17 = .ok (.getfield 40, 3) := by decide +kernel
theorem dX2_addDoor_20 : decode cX2_addDoor 20 = .ok (.iload_n 2, 1) := by decide +kernel
theorem dX2_addDoor_21 : decode cX2_addDoor 21 = .ok (.invokestatic 67, 3) := by decide +kernel
theorem dX2_addDoor_24 : decode cX2_addDoor 24 = .ok (.aload_n 0, 1) := by decide +kernel
theorem dX2_addDoor_25 : decode cX2_addDoor 25 = .ok (.dup, 1) := by decide +kernel
theorem dX2_addDoor_26 : decode cX2_addDoor 26 = .ok (.getfield 40, 3) := by decide +kernel
theorem dX2_addDoor_29 : decode cX2_addDoor 29 = .ok (.iconst 1, 1) := by decide +kernel
theorem dX2_addDoor_30 : decode cX2_addDoor 30 = .ok (.iadd, 1) := by decide +kernel
theorem dX2_addDoor_31 : decode cX2_addDoor 31 = .ok (.putfield 40, 3) := by decide +kernel
theorem dX2_addDoor_34 : decode cX2_addDoor 34 = .ok (.return_, 1) := by decide +kernel
theorem dX2_addMirror_0 : decode cX2_addMirror 0 = .ok (.aload_n 0, 1) := by decide +kernel
theorem dX2_addMirror_1 : decode cX2_addMirror 1 = .ok (.getfield 18, 3) := by decide +kernel
theorem dX2_addMirror_4 : decode cX2_addMirror 4 = .ok (.aload_n 0, 1) := by decide +kernel
theorem dX2_addMirror_5 : decode cX2_addMirror 5 = .ok (.getfield 43, 3) := by decide +kernel
theorem dX2_addMirror_8 : decode cX2_addMirror 8 = .ok (.iload_n 1, 1) := by decide +kernel
theorem dX2_addMirror_9 : decode cX2_addMirror 9 = .ok (.invokestatic 67, 3) := by decide +kernel
theorem dX2_addMirror_12 : decode cX2_addMirror 12 = .ok (.aload_n 0, 1) := by decide +kernel
theorem dX2_addMirror_13 : decode cX2_addMirror 13 = .ok (.getfield 21, 3) := by decide +kernel
theorem dX2_addMirror_16 : decode cX2_addMirror 16 = .ok (.aload_n 0, 1) := by decide +kernel
theorem dX2_addMirror_17 : decode cX2_addMirror 17 = .ok (.getfield 43, 3) := by decide +kernel
theorem dX2_addMirror_20 : decode cX2_addMirror 20 = .ok (.iload_n 2, 1) := by decide +kernel
theorem dX2_addMirror_21 : decode cX2_addMirror 21 = .ok (.invokestatic 67, 3) := by decide +kernel
theorem dX2_addMirror_24 : decode cX2_addMirror 24 = .ok (.aload_n 0, 1) := by decide +kernel
theorem dX2_addMirror_25 : decode cX2_addMirror 25 = .ok (.dup, 1) := by decide +kernel
theorem dX2_addMirror_26 : decode cX2_addMirror 26 = .ok (.getfield 43, 3) := by decide +kernel
theorem dX2_addMirror_29 : decode cX2_addMirror 29 = .ok (.iconst 1, 1) := by decide +kernel
theorem dX2_addMirror_30 : decode cX2_addMirror 30 = .ok (.iadd, 1) := by decide +kernel
theorem dX2_addMirror_31 : decode cX2_addMirror 31 = .ok (.putfield 43, 3) := by decide +kernel
theorem dX2_addMirror_34 : decode cX2_addMirror 34 = .ok (.return_, 1) := by decide +kernel
theorem dX2_addPerson_0 : decode cX2_addPerson 0 = .ok (.aload_n 0, 1) := by decide +kernel
theorem dX2_addPerson_1 : decode cX2_addPerson 1 = .ok (.getfield 30, 3) := by decide +kernel
theorem dX2_addPerson_4 : decode cX2_addPerson 4 = .ok (.aload_n 0, 1) := by decide +kernel
theorem dX2_addPerson_5 : decode cX2_addPerson 5 = .ok (.getfield 46, 3) := by decide +kernel
theorem dX2_addPerson_8 : decode cX2_addPerson 8 = .ok (.iload_n 1, 1) := by decide +kernel
theorem dX2_addPerson_9 : decode cX2_addPerson 9 = .ok (.invokestatic 67, 3) := by decide +kernel
theorem dX2_addPerson_12 : decode cX2_addPerson 12 = .ok (.aload_n 0, 1) := by decide +kernel
theorem dX2_addPerson_13 : decode cX2_addPerson 13 = .ok (.dup, 1) := by decide +kernel
theorem dX2_addPerson_14 : decode cX2_addPerson 14 = .ok (.getfield 46, 3) := by decide +kernel
theorem dX2_addPerson_17 : decode cX2_addPerson 17 = .ok (.iconst 1, 1) := by decide +kernel
theorem dX2_addPerson_18 : decode cX2_addPerson 18 = .ok (.iadd, 1) := by decide +kernel
theorem dX2_addPerson_19 : decode cX2_addPerson 19 = .ok (.putfield 46, 3) := by decide +kernel
theorem dX2_addPerson_22 : decode cX2_addPerson 22 = .ok (.return_, 1) := by decide +kernel
theorem dX3_init_0 : decode cX3_init 0 = .ok (.aload_n 0, 1) := by decide +kernel
theorem dX3_init_1 : decode cX3_init 1 = .ok (.invokespecial 1, 3) := by decide +kernel
theorem dX3_init_4 : decode cX3_init 4 = .ok (.aload_n 0, 1) := by decide +kernel
theorem dX3_init_5 : decode cX3_init 5 = .ok (.new 7, 3) := by decide +kernel
theorem dX3_init_8 : decode cX3_init 8 = .ok (.dup, 1) := by decide +kernel
theorem dX3_init_9 : decode cX3_init 9 = .ok (.invokespecial 9, 3) := by decide +kernel
theorem dX3_init_12 : decode cX3_init 12 = .ok (.putfield 10, 3) := by decide +kernel
theorem dX3_init_15 : decode cX3_init 15 = .ok (.return_, 1) := by decide +kernel
theorem dX4_init_0 : decode cX4_init 0 = .ok (.aload_n 0, 1) := by decide +kernel
theorem dX4_init_1 : decode cX4_init 1 = .ok (.invokespecial 3, 3) := by decide +kernel
theorem dX4_init_4 : decode cX4_init 4 = .ok (.aload_n 0, 1) := by decide +kernel
theorem dX4_init_5 : decode cX4_init 5 = .ok (.bipush 8, 2) := by decide +kernel
theorem dX4_init_7 : decode cX4_init 7 = .ok (.newarray .int, 2) := by decide +kernel
theorem dX4_init_9 : decode cX4_init 9 = .ok (.putfield 9, 3) := by decide +kernel
theorem dX4_init_12 : decode cX4_init 12 = .ok (.aload_n 0, 1) := by decide +kernel
theorem dX4_init_13 : decode cX4_init 13 = .ok (.bipush 8, 2) := by decide +kernel
theorem dX4_init_15 : decode cX4_init 15 = .ok (.newarray .int, 2) := by decide +kernel
theorem dX4_init_17 : decode cX4_init 17 = .ok (.putfield 15, 3) := by decide +kernel
theorem dX4_init_20 : decode cX4_init 20 = .ok (.aload_n 0, 1) := by decide +kernel
theorem dX4_init_21 : decode cX4_init 21 = .ok (.bipush 8, 2) := by decide +kernel
theorem dX4_init_23 : decode cX4_init 23 = .ok (.newarray .int, 2) := by decide +kernel
theorem dX4_init_25 : decode cX4_init 25 = .ok (.putfield 18, 3) := by decide +kernel
theorem dX4_init_28 : decode cX4_init 28 = .ok (.aload_n 0, 1) := by decide +kernel
theorem dX4_init_29 : decode cX4_init 29 = .ok (.bipush 22, 2) := by decide +kernel
theorem dX4_init_31 : decode cX4_init 31 = .ok (.newarray .int, 2) := by decide +kernel
theorem dX4_init_33 : decode cX4_init 33 = .ok (.putfield 21, 3) := by decide +kernel
theorem dX4_init_36 : decode cX4_init 36 = .ok (.return_, 1) := by decide +kernel
theorem dX4_note_0 : decode cX4_note 0 = .ok (.aload_n 0, 1) := by decide +kernel
theorem dX4_note_1 : decode cX4_note 1 = .ok (.getfield 9, 3) := by decide +kernel
theorem dX4_note_4 : decode cX4_note 4 = .ok (.aload_n 0, 1) := by decide +kernel
theorem dX4_note_5 : decode cX4_note 5 = .ok (.getfield 24, 3) := by decide +kernel
theorem dX4_note_8 : decode cX4_note 8 = .ok (.iload_n 1, 1) := by decide +kernel
theorem dX4_note_9 : decode cX4_note 9 = .ok (.invokestatic 28, 3) := by decide +kernel
theorem dX4_note_12 : decode cX4_note 12 = .ok (.aload_n 0, 1) := by decide +kernel
theorem dX4_note_13 : decode cX4_note 13 = .ok (.getfield 15, 3) := by decide +kernel
theorem dX4_note_16 : decode cX4_note 16 = .ok (.aload_n 0, 1) := by decide +kernel
theorem dX4_note_17 : decode cX4_note 17 = .ok (.getfield 24, 3) := by decide +kernel
theorem dX4_note_20 : decode cX4_note 20 = .ok (.iload_n 2, 1) := by decide +kernel
theorem dX4_note_21 : decode cX4_note 21 = .ok (.invokestatic 28, 3) := by decide +kernel
theorem dX4_note_24 : decode cX4_note 24 = .ok (.aload_n 0, 1) := by decide +kernel
theorem dX4_note_25 : decode cX4_note 25 = .ok (.getfield 18, 3) := by decide +kernel
theorem dX4_note_28 : decode cX4_note 28 = .ok (.aload_n 0, 1) := by decide +kernel
theorem dX4_note_29 : decode cX4_note 29 = .ok (.getfield 24, 3) := by decide +kernel
theorem dX4_note_32 : decode cX4_note 32 = .ok (.iload_n 3, 1) := by decide +kernel
theorem dX4_note_33 : decode cX4_note 33 = .ok (.ifCond .eq 7, 3) := by decide +kernel
theorem dX4_note_36 : decode cX4_note 36 = .ok (.iconst 1, 1) := by decide +kernel
theorem dX4_note_37 : decode cX4_note 37 = .ok (.goto 4, 3) := by decide +kernel
theorem dX4_note_40 : decode cX4_note 40 = .ok (.iconst 0, 1) := by decide +kernel
theorem dX4_note_41 : decode cX4_note 41 = .ok (.invokestatic 28, 3) := by decide +kernel
theorem dX4_note_44 : decode cX4_note 44 = .ok (.aload_n 0, 1) := by decide +kernel
theorem dX4_note_45 : decode cX4_note 45 = .ok (.dup, 1) := by decide +kernel
theorem dX4_note_46 : decode cX4_note 46 = .ok (.getfield 24, 3) := by decide +kernel
theorem dX4_note_49 : decode cX4_note 49 = .ok (.iconst 1, 1) := by decide +kernel
theorem dX4_note_50 : decode cX4_note 50 = .ok (.iadd, 1) := by decide +kernel
theorem dX4_note_51 : decode cX4_note 51 = .ok (.putfield 24, 3) := by decide +kernel
theorem dX4_note_54 : decode cX4_note 54 = .ok (.aload_n 0, 1) := by decide +kernel
theorem dX4_note_55 : decode cX4_note 55 = .ok (.getfield 24, 3) := by decide +kernel
theorem dX4_note_58 : decode cX4_note 58 = .ok (.ireturn, 1) := by decide +kernel
theorem dX4_forget_0 : decode cX4_forget 0 = .ok (.aload_n 0, 1) := by decide +kernel
theorem dX4_forget_1 : decode cX4_forget 1 = .ok (.iconst 0, 1) := by decide +kernel
theorem dX4_forget_2 : decode cX4_forget 2 = .ok (.putfield 24, 3) := by decide +kernel
theorem dX4_forget_5 : decode cX4_forget 5 = .ok (.return_, 1) := by decide +kernel
theorem dX4_nameBy_0 : decode cX4_nameBy 0 = .ok (.iload_n 2, 1) := by decide +kernel
theorem dX4_nameBy_1 : decode cX4_nameBy 1 = .ok (.bipush 10, 2) := by decide +kernel
theorem dX4_nameBy_3 : decode cX4_nameBy 3 = .ok (.idiv, 1) := by decide +kernel
theorem dX4_nameBy_4 : decode cX4_nameBy 4 = .ok (.istore 4, 2) := by decide +kernel
theorem dX4_nameBy_6 : decode cX4_nameBy 6 = .ok (.iload_n 2, 1) := by decide +kernel
theorem dX4_nameBy_7 : decode cX4_nameBy 7 = .ok (.bipush 10, 2) := by decide +kernel
theorem dX4_nameBy_9 : decode cX4_nameBy 9 = .ok (.irem, 1) := by decide +kernel
theorem dX4_nameBy_10 : decode cX4_nameBy 10 = .ok (.istore 5, 2) := by decide +kernel
theorem dX4_nameBy_12 : decode cX4_nameBy 12 = .ok (.iload_n 3, 1) := by decide +kernel
theorem dX4_nameBy_13 : decode cX4_nameBy 13 = .ok (.iload 4, 2) := by decide +kernel
theorem dX4_nameBy_15 : decode cX4_nameBy 15 = .ok (.if_icmp .ne 13, 3) := by decide +kernel
theorem dX4_nameBy_18 : decode cX4_nameBy 18 = .ok (.aload_n 1, 1) := by decide +kernel
theorem dX4_nameBy_19 : decode cX4_nameBy 19 = .ok (.getfield 32, 3) := by decide +kernel
theorem dX4_nameBy_22 : decode cX4_nameBy 22 = .ok (.iload 5, 2) := by decide +kernel
theorem dX4_nameBy_24 : decode cX4_nameBy 24 = .ok (.invokestatic 37, 3) := by decide +kernel
theorem dX4_nameBy_27 : decode cX4_nameBy 27 = .ok (.ireturn, 1) := by decide +kernel
theorem dX4_nameBy_28 : decode cX4_nameBy 28 = .ok (.aload_n 1, 1) := by decide +kernel
theorem dX4_nameBy_29 : decode cX4_nameBy 29 = .ok (.getfield 32, 3) := by decide +kernel
theorem dX4_nameBy_32 : decode cX4_nameBy 32 = .ok (.iload_n 3, 1) := by decide +kernel
theorem dX4_nameBy_33 : decode cX4_nameBy 33 = .ok (.iload 5, 2) := by decide +kernel
theorem dX4_nameBy_35 : decode cX4_nameBy 35 = .ok (.if_icmp .ne 8, 3) := by decide +kernel
theorem dX4_nameBy_38 : decode cX4_nameBy 38 = .ok (.iload 4, 2) := by decide +kernel
theorem dX4_nameBy_40 : decode cX4_nameBy 40 = .ok (.goto 4, 3) := by decide +kernel
theorem dX4_nameBy_43 : decode cX4_nameBy 43 = .ok (.iload_n 3, 1) := by decide +kernel
theorem dX4_nameBy_44 : decode cX4_nameBy 44 = .ok (.invokestatic 37, 3) := by decide +kernel
theorem dX4_nameBy_47 : decode cX4_nameBy 47 = .ok (.ireturn, 1) := by decide +kernel
theorem dX4_fits_0 : decode cX4_fits 0 = .ok (.iconst 0, 1) := by decide +kernel
theorem dX4_fits_1 : decode cX4_fits 1 = .ok (.istore_n 3, 1) := by decide +kernel
theorem dX4_fits_2 : decode cX4_fits 2 = .ok (.iload_n 3, 1) := by decide +kernel
theorem dX4_fits_3 : decode cX4_fits 3 = .ok (.aload_n 0, 1) := by decide +kernel
theorem dX4_fits_4 : decode cX4_fits 4 = .ok (.getfield 24, 3) := by decide +kernel
theorem dX4_fits_7 : decode cX4_fits 7 = .ok (.if_icmp .ge 65, 3) := by decide +kernel
theorem dX4_fits_10 : decode cX4_fits 10 = .ok (.aload_n 0, 1) := by decide +kernel
theorem dX4_fits_11 : decode cX4_fits 11 = .ok (.aload_n 1, 1) := by decide +kernel
theorem dX4_fits_12 : decode cX4_fits 12 = .ok (.iload_n 2, 1) := by decide +kernel
theorem dX4_fits_13 : decode cX4_fits 13 = .ok (.aload_n 0, 1) := by decide +kernel
theorem dX4_fits_14 : decode cX4_fits 14 = .ok (.getfield 9, 3) := by decide +kernel
theorem dX4_fits_17 : decode cX4_fits 17 = .ok (.iload_n 3, 1) := by decide +kernel
theorem dX4_fits_18 : decode cX4_fits 18 = .ok (.invokestatic 37, 3) := by decide +kernel
theorem dX4_fits_21 : decode cX4_fits 21 = .ok (.invokevirtual 41, 3) := by decide +kernel
theorem dX4_fits_24 : decode cX4_fits 24 = .ok (.aload_n 0, 1) := by decide +kernel
theorem dX4_fits_25 : decode cX4_fits 25 = .ok (.getfield 15, 3) := by decide +kernel
theorem dX4_fits_28 : decode cX4_fits 28 = .ok (.iload_n 3, 1) := by decide +kernel
theorem dX4_fits_29 : decode cX4_fits 29 = .ok (.invokestatic 37, 3) := by decide +kernel
theorem dX4_fits_32 : decode cX4_fits 32 = .ok (.if_icmp .ne 7, 3) := by decide +kernel
theorem dX4_fits_35 : decode cX4_fits 35 = .ok (.iconst 1, 1) := by decide +kernel
theorem dX4_fits_36 : decode cX4_fits 36 = .ok (.goto 4, 3) := by decide +kernel
theorem dX4_fits_39 : decode cX4_fits 39 = .ok (.iconst 0, 1) := by decide +kernel
theorem dX4_fits_40 : decode cX4_fits 40 = .ok (.istore 4, 2) := by decide +kernel
theorem dX4_fits_42 : decode cX4_fits 42 = .ok (.iload 4, 2) := by decide +kernel
theorem dX4_fits_44 : decode cX4_fits 44 = .ok (.aload_n 0, 1) := by decide +kernel
theorem dX4_fits_45 : decode cX4_fits 45 = .ok (.getfield 18, 3) := by decide +kernel
theorem dX4_fits_48 : decode cX4_fits 48 = .ok (.iload_n 3, 1) := by decide +kernel
theorem dX4_fits_49 : decode cX4_fits 49 = .ok (.invokestatic 37, 3) := by decide +kernel
theorem dX4_fits_52 : decode cX4_fits 52 = .ok (.iconst 1, 1) := by decide +kernel
theorem dX4_fits_53 : decode cX4_fits 53 = .ok (.if_icmp .ne 7, 3) := by decide +kernel
theorem dX4_fits_56 : decode cX4_fits 56 = .ok (.iconst 1, 1) := by decide +kernel
theorem dX4_fits_57 : decode cX4_fits 57 = .ok (.goto 4, 3) := by decide +kernel
theorem dX4_fits_60 : decode cX4_fits 60 = .ok (.iconst 0, 1) := by decide +kernel
theorem dX4_fits_61 : decode cX4_fits 61 = .ok (.if_icmp .eq 5, 3) := by decide +kernel
theorem dX4_fits_64 : decode cX4_fits 64 = .ok (.iconst 0, 1) := by decide +kernel
theorem dX4_fits_65 : decode cX4_fits 65 = .ok (.ireturn, 1) := by decide +kernel
theorem dX4_fits_66 : decode cX4_fits 66 = .ok (.iinc 3 1, 3) := by decide +kernel
theorem dX4_fits_69 : decode cX4_fits 69 = .ok (.goto (-67), 3) := by decide +kernel
theorem dX4_fits_72 : decode cX4_fits 72 = .ok (.iconst 1, 1) := by decide +kernel
theorem dX4_fits_73 : decode cX4_fits 73 = .ok (.ireturn, 1) := by decide +kernel
theorem dX4_findPairs_0 : decode cX4_findPairs 0 = .ok (.iconst 0, 1) := by decide +kernel
theorem dX4_findPairs_1 : decode cX4_findPairs 1 = .ok (.istore_n 2, 1) := by decide +kernel
theorem dX4_findPairs_2 : decode cX4_findPairs 2 = .ok (.iconst 0, 1) := by decide +kernel
theorem dX4_findPairs_3 : decode cX4_findPairs 3 = .ok (.istore_n 3, 1) := by decide +kernel
theorem dX4_findPairs_4 : decode cX4_findPairs 4 = .ok (.iload_n 3, 1) := by decide +kernel
theorem dX4_findPairs_5 : decode cX4_findPairs 5 = .ok (.aload_n 1, 1) := by decide +kernel
theorem dX4_findPairs_6 : decode cX4_findPairs 6 = .ok (.getfield 45, 3) := by decide +kernel
theorem dX4_findPairs_9 : decode cX4_findPairs 9 = .ok (.if_icmp .ge 81, 3) := by decide +kernel
theorem dX4_findPairs_12 : decode cX4_findPairs 12 = .ok (.iload_n 3, 1) := by decide +kernel
theorem dX4_findPairs_13 : decode cX4_findPairs 13 = .ok (.iconst 1, 1) := by decide +kernel
theorem dX4_findPairs_14 : decode cX4_findPairs 14 = .ok (.iadd, 1) := by decide +kernel
theorem dX4_findPairs_15 : decode cX4_findPairs 15 = .ok (.istore 4, 2) := by decide +kernel
theorem dX4_findPairs_17 : decode cX4_findPairs 17 = .ok (.iload 4, 2) := by decide +kernel
theorem dX4_findPairs_19 : decode cX4_findPairs 19 = .ok (.aload_n 1, 1) := by decide +kernel
theorem dX4_findPairs_20 : decode cX4_findPairs 20 = .ok (.getfield 45, 3) := by decide +kernel
theorem dX4_findPairs_23 : decode cX4_findPairs 23 = .ok (.if_icmp .ge 61, 3) := by decide +kernel
theorem dX4_findPairs_26 : decode cX4_findPairs 26 = .ok (.bipush 10, 2) := by decide +kernel
theorem dX4_findPairs_28 : decode cX4_findPairs 28 = .ok (.iload_n 3, 1) := by decide +kernel
theorem dX4_findPairs_29 : decode cX4_findPairs 29 = .ok (.imul, 1) := by decide +kernel
theorem dX4_findPairs_30 : decode cX4_findPairs 30 = .ok (.iload 4, 2) := by decide +kernel
theorem dX4_findPairs_32 : decode cX4_findPairs 32 = .ok (.iadd, 1) := by decide +kernel
theorem dX4_findPairs_33 : decode cX4_findPairs 33 = .ok (.istore 5, 2) := by decide +kernel
theorem dX4_findPairs_35 : decode cX4_findPairs 35 = .ok (.aload_n 1, 1) := by decide +kernel
theorem dX4_findPairs_36 : decode cX4_findPairs 36 = .ok (.getfield 32, 3) := by decide +kernel
theorem dX4_findPairs_39 : decode cX4_findPairs 39 = .ok (.iload_n 3, 1) := by decide +kernel
theorem dX4_findPairs_40 : decode cX4_findPairs 40 = .ok (.invokestatic 37, 3) := by decide +kernel
theorem dX4_findPairs_43 : decode cX4_findPairs 43 = .ok (.aload_n 1, 1) := by decide +kernel
theorem dX4_findPairs_44 : decode cX4_findPairs 44 = .ok (.getfield 32, 3) := by decide +kernel
theorem dX4_findPairs_47 : decode cX4_findPairs 47 = .ok (.iload 4, 2) := by decide +kernel
theorem dX4_findPairs_49 : decode cX4_findPairs 49 = .ok (.invokestatic 37, 3) := by decide +kernel
theorem dX4_findPairs_52 : decode cX4_findPairs 52 = .ok (.if_icmp .eq 26, 3) := by decide +kernel
theorem dX4_findPairs_55 : decode cX4_findPairs 55 = .ok (.aload_n 0, 1) := by decide +kernel
theorem dX4_findPairs_56 : decode cX4_findPairs 56 = .ok (.aload_n 1, 1) := by decide +kernel
theorem dX4_findPairs_57 : decode cX4_findPairs 57 = .ok (.iload 5, 2) := by decide +kernel
theorem dX4_findPairs_59 : decode cX4_findPairs 59 = .ok (.invokevirtual 47, 3) := by decide +kernel
theorem dX4_findPairs_62 : decode cX4_findPairs 62 = .ok (.ifCond .eq 16, 3) := by decide +kernel
theorem dX4_findPairs_65 : decode cX4_findPairs 65 = .ok (.aload_n 0, 1) := by decide +kernel
theorem dX4_findPairs_66 : decode cX4_findPairs 66 = .ok (.getfield 21, 3) := by decide +kernel
theorem dX4_findPairs_69 : decode cX4_findPairs 69 = .ok (.iload_n 2, 1) := by decide +kernel
theorem dX4_findPairs_70 : decode cX4_findPairs 70 = .ok (.iload 5, 2) := by decide +kernel
theorem dX4_findPairs_72 : decode cX4_findPairs 72 = .ok (.invokestatic 28, 3) := by decide +kernel
theorem dX4_findPairs_75 : decode cX4_findPairs 75 = .ok (.iinc 2 1, 3) := by decide +kernel
theorem dX4_findPairs_78 : decode cX4_findPairs 78 = .ok (.iinc 4 1, 3) := by decide +kernel
theorem dX4_findPairs_81 : decode cX4_findPairs 81 = .ok (.goto (-64), 3) := by decide +kernel
theorem dX4_findPairs_84 : decode cX4_findPairs 84 = .ok (.iinc 3 1, 3) := by decide +kernel
theorem dX4_findPairs_87 : decode cX4_findPairs 87 = .ok (.goto (-83), 3) := by decide +kernel
theorem dX4_findPairs_90 : decode cX4_findPairs 90 = .ok (.iload_n 2, 1) := by decide +kernel
theorem dX4_findPairs_91 : decode cX4_findPairs 91 = .ok (.ireturn, 1) := by decide +kernel
theorem dX4_bestQuestion_0 : decode cX4_bestQuestion 0 = .ok (.aload_n 0, 1) := by decide +kernel
theorem dX4_bestQuestion_1 : decode cX4_bestQuestion 1 = .ok (.aload_n 1, 1) := by decide +kernel
theorem dX4_bestQuestion_2 : decode cX4_bestQuestion 2 = .ok (.invokevirtual 51, 3) := by decide +kernel
theorem dX4_bestQuestion_5 : decode cX4_bestQuestion 5 = .ok (.istore_n 2, 1) := by decide +kernel
theorem dX4_bestQuestion_6 : decode cX4_bestQuestion 6 = .ok (.aload_n 0, 1) := by decide +kernel
theorem dX4_bestQuestion_7 : decode cX4_bestQuestion 7 = .ok (.aload_n 1, 1) := by decide +kernel
theorem dX4_bestQuestion_8 : decode cX4_bestQuestion 8 = .ok (.iconst 0, 1) := by decide +kernel
theorem dX4_bestQuestion_9 : decode cX4_bestQuestion 9 = .ok (.invokevirtual 47, 3) := by decide +kernel
theorem dX4_bestQuestion_12 : decode cX4_bestQuestion 12 = .ok (.ifCond .eq 15, 3) := by decide +kernel
theorem dX4_bestQuestion_15 : decode cX4_bestQuestion 15 = .ok (.aload_n 0, 1) := by decide +kernel
theorem dX4_bestQuestion_16 : decode cX4_bestQuestion 16 = .ok (.getfield 21, 3) := by decide +kernel
theorem dX4_bestQuestion_19 : decode cX4_bestQuestion 19 = .ok (.iload_n 2, 1) := by decide +kernel
theorem dX4_bestQuestion_20 : decode cX4_bestQuestion 20 = .ok (.iconst 0, 1) := by decide +kernel
theorem dX4_bestQuestion_21 : decode cX4_bestQuestion 21 = .ok (.invokestatic 28, 3) := by decide +kernel
theorem dX4_bestQuestion_24 : decode cX4_bestQuestion 24 = .ok (.iinc 2 1, 3) := by decide +kernel
theorem dX4_bestQuestion_27 : decode cX4_bestQuestion 27 = .ok (.iconst (-1), 1) := by decide +kernel
theorem dX4_bestQuestion_28 : decode cX4_bestQuestion 28 = .ok (.istore_n 3, 1) := by decide +kernel
theorem dX4_bestQuestion_29 : decode cX4_bestQuestion 29 = .ok (.iload_n 2, 1) := by decide +kernel
theorem dX4_bestQuestion_30 : decode cX4_bestQuestion 30 = .ok (.istore 4, 2) := by decide +kernel
theorem dX4_bestQuestion_32 : decode cX4_bestQuestion 32 = .ok (.iconst 0, 1) := by decide +kernel
theorem dX4_bestQuestion_33 : decode cX4_bestQuestion 33 = .ok (.istore 5, 2) := by decide +kernel
theorem dX4_bestQuestion_35 : decode cX4_bestQuestion 35 = .ok (.iload 5, 2) := by decide +kernel
theorem dX4_bestQuestion_37 : decode cX4_bestQuestion 37 = .ok (.aload_n 1, 1) := by decide +kernel
theorem dX4_bestQuestion_38 : decode cX4_bestQuestion 38 = .ok (.getfield 45, 3) := by decide +kernel
theorem dX4_bestQuestion_41 : decode cX4_bestQuestion 41 = .ok (.if_icmp .ge 57, 3) := by decide +kernel
theorem dX4_bestQuestion_44 : decode cX4_bestQuestion 44 = .ok (.iconst 0, 1) := by decide +kernel
theorem dX4_bestQuestion_45 : decode cX4_bestQuestion 45 = .ok (.istore 6, 2) := by decide +kernel
theorem dX4_bestQuestion_47 : decode cX4_bestQuestion 47 = .ok (.iload 6, 2) := by decide +kernel
theorem dX4_bestQuestion_49 : decode cX4_bestQuestion 49 = .ok (.bipush 10, 2) := by decide +kernel
theorem dX4_bestQuestion_51 : decode cX4_bestQuestion 51 = .ok (.if_icmp .ge 41, 3) := by decide +kernel
theorem dX4_bestQuestion_54 : decode cX4_bestQuestion 54 = .ok (.aload_n 0, 1) := by decide +kernel
theorem dX4_bestQuestion_55 : decode cX4_bestQuestion 55 = .ok (.aload_n 1, 1) := by decide +kernel
theorem dX4_bestQuestion_56 : decode cX4_bestQuestion 56 = .ok (.iload_n 2, 1) := by decide +kernel
theorem dX4_bestQuestion_57 : decode cX4_bestQuestion 57 = .ok (.iload 5, 2) := by decide +kernel
theorem dX4_bestQuestion_59 : decode cX4_bestQuestion 59 = .ok (.iload 6, 2) := by decide +kernel
theorem dX4_bestQuestion_61 : decode cX4_bestQuestion 61 = .ok (.invokevirtual 55, 3) := by decide +kernel
theorem dX4_bestQuestion_64 : decode cX4_bestQuestion 64 = .ok (.istore 7, 2) := by decide +kernel
theorem dX4_bestQuestion_66 : decode cX4_bestQuestion 66 = .ok (.iload 7, 2) := by decide +kernel
theorem dX4_bestQuestion_68 : decode cX4_bestQuestion 68 = .ok (.iload 4, 2) := by decide +kernel
theorem dX4_bestQuestion_70 : decode cX4_bestQuestion 70 = .ok (.if_icmp .ge 16, 3) := by decide +kernel
theorem dX4_bestQuestion_73 : decode cX4_bestQuestion 73 = .ok (.iload 7, 2) := by decide +kernel
theorem dX4_bestQuestion_75 : decode cX4_bestQuestion 75 = .ok (.istore 4, 2) := by decide +kernel
theorem dX4_bestQuestion_77 : decode cX4_bestQuestion 77 = .ok (.bipush 10, 2) := by decide +kernel
theorem dX4_bestQuestion_79 : decode cX4_bestQuestion 79 = .ok (.iload 5, 2) := by decide +kernel
theorem dX4_bestQuestion_81 : decode cX4_bestQuestion 81 = .ok (.imul, 1) := by decide +kernel
theorem dX4_bestQuestion_82 : decode cX4_bestQuestion 82 = .ok (.iload 6, 2) := by decide +kernel
theorem dX4_bestQuestion_84 : decode cX4_bestQuestion 84 = .ok (.iadd, 1) := by decide +kernel
theorem dX4_bestQuestion_85 : decode cX4_bestQuestion 85 = .ok (.istore_n 3, 1) := by decide +kernel
theorem dX4_bestQuestion_86 : decode cX4_bestQuestion 86 = .ok (.iinc 6 1, 3) := by decide +kernel
theorem dX4_bestQuestion_89 : decode cX4_bestQuestion 89 = .ok (.goto (-42), 3) := by decide +kernel
theorem dX4_bestQuestion_92 : decode cX4_bestQuestion 92 = .ok (.iinc 5 1, 3) := by decide +kernel
theorem dX4_bestQuestion_95 : decode cX4_bestQuestion 95 = .ok (.goto (-60), 3) := by decide +kernel
theorem dX4_bestQuestion_98 : decode cX4_bestQuestion 98 = .ok (.iload_n 3, 1) := by decide +kernel
theorem dX4_bestQuestion_99 : decode cX4_bestQuestion 99 = .ok (.ireturn, 1) := by decide +kernel
theorem dX4_greatestPart_0 : decode cX4_greatestPart 0 = .ok (.iconst 0, 1) := by decide +kernel
theorem dX4_greatestPart_1 : decode cX4_greatestPart 1 = .ok (.istore 5, 2) := by decide +kernel
theorem dX4_greatestPart_3 : decode cX4_greatestPart 3 = .ok (.iconst 0, 1) := by decide +kernel
theorem dX4_greatestPart_4 : decode cX4_greatestPart 4 = .ok (.istore 6, 2) := by decide +kernel
theorem dX4_greatestPart_6 : decode cX4_greatestPart 6 = .ok (.iload 6, 2) := by decide +kernel
theorem dX4_greatestPart_8 : decode cX4_greatestPart 8 = .ok (.iload_n 2, 1) := by decide +kernel
theorem dX4_greatestPart_9 : decode cX4_greatestPart 9 = .ok (.if_icmp .ge 32, 3) := by decide +kernel
theorem dX4_greatestPart_12 : decode cX4_greatestPart 12 = .ok (.aload_n 0, 1) := by decide +kernel
theorem dX4_greatestPart_13 : decode cX4_greatestPart 13 = .ok (.aload_n 1, 1) := by decide +kernel
theorem dX4_greatestPart_14 : decode cX4_greatestPart 14 = .ok (.aload_n 0, 1) := by decide +kernel
theorem dX4_greatestPart_15 : decode cX4_greatestPart 15 = .ok (.getfield 21, 3) := by decide +kernel
theorem dX4_greatestPart_18 : decode cX4_greatestPart 18 = .ok (.iload 6, 2) := by decide +kernel
theorem dX4_greatestPart_20 : decode cX4_greatestPart 20 = .ok (.invokestatic 37, 3) := by decide +kernel
theorem dX4_greatestPart_23 : decode cX4_greatestPart 23 = .ok (.iload_n 3, 1) := by decide +kernel
theorem dX4_greatestPart_24 : decode cX4_greatestPart 24 = .ok (.invokevirtual 41, 3) := by decide +kernel
theorem dX4_greatestPart_27 : decode cX4_greatestPart 27 = .ok (.iload 4, 2) := by decide +kernel
theorem dX4_greatestPart_29 : decode cX4_greatestPart 29 = .ok (.if_icmp .ne 6, 3) := by decide +kernel
theorem dX4_greatestPart_32 : decode cX4_greatestPart 32 = .ok (.iinc 5 1, 3) := by decide +kernel
theorem dX4_greatestPart_35 : decode cX4_greatestPart 35 = .ok (.iinc 6 1, 3) := by decide +kernel
theorem dX4_greatestPart_38 : decode cX4_greatestPart 38 = .ok (.goto (-32), 3) := by decide +kernel
theorem dX4_greatestPart_41 : decode cX4_greatestPart 41 = .ok (.iload 5, 2) := by decide +kernel
theorem dX4_greatestPart_43 : decode cX4_greatestPart 43 = .ok (.iload_n 2, 1) := by decide +kernel
theorem dX4_greatestPart_44 : decode cX4_greatestPart 44 = .ok (.iload 5, 2) := by decide +kernel
theorem dX4_greatestPart_46 : decode cX4_greatestPart 46 = .ok (.isub, 1) := by decide +kernel
theorem dX4_greatestPart_47 : decode cX4_greatestPart 47 = .ok (.invokestatic 59, 3) := by decide +kernel
theorem dX4_greatestPart_50 : decode cX4_greatestPart 50 = .ok (.ireturn, 1) := by decide +kernel
theorem dX4_namesThatFit_0 : decode cX4_namesThatFit 0 = .ok (.sipush 1023, 3) := by decide +kernel
theorem dX4_namesThatFit_3 : decode cX4_namesThatFit 3 = .ok (.istore_n 2, 1) := by decide +kernel
theorem dX4_namesThatFit_4 : decode cX4_namesThatFit 4 = .ok (.iconst 0, 1) := by decide +kernel
theorem dX4_namesThatFit_5 : decode cX4_namesThatFit 5 = .ok (.istore_n 3, 1) := by decide +kernel
theorem dX4_namesThatFit_6 : decode cX4_namesThatFit 6 = .ok (.iload_n 3, 1) := by decide +kernel
theorem dX4_namesThatFit_7 : decode cX4_namesThatFit 7 = .ok (.aload_n 0, 1) := by decide +kernel
theorem dX4_namesThatFit_8 : decode cX4_namesThatFit 8 = .ok (.getfield 24, 3) := by decide +kernel
theorem dX4_namesThatFit_11 : decode cX4_namesThatFit 11 = .ok (.if_icmp .ge 60, 3) := by decide +kernel
theorem dX4_namesThatFit_14 : decode cX4_namesThatFit 14 = .ok (.aload_n 0, 1) := by decide +kernel
theorem dX4_namesThatFit_15 : decode cX4_namesThatFit 15 = .ok (.getfield 9, 3) := by decide +kernel
theorem dX4_namesThatFit_18 : decode cX4_namesThatFit 18 = .ok (.iload_n 3, 1) := by decide +kernel
theorem dX4_namesThatFit_19 : decode cX4_namesThatFit 19 = .ok (.invokestatic 37, 3) := by decide +kernel
theorem dX4_namesThatFit_22 : decode cX4_namesThatFit 22 = .ok (.iload_n 1, 1) := by decide +kernel
theorem dX4_namesThatFit_23 : decode cX4_namesThatFit 23 = .ok (.if_icmp .ne 42, 3) := by decide +kernel
theorem dX4_namesThatFit_26 : decode cX4_namesThatFit 26 = .ok (.iconst 0, 1) := by decide +kernel
theorem dX4_namesThatFit_27 : decode cX4_namesThatFit 27 = .ok (.aload_n 0, 1) := by decide +kernel
theorem dX4_namesThatFit_28 : decode cX4_namesThatFit 28 = .ok (.getfield 15, 3) := by decide +kernel
theorem dX4_namesThatFit_31 : decode cX4_namesThatFit 31 = .ok (.iload_n 3, 1) := by decide +kernel
theorem dX4_namesThatFit_32 : decode cX4_namesThatFit 32 = .ok (.invokestatic 37, 3) := by decide +kernel
theorem dX4_namesThatFit_35 : decode cX4_namesThatFit 35 = .ok (.iconst 1, 1) := by decide +kernel
theorem dX4_namesThatFit_36 : decode cX4_namesThatFit 36 = .ok (.invokestatic 65, 3) := by decide +kernel
theorem dX4_namesThatFit_39 : decode cX4_namesThatFit 39 = .ok (.istore 4, 2) := by decide +kernel
theorem dX4_namesThatFit_41 : decode cX4_namesThatFit 41 = .ok (.iload_n 2, 1) := by decide +kernel
theorem dX4_namesThatFit_42 : decode cX4_namesThatFit 42 = .ok (.aload_n 0, 1) := by decide +kernel
theorem dX4_namesThatFit_43 : decode cX4_namesThatFit 43 = .ok (.getfield 18, 3) := by decide +kernel
theorem dX4_namesThatFit_46 : decode cX4_namesThatFit 46 = .ok (.iload_n 3, 1) := by decide +kernel
theorem dX4_namesThatFit_47 : decode cX4_namesThatFit 47 = .ok (.invokestatic 37, 3) := by decide +kernel
theorem dX4_namesThatFit_50 : decode cX4_namesThatFit 50 = .ok (.iconst 1, 1) := by decide +kernel
theorem dX4_namesThatFit_51 : decode cX4_namesThatFit 51 = .ok (.if_icmp .ne 8, 3) := by decide +kernel
theorem dX4_namesThatFit_54 : decode cX4_namesThatFit 54 = .ok (.iload 4, 2) := by decide +kernel
theorem dX4_namesThatFit_56 : decode cX4_namesThatFit 56 = .ok (.goto 7, 3) := by decide +kernel
theorem dX4_namesThatFit_59 : decode cX4_namesThatFit 59 = .ok (.iload 4, 2) := by decide +kernel
theorem dX4_namesThatFit_61 : decode cX4_namesThatFit 61 = .ok (.iconst (-1), 1) := by decide +kernel
theorem dX4_namesThatFit_62 : decode cX4_namesThatFit 62 = .ok (.ixor, 1) := by decide +kernel
theorem dX4_namesThatFit_63 : decode cX4_namesThatFit 63 = .ok (.iand, 1) := by decide +kernel
theorem dX4_namesThatFit_64 : decode cX4_namesThatFit 64 = .ok (.istore_n 2, 1) := by decide +kernel
theorem dX4_namesThatFit_65 : decode cX4_namesThatFit 65 = .ok (.iinc 3 1, 3) := by decide +kernel
theorem dX4_namesThatFit_68 : decode cX4_namesThatFit 68 = .ok (.goto (-62), 3) := by decide +kernel
theorem dX4_namesThatFit_71 : decode cX4_namesThatFit 71 = .ok (.iload_n 2, 1) := by decide +kernel
theorem dX4_namesThatFit_72 : decode cX4_namesThatFit 72 = .ok (.ireturn, 1) := by decide +kernel
theorem dX5_init_0 : decode cX5_init 0 = .ok (.aload_n 0, 1) := by decide +kernel
theorem dX5_init_1 : decode cX5_init 1 = .ok (.invokespecial 3, 3) := by decide +kernel
theorem dX5_init_4 : decode cX5_init 4 = .ok (.aload_n 0, 1) := by decide +kernel
theorem dX5_init_5 : decode cX5_init 5 = .ok (.bipush 20, 2) := by decide +kernel
theorem dX5_init_7 : decode cX5_init 7 = .ok (.anewarray 9, 3) := by decide +kernel
theorem dX5_init_10 : decode cX5_init 10 = .ok (.putfield 11, 3) := by decide +kernel
theorem dX5_init_13 : decode cX5_init 13 = .ok (.iconst 0, 1) := by decide +kernel
theorem dX5_init_14 : decode cX5_init 14 = .ok (.istore_n 1, 1) := by decide +kernel
theorem dX5_init_15 : decode cX5_init 15 = .ok (.iload_n 1, 1) := by decide +kernel
theorem dX5_init_16 : decode cX5_init 16 = .ok (.aload_n 0, 1) := by decide +kernel
theorem dX5_init_17 : decode cX5_init 17 = .ok (.getfield 11, 3) := by decide +kernel
theorem dX5_init_20 : decode cX5_init 20 = .ok (.arraylength, 1) := by decide +kernel
theorem dX5_init_21 : decode cX5_init 21 = .ok (.if_icmp .ge 22, 3) := by decide +kernel
theorem dX5_init_24 : decode cX5_init 24 = .ok (.aload_n 0, 1) := by decide +kernel
theorem dX5_init_25 : decode cX5_init 25 = .ok (.getfield 11, 3) := by decide +kernel
theorem dX5_init_28 : decode cX5_init 28 = .ok (.iload_n 1, 1) := by decide +kernel
theorem dX5_init_29 : decode cX5_init 29 = .ok (.new 9, 3) := by decide +kernel
theorem dX5_init_32 : decode cX5_init 32 = .ok (.dup, 1) := by decide +kernel
theorem dX5_init_33 : decode cX5_init 33 = .ok (.invokespecial 17, 3) := by decide +kernel
theorem dX5_init_36 : decode cX5_init 36 = .ok (.aastore, 1) := by decide +kernel
theorem dX5_init_37 : decode cX5_init 37 = .ok (.iinc 1 1, 3) := by decide +kernel
theorem dX5_init_40 : decode cX5_init 40 = .ok (.goto (-25), 3) := by decide +kernel
theorem dX5_init_43 : decode cX5_init 43 = .ok (.return_, 1) := by decide +kernel
theorem dX5_stateAt_0 : decode cX5_stateAt 0 = .ok (.iload_n 1, 1) := by decide +kernel
theorem dX5_stateAt_1 : decode cX5_stateAt 1 = .ok (.ifCond .lt 21, 3) := by decide +kernel
theorem dX5_stateAt_4 : decode cX5_stateAt 4 = .ok (.iload_n 1, 1) := by decide +kernel
theorem dX5_stateAt_5 : decode cX5_stateAt 5 = .ok (.aload_n 0, 1) := by decide +kernel
theorem dX5_stateAt_6 : decode cX5_stateAt 6 = .ok (.getfield 11, 3) := by decide +kernel
theorem dX5_stateAt_9 : decode cX5_stateAt 9 = .ok (.arraylength, 1) := by decide +kernel
theorem dX5_stateAt_10 : decode cX5_stateAt 10 = .ok (.if_icmp .ge 12, 3) := by decide +kernel
theorem dX5_stateAt_13 : decode cX5_stateAt 13 = .ok (.aload_n 0, 1) := by decide +kernel
theorem dX5_stateAt_14 : decode cX5_stateAt 14 = .ok (.getfield 11, 3) := by decide +kernel
theorem dX5_stateAt_17 : decode cX5_stateAt 17 = .ok (.iload_n 1, 1) := by decide +kernel
theorem dX5_stateAt_18 : decode cX5_stateAt 18 = .ok (.aaload, 1) := by decide +kernel
theorem dX5_stateAt_19 : decode cX5_stateAt 19 = .ok (.goto 4, 3) := by decide +kernel
theorem dX5_stateAt_22 : decode cX5_stateAt 22 = .ok (.aconst_null, 1) := by decide +kernel
theorem dX5_stateAt_23 : decode cX5_stateAt 23 = .ok (.areturn, 1) := by decide +kernel
theorem dX5_push_0 : decode cX5_push 0 = .ok (.aload_n 0, 1) := by decide +kernel
theorem dX5_push_1 : decode cX5_push 1 = .ok (.aload_n 0, 1) := by decide +kernel
theorem dX5_push_2 : decode cX5_push 2 = .ok (.getfield 18, 3) := by decide +kernel
theorem dX5_push_5 : decode cX5_push 5 = .ok (.invokevirtual 22, 3) := by decide +kernel
theorem dX5_push_8 : decode cX5_push 8 = .ok (.astore_n 2, 1) := by decide +kernel
theorem dX5_push_9 : decode cX5_push 9 = .ok (.aload_n 2, 1) := by decide +kernel
theorem dX5_push_10 : decode cX5_push 10 = .ok (.ifnonnull 4, 3) := by decide +kernel
theorem dX5_push_13 : decode cX5_push 13 = .ok (.return_, 1) := by decide +kernel
theorem dX5_push_14 : decode cX5_push 14 = .ok (.aload_n 2, 1) := by decide +kernel
theorem dX5_push_15 : decode cX5_push 15 = .ok (.aload_n 1, 1) := by decide +kernel
theorem dX5_push_16 : decode cX5_push 16 = .ok (.invokevirtual 26, 3) := by decide +kernel
theorem dX5_push_19 : decode cX5_push 19 = .ok (.aload_n 0, 1) := by decide +kernel
theorem dX5_push_20 : decode cX5_push 20 = .ok (.aload_n 0, 1) := by decide +kernel
theorem dX5_push_21 : decode cX5_push 21 = .ok (.getfield 18, 3) := by decide +kernel
theorem dX5_push_24 : decode cX5_push 24 = .ok (.iconst 1, 1) := by decide +kernel
theorem dX5_push_25 : decode cX5_push 25 = .ok (.iadd, 1) := by decide +kernel
theorem dX5_push_26 : decode cX5_push 26 = .ok (.aload_n 0, 1) := by decide +kernel
theorem dX5_push_27 : decode cX5_push 27 = .ok (.getfield 11, 3) := by decide +kernel
theorem dX5_push_30 : decode cX5_push 30 = .ok (.arraylength, 1) := by decide +kernel
theorem dX5_push_31 : decode cX5_push 31 = .ok (.if_icmp .ge 12, 3) := by decide +kernel
theorem dX5_push_34 : decode cX5_push 34 = .ok (.aload_n 0, 1) := by decide +kernel
theorem dX5_push_35 : decode cX5_push 35 = .ok (.getfield 18, 3) := by decide +kernel
theorem dX5_push_38 : decode cX5_push 38 = .ok (.iconst 1, 1) := by decide +kernel
theorem dX5_push_39 : decode cX5_push 39 = .ok (.iadd, 1) := by decide +kernel
theorem dX5_push_40 : decode cX5_push 40 = .ok (.goto 4, 3) := by decide +kernel
theorem dX5_push_43 : decode cX5_push 43 = .ok (.iconst 0, 1) := by decide +kernel
theorem dX5_push_44 : decode cX5_push 44 = .ok (.putfield 18, 3) := by decide +kernel
theorem dX5_push_47 : decode cX5_push 47 = .ok (.aload_n 0, 1) := by decide +kernel
theorem dX5_push_48 : decode cX5_push 48 = .ok (.aload_n 0, 1) := by decide +kernel
theorem dX5_push_49 : decode cX5_push 49 = .ok (.getfield 30, 3) := by decide +kernel
theorem dX5_push_52 : decode cX5_push 52 = .ok (.iconst 1, 1) := by decide +kernel
theorem dX5_push_53 : decode cX5_push 53 = .ok (.iadd, 1) := by decide +kernel
theorem dX5_push_54 : decode cX5_push 54 = .ok (.aload_n 0, 1) := by decide +kernel
theorem dX5_push_55 : decode cX5_push 55 = .ok (.getfield 11, 3) := by decide +kernel
theorem dX5_push_58 : decode cX5_push 58 = .ok (.arraylength, 1) := by decide +kernel
theorem dX5_push_59 : decode cX5_push 59 = .ok (.invokestatic 33, 3) := by decide +kernel
theorem dX5_push_62 : decode cX5_push 62 = .ok (.putfield 30, 3) := by decide +kernel
theorem dX5_push_65 : decode cX5_push 65 = .ok (.return_, 1) := by decide +kernel
theorem dX5_pop_0 : decode cX5_pop 0 = .ok (.aload_n 0, 1) := by decide +kernel
theorem dX5_pop_1 : decode cX5_pop 1 = .ok (.getfield 18, 3) := by decide +kernel
theorem dX5_pop_4 : decode cX5_pop 4 = .ok (.ifCond .le 12, 3) := by decide +kernel
theorem dX5_pop_7 : decode cX5_pop 7 = .ok (.aload_n 0, 1) := by decide +kernel
theorem dX5_pop_8 : decode cX5_pop 8 = .ok (.getfield 18, 3) := by decide +kernel
theorem dX5_pop_11 : decode cX5_pop 11 = .ok (.iconst 1, 1) := by decide +kernel
theorem dX5_pop_12 : decode cX5_pop 12 = .ok (.isub, 1) := by decide +kernel
theorem dX5_pop_13 : decode cX5_pop 13 = .ok (.goto 10, 3) := by decide +kernel
theorem dX5_pop_16 : decode cX5_pop 16 = .ok (.aload_n 0, 1) := by decide +kernel
theorem dX5_pop_17 : decode cX5_pop 17 = .ok (.getfield 11, 3) := by decide +kernel
theorem dX5_pop_20 : decode cX5_pop 20 = .ok (.arraylength, 1) := by decide +kernel
theorem dX5_pop_21 : decode cX5_pop 21 = .ok (.iconst 1, 1) := by decide +kernel
theorem dX5_pop_22 : decode cX5_pop 22 = .ok (.isub, 1) := by decide +kernel
theorem dX5_pop_23 : decode cX5_pop 23 = .ok (.istore_n 2, 1) := by decide +kernel
theorem dX5_pop_24 : decode cX5_pop 24 = .ok (.aload_n 0, 1) := by decide +kernel
theorem dX5_pop_25 : decode cX5_pop 25 = .ok (.iload_n 2, 1) := by decide +kernel
theorem dX5_pop_26 : decode cX5_pop 26 = .ok (.invokevirtual 22, 3) := by decide +kernel
theorem dX5_pop_29 : decode cX5_pop 29 = .ok (.astore_n 3, 1) := by decide +kernel
theorem dX5_pop_30 : decode cX5_pop 30 = .ok (.aload_n 3, 1) := by decide +kernel
theorem dX5_pop_31 : decode cX5_pop 31 = .ok (.ifnull 10, 3) := by decide +kernel
theorem dX5_pop_34 : decode cX5_pop 34 = .ok (.aload_n 0, 1) := by decide +kernel
theorem dX5_pop_35 : decode cX5_pop 35 = .ok (.getfield 30, 3) := by decide +kernel
theorem dX5_pop_38 : decode cX5_pop 38 = .ok (.ifCond .ne 6, 3) := by decide +kernel
theorem dX5_pop_41 : decode cX5_pop 41 = .ok (.ldc 39, 2) := by decide +kernel
theorem dX5_pop_43 : decode cX5_pop 43 = .ok (.ireturn, 1) := by decide +kernel
theorem dX5_pop_44 : decode cX5_pop 44 = .ok (.aload_n 1, 1) := by decide +kernel
theorem dX5_pop_45 : decode cX5_pop 45 = .ok (.aload_n 3, 1) := by decide +kernel
theorem dX5_pop_46 : decode cX5_pop 46 = .ok (.invokevirtual 26, 3) := by decide +kernel
theorem dX5_pop_49 : decode cX5_pop 49 = .ok (.aload_n 0, 1) := by decide +kernel
theorem dX5_pop_50 : decode cX5_pop 50 = .ok (.iload_n 2, 1) := by decide +kernel
theorem dX5_pop_51 : decode cX5_pop 51 = .ok (.putfield 18, 3) := by decide +kernel
theorem dX5_pop_54 : decode cX5_pop 54 = .ok (.aload_n 0, 1) := by decide +kernel
theorem dX5_pop_55 : decode cX5_pop 55 = .ok (.dup, 1) := by decide +kernel
theorem dX5_pop_56 : decode cX5_pop 56 = .ok (.getfield 30, 3) := by decide +kernel
theorem dX5_pop_59 : decode cX5_pop 59 = .ok (.iconst 1, 1) := by decide +kernel
theorem dX5_pop_60 : decode cX5_pop 60 = .ok (.isub, 1) := by decide +kernel
theorem dX5_pop_61 : decode cX5_pop 61 = .ok (.putfield 30, 3) := by decide +kernel
theorem dX5_pop_64 : decode cX5_pop 64 = .ok (.aload_n 0, 1) := by decide +kernel
theorem dX5_pop_65 : decode cX5_pop 65 = .ok (.getfield 30, 3) := by decide +kernel
theorem dX5_pop_68 : decode cX5_pop 68 = .ok (.ireturn, 1) := by decide +kernel
theorem dX5_forget_0 : decode cX5_forget 0 = .ok (.aload_n 0, 1) := by decide +kernel
theorem dX5_forget_1 : decode cX5_forget 1 = .ok (.iconst 0, 1) := by decide +kernel
theorem dX5_forget_2 : decode cX5_forget 2 = .ok (.putfield 30, 3) := by decide +kernel
theorem dX5_forget_5 : decode cX5_forget 5 = .ok (.return_, 1) := by decide +kernel
theorem dX6_init_0 : decode cX6_init 0 = .ok (.aload_n 0, 1) := by decide +kernel
theorem dX6_init_1 : decode cX6_init 1 = .ok (.invokespecial 3, 3) := by decide +kernel
theorem dX6_init_4 : decode cX6_init 4 = .ok (.aload_n 0, 1) := by decide +kernel
theorem dX6_init_5 : decode cX6_init 5 = .ok (.sipush 240, 3) := by decide +kernel
theorem dX6_init_8 : decode cX6_init 8 = .ok (.newarray .int, 2) := by decide +kernel
theorem dX6_init_10 : decode cX6_init 10 = .ok (.putfield 9, 3) := by decide +kernel
theorem dX6_init_13 : decode cX6_init 13 = .ok (.aload_n 0, 1) := by decide +kernel
theorem dX6_init_14 : decode cX6_init 14 = .ok (.iconst (-1), 1) := by decide +kernel
theorem dX6_init_15 : decode cX6_init 15 = .ok (.putfield 15, 3) := by decide +kernel
theorem dX6_init_18 : decode cX6_init 18 = .ok (.return_, 1) := by decide +kernel
theorem dX6_append_0 : decode cX6_append 0 = .ok (.aload_n 0, 1) := by decide +kernel
theorem dX6_append_1 : decode cX6_append 1 = .ok (.getfield 9, 3) := by decide +kernel
theorem dX6_append_4 : decode cX6_append 4 = .ok (.aload_n 0, 1) := by decide +kernel
theorem dX6_append_5 : decode cX6_append 5 = .ok (.getfield 19, 3) := by decide +kernel
theorem dX6_append_8 : decode cX6_append 8 = .ok (.iload_n 1, 1) := by decide +kernel
theorem dX6_append_9 : decode cX6_append 9 = .ok (.invokestatic 22, 3) := by decide +kernel
theorem dX6_append_12 : decode cX6_append 12 = .ok (.aload_n 0, 1) := by decide +kernel
theorem dX6_append_13 : decode cX6_append 13 = .ok (.dup, 1) := by decide +kernel
theorem dX6_append_14 : decode cX6_append 14 = .ok (.getfield 19, 3) := by decide +kernel
theorem dX6_append_17 : decode cX6_append 17 = .ok (.iconst 1, 1) := by decide +kernel
theorem dX6_append_18 : decode cX6_append 18 = .ok (.iadd, 1) := by decide +kernel
theorem dX6_append_19 : decode cX6_append 19 = .ok (.putfield 19, 3) := by decide +kernel
theorem dX6_append_22 : decode cX6_append 22 = .ok (.aload_n 0, 1) := by decide +kernel
theorem dX6_append_23 : decode cX6_append 23 = .ok (.getfield 19, 3) := by decide +kernel
theorem dX6_append_26 : decode cX6_append 26 = .ok (.ireturn, 1) := by decide +kernel
theorem dX6_readInto_0 : decode cX6_readInto 0 = .ok (.aload_n 1, 1) := by decide +kernel
theorem dX6_readInto_1 : decode cX6_readInto 1 = .ok (.invokevirtual 26, 3) := by decide +kernel
theorem dX6_readInto_4 : decode cX6_readInto 4 = .ok (.aload_n 0, 1) := by decide +kernel
theorem dX6_readInto_5 : decode cX6_readInto 5 = .ok (.iconst 0, 1) := by decide +kernel
theorem dX6_readInto_6 : decode cX6_readInto 6 = .ok (.putfield 31, 3) := by decide +kernel
theorem dX6_readInto_9 : decode cX6_readInto 9 = .ok (.aload_n 0, 1) := by decide +kernel
theorem dX6_readInto_10 : decode cX6_readInto 10 = .ok (.iconst 0, 1) := by decide +kernel
theorem dX6_readInto_11 : decode cX6_readInto 11 = .ok (.putfield 34, 3) := by decide +kernel
theorem dX6_readInto_14 : decode cX6_readInto 14 = .ok (.aload_n 0, 1) := by decide +kernel
theorem dX6_readInto_15 : decode cX6_readInto 15 = .ok (.iconst (-1), 1) := by decide +kernel
theorem dX6_readInto_16 : decode cX6_readInto 16 = .ok (.putfield 15, 3) := by decide +kernel
theorem dX6_readInto_19 : decode cX6_readInto 19 = .ok (.aload_n 0, 1) := by decide +kernel
theorem dX6_readInto_20 : decode cX6_readInto 20 = .ok (.invokevirtual 37, 3) := by decide +kernel
theorem dX6_readInto_23 : decode cX6_readInto 23 = .ok (.iconst 0, 1) := by decide +kernel
theorem dX6_readInto_24 : decode cX6_readInto 24 = .ok (.istore_n 2, 1) := by decide +kernel
theorem dX6_readInto_25 : decode cX6_readInto 25 = .ok (.iload_n 2, 1) := by decide +kernel
theorem dX6_readInto_26 : decode cX6_readInto 26 = .ok (.sipush 240, 3) := by decide +kernel
theorem dX6_readInto_29 : decode cX6_readInto 29 = .ok (.if_icmp .ge 43, 3) := by decide +kernel
theorem dX6_readInto_32 : decode cX6_readInto 32 = .ok (.aload_n 0, 1) := by decide +kernel
theorem dX6_readInto_33 : decode cX6_readInto 33 = .ok (.getfield 31, 3) := by decide +kernel
theorem dX6_readInto_36 : decode cX6_readInto 36 = .ok (.aload_n 0, 1) := by decide +kernel
theorem dX6_readInto_37 : decode cX6_readInto 37 = .ok (.getfield 19, 3) := by decide +kernel
theorem dX6_readInto_40 : decode cX6_readInto 40 = .ok (.if_icmp .ge 32, 3) := by decide +kernel
theorem dX6_readInto_43 : decode cX6_readInto 43 = .ok (.aload_n 0, 1) := by decide +kernel
theorem dX6_readInto_44 : decode cX6_readInto 44 = .ok (.getfield 34, 3) := by decide +kernel
theorem dX6_readInto_47 : decode cX6_readInto 47 = .ok (.ifCond .ne 25, 3) := by decide +kernel
theorem dX6_readInto_50 : decode cX6_readInto 50 = .ok (.aload_n 0, 1) := by decide +kernel
theorem dX6_readInto_51 : decode cX6_readInto 51 = .ok (.aload_n 1, 1) := by decide +kernel
theorem dX6_readInto_52 : decode cX6_readInto 52 = .ok (.invokevirtual 40, 3) := by decide +kernel
theorem dX6_readInto_55 : decode cX6_readInto 55 = .ok (.istore_n 3, 1) := by decide +kernel
theorem dX6_readInto_56 : decode cX6_readInto 56 = .ok (.aload_n 0, 1) := by decide +kernel
theorem dX6_readInto_57 : decode cX6_readInto 57 = .ok (.aload_n 1, 1) := by decide +kernel
theorem dX6_readInto_58 : decode cX6_readInto 58 = .ok (.iload_n 3, 1) := by decide +kernel
theorem dX6_readInto_59 : decode cX6_readInto 59 = .ok (.invokevirtual 44, 3) := by decide +kernel
theorem dX6_readInto_62 : decode cX6_readInto 62 = .ok (.aload_n 0, 1) := by decide +kernel
theorem dX6_readInto_63 : decode cX6_readInto 63 = .ok (.invokevirtual 48, 3) := by decide +kernel
theorem dX6_readInto_66 : decode cX6_readInto 66 = .ok (.iinc 2 1, 3) := by decide +kernel
theorem dX6_readInto_69 : decode cX6_readInto 69 = .ok (.goto (-44), 3) := by decide +kernel
theorem dX6_readInto_72 : decode cX6_readInto 72 = .ok (.aload_n 0, 1) := by decide +kernel
theorem dX6_readInto_73 : decode cX6_readInto 73 = .ok (.iconst 0, 1) := by decide +kernel
theorem dX6_readInto_74 : decode cX6_readInto 74 = .ok (.putfield 19, 3) := by decide +kernel
theorem dX6_readInto_77 : decode cX6_readInto 77 = .ok (.aload_n 0, 1) := by decide +kernel
theorem dX6_readInto_78 : decode cX6_readInto 78 = .ok (.getfield 34, 3) := by decide +kernel
theorem dX6_readInto_81 : decode cX6_readInto 81 = .ok (.ireturn, 1) := by decide +kernel
theorem dX6_readWord_0 : decode cX6_readWord 0 = .ok (.aload_n 0, 1) := by decide +kernel
theorem dX6_readWord_1 : decode cX6_readWord 1 = .ok (.invokevirtual 51, 3) := by decide +kernel
theorem dX6_readWord_4 : decode cX6_readWord 4 = .ok (.istore_n 2, 1) := by decide +kernel
theorem dX6_readWord_5 : decode cX6_readWord 5 = .ok (.aload_n 1, 1) := by decide +kernel
theorem dX6_readWord_6 : decode cX6_readWord 6 = .ok (.getfield 55, 3) := by decide +kernel
theorem dX6_readWord_9 : decode cX6_readWord 9 = .ok (.ifCond .ne 17, 3) := by decide +kernel
theorem dX6_readWord_12 : decode cX6_readWord 12 = .ok (.iload_n 2, 1) := by decide +kernel
theorem dX6_readWord_13 : decode cX6_readWord 13 = .ok (.bipush 104, 2) := by decide +kernel
theorem dX6_readWord_15 : decode cX6_readWord 15 = .ok (.if_icmp .ne 7, 3) := by decide +kernel
theorem dX6_readWord_18 : decode cX6_readWord 18 = .ok (.iconst 1, 1) := by decide +kernel
theorem dX6_readWord_19 : decode cX6_readWord 19 = .ok (.goto 12, 3) := by decide +kernel
theorem dX6_readWord_22 : decode cX6_readWord 22 = .ok (.iconst 0, 1) := by decide +kernel
theorem dX6_readWord_23 : decode cX6_readWord 23 = .ok (.goto 8, 3) := by decide +kernel
theorem dX6_readWord_26 : decode cX6_readWord 26 = .ok (.aload_n 0, 1) := by decide +kernel
theorem dX6_readWord_27 : decode cX6_readWord 27 = .ok (.iload_n 2, 1) := by decide +kernel
theorem dX6_readWord_28 : decode cX6_readWord 28 = .ok (.invokevirtual 58, 3) := by decide +kernel
theorem dX6_readWord_31 : decode cX6_readWord 31 = .ok (.istore_n 3, 1) := by decide +kernel
theorem dX6_readWord_32 : decode cX6_readWord 32 = .ok (.iload_n 3, 1) := by decide +kernel
theorem dX6_readWord_33 : decode cX6_readWord 33 = .ok (.ifCond .ne 15, 3) := by decide +kernel
theorem dX6_readWord_36 : decode cX6_readWord 36 = .ok (.aload_n 0, 1) := by decide +kernel
theorem dX6_readWord_37 : decode cX6_readWord 37 = .ok (.iconst 1, 1) := by decide +kernel
theorem dX6_readWord_38 : decode cX6_readWord 38 = .ok (.aload_n 0, 1) := by decide +kernel
theorem dX6_readWord_39 : decode cX6_readWord 39 = .ok (.getfield 31, 3) := by decide +kernel
theorem dX6_readWord_42 : decode cX6_readWord 42 = .ok (.invokevirtual 62, 3) := by decide +kernel
theorem dX6_readWord_45 : decode cX6_readWord 45 = .ok (.goto 21, 3) := by decide +kernel
theorem dX6_readWord_48 : decode cX6_readWord 48 = .ok (.aload_n 0, 1) := by decide +kernel
theorem dX6_readWord_49 : decode cX6_readWord 49 = .ok (.aload_n 1, 1) := by decide +kernel
theorem dX6_readWord_50 : decode cX6_readWord 50 = .ok (.iload_n 2, 1) := by decide +kernel
theorem dX6_readWord_51 : decode cX6_readWord 51 = .ok (.invokevirtual 66, 3) := by decide +kernel
theorem dX6_readWord_54 : decode cX6_readWord 54 = .ok (.ifCond .eq 12, 3) := by decide +kernel
theorem dX6_readWord_57 : decode cX6_readWord 57 = .ok (.aload_n 0, 1) := by decide +kernel
theorem dX6_readWord_58 : decode cX6_readWord 58 = .ok (.iconst 3, 1) := by decide +kernel
theorem dX6_readWord_59 : decode cX6_readWord 59 = .ok (.aload_n 0, 1) := by decide +kernel
theorem dX6_readWord_60 : decode cX6_readWord 60 = .ok (.getfield 31, 3) := by decide +kernel
theorem dX6_readWord_63 : decode cX6_readWord 63 = .ok (.invokevirtual 62, 3) := by decide +kernel
theorem dX6_readWord_66 : decode cX6_readWord 66 = .ok (.aload_n 0, 1) := by decide +kernel
theorem dX6_readWord_67 : decode cX6_readWord 67 = .ok (.dup, 1) := by decide +kernel
theorem dX6_readWord_68 : decode cX6_readWord 68 = .ok (.getfield 31, 3) := by decide +kernel
theorem dX6_readWord_71 : decode cX6_readWord 71 = .ok (.iconst 1, 1) := by decide +kernel
theorem dX6_readWord_72 : decode cX6_readWord 72 = .ok (.iadd, 1) := by decide +kernel
theorem dX6_readWord_73 : decode cX6_readWord 73 = .ok (.putfield 31, 3) := by decide +kernel
theorem dX6_readWord_76 : decode cX6_readWord 76 = .ok (.iload_n 2, 1) := by decide +kernel
theorem dX6_readWord_77 : decode cX6_readWord 77 = .ok (.ireturn, 1) := by decide +kernel
theorem dX6_isWord_0 : decode cX6_isWord 0 = .ok (.iload_n 1, 1) := by decide +kernel
theorem dX6_isWord_1 : decode cX6_isWord 1 = .ok (.tableswitch 77 98 112 #[75, 77, 75, 77, 77, 77, 75, 77, 77, 77, 77, 75, 77, 75, 75], 75) := by decide +kernel
theorem dX6_isWord_76 : decode cX6_isWord 76 = .ok (.iconst 1, 1) := by decide +kernel
theorem dX6_isWord_77 : decode cX6_isWord 77 = .ok (.ireturn, 1) := by decide +kernel
theorem dX6_isWord_78 : decode cX6_isWord 78 = .ok (.iconst 0, 1) := by decide +kernel
theorem dX6_isWord_79 : decode cX6_isWord 79 = .ok (.ireturn, 1) := by decide +kernel
theorem dX6_isOneTooMany_0 : decode cX6_isOneTooMany 0 = .ok (.iload_n 2, 1) := by decide +kernel
theorem dX6_isOneTooMany_1 : decode cX6_isOneTooMany 1 = .ok (.lookupswitch 100 #[(100, 56), (104, 43), (109, 71), (112, 86)], 43) := by decide +kernel
theorem dX6_isOneTooMany_44 : decode cX6_isOneTooMany 44 = .ok (.aload_n 1, 1) := by decide +kernel
theorem dX6_isOneTooMany_45 : decode cX6_isOneTooMany 45 = .ok (.getfield 55, 3) := by decide +kernel
theorem dX6_isOneTooMany_48 : decode cX6_isOneTooMany 48 = .ok (.ifCond .le 7, 3) := by decide +kernel
theorem dX6_isOneTooMany_51 : decode cX6_isOneTooMany 51 = .ok (.iconst 1, 1) := by decide +kernel
theorem dX6_isOneTooMany_52 : decode cX6_isOneTooMany 52 = .ok (.goto 4, 3) := by decide +kernel
theorem dX6_isOneTooMany_55 : decode cX6_isOneTooMany 55 = .ok (.iconst 0, 1) := by decide +kernel
theorem dX6_isOneTooMany_56 : decode cX6_isOneTooMany 56 = .ok (.ireturn, 1) := by decide +kernel
theorem dX6_isOneTooMany_57 : decode cX6_isOneTooMany 57 = .ok (.aload_n 1, 1) := by decide +kernel
theorem dX6_isOneTooMany_58 : decode cX6_isOneTooMany 58 = .ok (.getfield 70, 3) := by decide +kernel
theorem dX6_isOneTooMany_61 : decode cX6_isOneTooMany 61 = .ok (.bipush 8, 2) := by decide +kernel
theorem dX6_isOneTooMany_63 : decode cX6_isOneTooMany 63 = .ok (.if_icmp .lt 7, 3) := by decide +kernel
theorem dX6_isOneTooMany_66 : decode cX6_isOneTooMany 66 = .ok (.iconst 1, 1) := by decide +kernel
theorem dX6_isOneTooMany_67 : decode cX6_isOneTooMany 67 = .ok (.goto 4, 3) := by decide +kernel
theorem dX6_isOneTooMany_70 : decode cX6_isOneTooMany 70 = .ok (.iconst 0, 1) := by decide +kernel
theorem dX6_isOneTooMany_71 : decode cX6_isOneTooMany 71 = .ok (.ireturn, 1) := by decide +kernel
theorem dX6_isOneTooMany_72 : decode cX6_isOneTooMany 72 = .ok (.aload_n 1, 1) := by decide +kernel
theorem dX6_isOneTooMany_73 : decode cX6_isOneTooMany 73 = .ok (.getfield 73, 3) := by decide +kernel
theorem dX6_isOneTooMany_76 : decode cX6_isOneTooMany 76 = .ok (.bipush 7, 2) := by decide +kernel
theorem dX6_isOneTooMany_78 : decode cX6_isOneTooMany 78 = .ok (.if_icmp .lt 7, 3) := by decide +kernel
theorem dX6_isOneTooMany_81 : decode cX6_isOneTooMany 81 = .ok (.iconst 1, 1) := by decide +kernel
theorem dX6_isOneTooMany_82 : decode cX6_isOneTooMany 82 = .ok (.goto 4, 3) := by decide +kernel
theorem dX6_isOneTooMany_85 : decode cX6_isOneTooMany 85 = .ok (.iconst 0, 1) := by decide +kernel
theorem dX6_isOneTooMany_86 : decode cX6_isOneTooMany 86 = .ok (.ireturn, 1) := by decide +kernel
theorem dX6_isOneTooMany_87 : decode cX6_isOneTooMany 87 = .ok (.aload_n 1, 1) := by decide +kernel
theorem dX6_isOneTooMany_88 : decode cX6_isOneTooMany 88 = .ok (.getfield 76, 3) := by decide +kernel
theorem dX6_isOneTooMany_91 : decode cX6_isOneTooMany 91 = .ok (.iconst 5, 1) := by decide +kernel
theorem dX6_isOneTooMany_92 : decode cX6_isOneTooMany 92 = .ok (.if_icmp .lt 7, 3) := by decide +kernel
theorem dX6_isOneTooMany_95 : decode cX6_isOneTooMany 95 = .ok (.iconst 1, 1) := by decide +kernel
theorem dX6_isOneTooMany_96 : decode cX6_isOneTooMany 96 = .ok (.goto 4, 3) := by decide +kernel
theorem dX6_isOneTooMany_99 : decode cX6_isOneTooMany 99 = .ok (.iconst 0, 1) := by decide +kernel
theorem dX6_isOneTooMany_100 : decode cX6_isOneTooMany 100 = .ok (.ireturn, 1) := by decide +kernel
theorem dX6_isOneTooMany_101 : decode cX6_isOneTooMany 101 = .ok (.iconst 0, 1) := by decide +kernel
theorem dX6_isOneTooMany_102 : decode cX6_isOneTooMany 102 = .ok (.ireturn, 1) := by decide +kernel
theorem dX6_readNumbers_0 : decode cX6_readNumbers 0 = .ok (.iload_n 2, 1) := by decide +kernel
theorem dX6_readNumbers_1 : decode cX6_readNumbers 1 = .ok (.tableswitch 123 98 112 #[107, 123, 83, 123, 123, 123, 75, 123, 123, 123, 123, 91, 123, 99, 115], 75) := by decide +kernel
theorem dX6_readNumbers_76 : decode cX6_readNumbers 76 = .ok (.aload_n 0, 1) := by decide +kernel
theorem dX6_readNumbers_77 : decode cX6_readNumbers 77 = .ok (.aload_n 1, 1) := by decide +kernel
theorem dX6_readNumbers_78 : decode cX6_readNumbers 78 = .ok (.invokevirtual 79, 3) := by decide +kernel
theorem dX6_readNumbers_81 : decode cX6_readNumbers 81 = .ok (.goto 43, 3) := by decide +kernel
theorem dX6_readNumbers_84 : decode cX6_readNumbers 84 = .ok (.aload_n 0, 1) := by decide +kernel
theorem dX6_readNumbers_85 : decode cX6_readNumbers 85 = .ok (.aload_n 1, 1) := by decide +kernel
theorem dX6_readNumbers_86 : decode cX6_readNumbers 86 = .ok (.invokevirtual 83, 3) := by decide +kernel
theorem dX6_readNumbers_89 : decode cX6_readNumbers 89 = .ok (.goto 35, 3) := by decide +kernel
theorem dX6_readNumbers_92 : decode cX6_readNumbers 92 = .ok (.aload_n 0, 1) := by decide +kernel
theorem dX6_readNumbers_93 : decode cX6_readNumbers 93 = .ok (.aload_n 1, 1) := by decide +kernel
theorem dX6_readNumbers_94 : decode cX6_readNumbers 94 = .ok (.invokevirtual 86, 3) := by decide +kernel
theorem dX6_readNumbers_97 : decode cX6_readNumbers 97 = .ok (.goto 27, 3) := by decide +kernel
theorem dX6_readNumbers_100 : decode cX6_readNumbers 100 = .ok (.aload_n 0, 1) := by decide +kernel
theorem dX6_readNumbers_101 : decode cX6_readNumbers 101 = .ok (.aload_n 1, 1) := by decide +kernel
theorem dX6_readNumbers_102 : decode cX6_readNumbers 102 = .ok (.invokevirtual 89, 3) := by decide +kernel
theorem dX6_readNumbers_105 : decode cX6_readNumbers 105 = .ok (.goto 19, 3) := by decide +kernel
theorem dX6_readNumbers_108 : decode cX6_readNumbers 108 = .ok (.aload_n 0, 1) := by decide +kernel
theorem dX6_readNumbers_109 : decode cX6_readNumbers 109 = .ok (.aload_n 1, 1) := by decide +kernel
theorem dX6_readNumbers_110 : decode cX6_readNumbers 110 = .ok (.invokevirtual 92, 3) := by decide +kernel
theorem dX6_readNumbers_113 : decode cX6_readNumbers 113 = .ok (.goto 11, 3) := by decide +kernel
theorem dX6_readNumbers_116 : decode cX6_readNumbers 116 = .ok (.aload_n 0, 1) := by decide +kernel
theorem dX6_readNumbers_117 : decode cX6_readNumbers 117 = .ok (.aload_n 1, 1) := by decide +kernel
theorem dX6_readNumbers_118 : decode cX6_readNumbers 118 = .ok (.invokevirtual 95, 3) := by decide +kernel
theorem dX6_readNumbers_121 : decode cX6_readNumbers 121 = .ok (.goto 3, 3) := by decide +kernel
theorem dX6_readNumbers_124 : decode cX6_readNumbers 124 = .ok (.return_, 1) := by decide +kernel
theorem dX6_readRooms_0 : decode cX6_readRooms 0 = .ok (.aload_n 1, 1) := by decide +kernel
theorem dX6_readRooms_1 : decode cX6_readRooms 1 = .ok (.aload_n 0, 1) := by decide +kernel
theorem dX6_readRooms_2 : decode cX6_readRooms 2 = .ok (.iconst 1, 1) := by decide +kernel
theorem dX6_readRooms_3 : decode cX6_readRooms 3 = .ok (.bipush 7, 2) := by decide +kernel
theorem dX6_readRooms_5 : decode cX6_readRooms 5 = .ok (.invokevirtual 98, 3) := by decide +kernel
theorem dX6_readRooms_8 : decode cX6_readRooms 8 = .ok (.putfield 55, 3) := by decide +kernel
theorem dX6_readRooms_11 : decode cX6_readRooms 11 = .ok (.aload_n 1, 1) := by decide +kernel
theorem dX6_readRooms_12 : decode cX6_readRooms 12 = .ok (.aload_n 0, 1) := by decide +kernel
theorem dX6_readRooms_13 : decode cX6_readRooms 13 = .ok (.iconst 0, 1) := by decide +kernel
theorem dX6_readRooms_14 : decode cX6_readRooms 14 = .ok (.sipush 1023, 3) := by decide +kernel
theorem dX6_readRooms_17 : decode cX6_readRooms 17 = .ok (.invokevirtual 98, 3) := by decide +kernel
theorem dX6_readRooms_20 : decode cX6_readRooms 20 = .ok (.putfield 102, 3) := by decide +kernel
theorem dX6_readRooms_23 : decode cX6_readRooms 23 = .ok (.return_, 1) := by decide +kernel
theorem dX6_readDoor_0 : decode cX6_readDoor 0 = .ok (.aload_n 0, 1) := by decide +kernel
theorem dX6_readDoor_1 : decode cX6_readDoor 1 = .ok (.iconst 0, 1) := by decide +kernel
theorem dX6_readDoor_2 : decode cX6_readDoor 2 = .ok (.aload_n 1, 1) := by decide +kernel
theorem dX6_readDoor_3 : decode cX6_readDoor 3 = .ok (.getfield 55, 3) := by decide +kernel
theorem dX6_readDoor_6 : decode cX6_readDoor 6 = .ok (.iconst 1, 1) := by decide +kernel
theorem dX6_readDoor_7 : decode cX6_readDoor 7 = .ok (.isub, 1) := by decide +kernel
theorem dX6_readDoor_8 : decode cX6_readDoor 8 = .ok (.invokevirtual 98, 3) := by decide +kernel
theorem dX6_readDoor_11 : decode cX6_readDoor 11 = .ok (.istore_n 2, 1) := by decide +kernel
theorem dX6_readDoor_12 : decode cX6_readDoor 12 = .ok (.aload_n 0, 1) := by decide +kernel
theorem dX6_readDoor_13 : decode cX6_readDoor 13 = .ok (.iconst 0, 1) := by decide +kernel
theorem dX6_readDoor_14 : decode cX6_readDoor 14 = .ok (.aload_n 1, 1) := by decide +kernel
theorem dX6_readDoor_15 : decode cX6_readDoor 15 = .ok (.getfield 55, 3) := by decide +kernel
theorem dX6_readDoor_18 : decode cX6_readDoor 18 = .ok (.iconst 1, 1) := by decide +kernel
theorem dX6_readDoor_19 : decode cX6_readDoor 19 = .ok (.isub, 1) := by decide +kernel
theorem dX6_readDoor_20 : decode cX6_readDoor 20 = .ok (.invokevirtual 98, 3) := by decide +kernel
theorem dX6_readDoor_23 : decode cX6_readDoor 23 = .ok (.istore_n 3, 1) := by decide +kernel
theorem dX6_readDoor_24 : decode cX6_readDoor 24 = .ok (.iload_n 2, 1) := by decide +kernel
theorem dX6_readDoor_25 : decode cX6_readDoor 25 = .ok (.iload_n 3, 1) := by decide +kernel
theorem dX6_readDoor_26 : decode cX6_readDoor 26 = .ok (.if_icmp .eq 12, 3) := by decide +kernel
theorem dX6_readDoor_29 : decode cX6_readDoor 29 = .ok (.aload_n 1, 1) := by decide +kernel
theorem dX6_readDoor_30 : decode cX6_readDoor 30 = .ok (.iload_n 2, 1) := by decide +kernel
theorem dX6_readDoor_31 : decode cX6_readDoor 31 = .ok (.iload_n 3, 1) := by decide +kernel
theorem dX6_readDoor_32 : decode cX6_readDoor 32 = .ok (.invokevirtual 105, 3) := by decide +kernel
theorem dX6_readDoor_35 : decode cX6_readDoor 35 = .ok (.ifCond .eq 12, 3) := by decide +kernel
theorem dX6_readDoor_38 : decode cX6_readDoor 38 = .ok (.aload_n 0, 1) := by decide +kernel
theorem dX6_readDoor_39 : decode cX6_readDoor 39 = .ok (.iconst 4, 1) := by decide +kernel
theorem dX6_readDoor_40 : decode cX6_readDoor 40 = .ok (.aload_n 0, 1) := by decide +kernel
theorem dX6_readDoor_41 : decode cX6_readDoor 41 = .ok (.getfield 109, 3) := by decide +kernel
theorem dX6_readDoor_44 : decode cX6_readDoor 44 = .ok (.invokevirtual 62, 3) := by decide +kernel
theorem dX6_readDoor_47 : decode cX6_readDoor 47 = .ok (.aload_n 0, 1) := by decide +kernel
theorem dX6_readDoor_48 : decode cX6_readDoor 48 = .ok (.getfield 34, 3) := by decide +kernel
theorem dX6_readDoor_51 : decode cX6_readDoor 51 = .ok (.ifCond .ne 9, 3) := by decide +kernel
theorem dX6_readDoor_54 : decode cX6_readDoor 54 = .ok (.aload_n 1, 1) := by decide +kernel
theorem dX6_readDoor_55 : decode cX6_readDoor 55 = .ok (.iload_n 2, 1) := by decide +kernel
theorem dX6_readDoor_56 : decode cX6_readDoor 56 = .ok (.iload_n 3, 1) := by decide +kernel
theorem dX6_readDoor_57 : decode cX6_readDoor 57 = .ok (.invokevirtual 112, 3) := by decide +kernel
theorem dX6_readDoor_60 : decode cX6_readDoor 60 = .ok (.return_, 1) := by decide +kernel
theorem dX6_readMirror_0 : decode cX6_readMirror 0 = .ok (.aload_n 0, 1) := by decide +kernel
theorem dX6_readMirror_1 : decode cX6_readMirror 1 = .ok (.iconst 0, 1) := by decide +kernel
theorem dX6_readMirror_2 : decode cX6_readMirror 2 = .ok (.aload_n 1, 1) := by decide +kernel
theorem dX6_readMirror_3 : decode cX6_readMirror 3 = .ok (.getfield 55, 3) := by decide +kernel
theorem dX6_readMirror_6 : decode cX6_readMirror 6 = .ok (.iconst 1, 1) := by decide +kernel
theorem dX6_readMirror_7 : decode cX6_readMirror 7 = .ok (.isub, 1) := by decide +kernel
theorem dX6_readMirror_8 : decode cX6_readMirror 8 = .ok (.invokevirtual 98, 3) := by decide +kernel
theorem dX6_readMirror_11 : decode cX6_readMirror 11 = .ok (.istore_n 2, 1) := by decide +kernel
theorem dX6_readMirror_12 : decode cX6_readMirror 12 = .ok (.aload_n 0, 1) := by decide +kernel
theorem dX6_readMirror_13 : decode cX6_readMirror 13 = .ok (.iconst 0, 1) := by decide +kernel
theorem dX6_readMirror_14 : decode cX6_readMirror 14 = .ok (.bipush 9, 2) := by decide +kernel
theorem dX6_readMirror_16 : decode cX6_readMirror 16 = .ok (.invokevirtual 98, 3) := by decide +kernel
theorem dX6_readMirror_19 : decode cX6_readMirror 19 = .ok (.istore_n 3, 1) := by decide +kernel
theorem dX6_readMirror_20 : decode cX6_readMirror 20 = .ok (.aload_n 0, 1) := by decide +kernel
theorem dX6_readMirror_21 : decode cX6_readMirror 21 = .ok (.getfield 34, 3) := by decide +kernel
theorem dX6_readMirror_24 : decode cX6_readMirror 24 = .ok (.ifCond .ne 9, 3) := by decide +kernel
theorem dX6_readMirror_27 : decode cX6_readMirror 27 = .ok (.aload_n 1, 1) := by decide +kernel
theorem dX6_readMirror_28 : decode cX6_readMirror 28 = .ok (.iload_n 2, 1) := by decide +kernel
theorem dX6_readMirror_29 : decode cX6_readMirror 29 = .ok (.iload_n 3, 1) := by decide +kernel
theorem dX6_readMirror_30 : decode cX6_readMirror 30 = .ok (.invokevirtual 115, 3) := by decide +kernel
theorem dX6_readMirror_33 : decode cX6_readMirror 33 = .ok (.return_, 1) := by decide +kernel
theorem dX6_readOpposite_0 : decode cX6_readOpposite 0 = .ok (.aload_n 0, 1) := by decide +kernel
theorem dX6_readOpposite_1 : decode cX6_readOpposite 1 = .ok (.iconst 0, 1) := by decide +kernel
theorem dX6_readOpposite_2 : decode cX6_readOpposite 2 = .ok (.aload_n 1, 1) := by decide +kernel
theorem dX6_readOpposite_3 : decode cX6_readOpposite 3 = .ok (.getfield 73, 3) := by decide +kernel
theorem dX6_readOpposite_6 : decode cX6_readOpposite 6 = .ok (.iconst 1, 1) := by decide +kernel
theorem dX6_readOpposite_7 : decode cX6_readOpposite 7 = .ok (.isub, 1) := by decide +kernel
theorem dX6_readOpposite_8 : decode cX6_readOpposite 8 = .ok (.invokevirtual 98, 3) := by decide +kernel
theorem dX6_readOpposite_11 : decode cX6_readOpposite 11 = .ok (.istore_n 2, 1) := by decide +kernel
theorem dX6_readOpposite_12 : decode cX6_readOpposite 12 = .ok (.aload_n 1, 1) := by decide +kernel
theorem dX6_readOpposite_13 : decode cX6_readOpposite 13 = .ok (.getfield 118, 3) := by decide +kernel
theorem dX6_readOpposite_16 : decode cX6_readOpposite 16 = .ok (.iload_n 2, 1) := by decide +kernel
theorem dX6_readOpposite_17 : decode cX6_readOpposite 17 = .ok (.invokestatic 121, 3) := by decide +kernel
theorem dX6_readOpposite_20 : decode cX6_readOpposite 20 = .ok (.iconst (-1), 1) := by decide +kernel
theorem dX6_readOpposite_21 : decode cX6_readOpposite 21 = .ok (.if_icmp .eq 12, 3) := by decide +kernel
theorem dX6_readOpposite_24 : decode cX6_readOpposite 24 = .ok (.aload_n 0, 1) := by decide +kernel
theorem dX6_readOpposite_25 : decode cX6_readOpposite 25 = .ok (.iconst 4, 1) := by decide +kernel
theorem dX6_readOpposite_26 : decode cX6_readOpposite 26 = .ok (.aload_n 0, 1) := by decide +kernel
theorem dX6_readOpposite_27 : decode cX6_readOpposite 27 = .ok (.getfield 109, 3) := by decide +kernel
theorem dX6_readOpposite_30 : decode cX6_readOpposite 30 = .ok (.invokevirtual 62, 3) := by decide +kernel
theorem dX6_readOpposite_33 : decode cX6_readOpposite 33 = .ok (.aload_n 0, 1) := by decide +kernel
theorem dX6_readOpposite_34 : decode cX6_readOpposite 34 = .ok (.iconst 0, 1) := by decide +kernel
theorem dX6_readOpposite_35 : decode cX6_readOpposite 35 = .ok (.aload_n 1, 1) := by decide +kernel
theorem dX6_readOpposite_36 : decode cX6_readOpposite 36 = .ok (.getfield 73, 3) := by decide +kernel
theorem dX6_readOpposite_39 : decode cX6_readOpposite 39 = .ok (.iconst 1, 1) := by decide +kernel
theorem dX6_readOpposite_40 : decode cX6_readOpposite 40 = .ok (.isub, 1) := by decide +kernel
theorem dX6_readOpposite_41 : decode cX6_readOpposite 41 = .ok (.invokevirtual 98, 3) := by decide +kernel
theorem dX6_readOpposite_44 : decode cX6_readOpposite 44 = .ok (.istore_n 3, 1) := by decide +kernel
theorem dX6_readOpposite_45 : decode cX6_readOpposite 45 = .ok (.aload_n 1, 1) := by decide +kernel
theorem dX6_readOpposite_46 : decode cX6_readOpposite 46 = .ok (.getfield 118, 3) := by decide +kernel
theorem dX6_readOpposite_49 : decode cX6_readOpposite 49 = .ok (.iload_n 3, 1) := by decide +kernel
theorem dX6_readOpposite_50 : decode cX6_readOpposite 50 = .ok (.invokestatic 121, 3) := by decide +kernel
theorem dX6_readOpposite_53 : decode cX6_readOpposite 53 = .ok (.iconst (-1), 1) := by decide +kernel
theorem dX6_readOpposite_54 : decode cX6_readOpposite 54 = .ok (.if_icmp .ne 27, 3) := by decide +kernel
theorem dX6_readOpposite_57 : decode cX6_readOpposite 57 = .ok (.iload_n 2, 1) := by decide +kernel
theorem dX6_readOpposite_58 : decode cX6_readOpposite 58 = .ok (.iload_n 3, 1) := by decide +kernel
theorem dX6_readOpposite_59 : decode cX6_readOpposite 59 = .ok (.if_icmp .eq 22, 3) := by decide +kernel
theorem dX6_readOpposite_62 : decode cX6_readOpposite 62 = .ok (.aload_n 1, 1) := by decide +kernel
theorem dX6_readOpposite_63 : decode cX6_readOpposite 63 = .ok (.getfield 125, 3) := by decide +kernel
theorem dX6_readOpposite_66 : decode cX6_readOpposite 66 = .ok (.iload_n 2, 1) := by decide +kernel
theorem dX6_readOpposite_67 : decode cX6_readOpposite 67 = .ok (.invokestatic 121, 3) := by decide +kernel
theorem dX6_readOpposite_70 : decode cX6_readOpposite 70 = .ok (.aload_n 1, 1) := by decide +kernel
theorem dX6_readOpposite_71 : decode cX6_readOpposite 71 = .ok (.getfield 125, 3) := by decide +kernel
theorem dX6_readOpposite_74 : decode cX6_readOpposite 74 = .ok (.iload_n 3, 1) := by decide +kernel
theorem dX6_readOpposite_75 : decode cX6_readOpposite 75 = .ok (.invokestatic 121, 3) := by decide +kernel
theorem dX6_readOpposite_78 : decode cX6_readOpposite 78 = .ok (.if_icmp .eq 12, 3) := by decide +kernel
theorem dX6_readOpposite_81 : decode cX6_readOpposite 81 = .ok (.aload_n 0, 1) := by decide +kernel
theorem dX6_readOpposite_82 : decode cX6_readOpposite 82 = .ok (.iconst 4, 1) := by decide +kernel
theorem dX6_readOpposite_83 : decode cX6_readOpposite 83 = .ok (.aload_n 0, 1) := by decide +kernel
theorem dX6_readOpposite_84 : decode cX6_readOpposite 84 = .ok (.getfield 109, 3) := by decide +kernel
theorem dX6_readOpposite_87 : decode cX6_readOpposite 87 = .ok (.invokevirtual 62, 3) := by decide +kernel
theorem dX6_readOpposite_90 : decode cX6_readOpposite 90 = .ok (.aload_n 0, 1) := by decide +kernel
theorem dX6_readOpposite_91 : decode cX6_readOpposite 91 = .ok (.getfield 34, 3) := by decide +kernel
theorem dX6_readOpposite_94 : decode cX6_readOpposite 94 = .ok (.ifCond .ne 21, 3) := by decide +kernel
theorem dX6_readOpposite_97 : decode cX6_readOpposite 97 = .ok (.aload_n 1, 1) := by decide +kernel
theorem dX6_readOpposite_98 : decode cX6_readOpposite 98 = .ok (.getfield 118, 3) := by decide +kernel
theorem dX6_readOpposite_101 : decode cX6_readOpposite 101 = .ok (.iload_n 2, 1) := by decide +kernel
theorem dX6_readOpposite_102 : decode cX6_readOpposite 102 = .ok (.iload_n 3, 1) := by decide +kernel
theorem dX6_readOpposite_103 : decode cX6_readOpposite 103 = .ok (.invokestatic 22, 3) := by decide +kernel
theorem dX6_readOpposite_106 : decode cX6_readOpposite 106 = .ok (.aload_n 1, 1) := by decide +kernel
theorem dX6_readOpposite_107 : decode cX6_readOpposite 107 = .ok (.getfield 118, 3) := by decide +kernel
theorem dX6_readOpposite_110 : decode cX6_readOpposite 110 = .ok (.iload_n 3, 1) := by decide +kernel
theorem dX6_readOpposite_111 : decode cX6_readOpposite 111 = .ok (.iload_n 2, 1) := by decide +kernel
theorem dX6_readOpposite_112 : decode cX6_readOpposite 112 = .ok (.invokestatic 22, 3) := by decide +kernel
theorem dX6_readOpposite_115 : decode cX6_readOpposite 115 = .ok (.return_, 1) := by decide +kernel
theorem dX6_readBreath_0 : decode cX6_readBreath 0 = .ok (.aload_n 0, 1) := by decide +kernel
theorem dX6_readBreath_1 : decode cX6_readBreath 1 = .ok (.iconst 0, 1) := by decide +kernel
theorem dX6_readBreath_2 : decode cX6_readBreath 2 = .ok (.bipush 9, 2) := by decide +kernel
theorem dX6_readBreath_4 : decode cX6_readBreath 4 = .ok (.invokevirtual 98, 3) := by decide +kernel
theorem dX6_readBreath_7 : decode cX6_readBreath 7 = .ok (.istore_n 2, 1) := by decide +kernel
theorem dX6_readBreath_8 : decode cX6_readBreath 8 = .ok (.aload_n 1, 1) := by decide +kernel
theorem dX6_readBreath_9 : decode cX6_readBreath 9 = .ok (.getfield 128, 3) := by decide +kernel
theorem dX6_readBreath_12 : decode cX6_readBreath 12 = .ok (.iload_n 2, 1) := by decide +kernel
theorem dX6_readBreath_13 : decode cX6_readBreath 13 = .ok (.invokestatic 121, 3) := by decide +kernel
theorem dX6_readBreath_16 : decode cX6_readBreath 16 = .ok (.ifCond .eq 12, 3) := by decide +kernel
theorem dX6_readBreath_19 : decode cX6_readBreath 19 = .ok (.aload_n 0, 1) := by decide +kernel
theorem dX6_readBreath_20 : decode cX6_readBreath 20 = .ok (.iconst 4, 1) := by decide +kernel
theorem dX6_readBreath_21 : decode cX6_readBreath 21 = .ok (.aload_n 0, 1) := by decide +kernel
theorem dX6_readBreath_22 : decode cX6_readBreath 22 = .ok (.getfield 109, 3) := by decide +kernel
theorem dX6_readBreath_25 : decode cX6_readBreath 25 = .ok (.invokevirtual 62, 3) := by decide +kernel
theorem dX6_readBreath_28 : decode cX6_readBreath 28 = .ok (.aload_n 0, 1) := by decide +kernel
theorem dX6_readBreath_29 : decode cX6_readBreath 29 = .ok (.iconst 1, 1) := by decide +kernel
theorem dX6_readBreath_30 : decode cX6_readBreath 30 = .ok (.bipush 9, 2) := by decide +kernel
theorem dX6_readBreath_32 : decode cX6_readBreath 32 = .ok (.invokevirtual 98, 3) := by decide +kernel
theorem dX6_readBreath_35 : decode cX6_readBreath 35 = .ok (.istore_n 3, 1) := by decide +kernel
theorem dX6_readBreath_36 : decode cX6_readBreath 36 = .ok (.aload_n 0, 1) := by decide +kernel
theorem dX6_readBreath_37 : decode cX6_readBreath 37 = .ok (.getfield 34, 3) := by decide +kernel
theorem dX6_readBreath_40 : decode cX6_readBreath 40 = .ok (.ifCond .ne 12, 3) := by decide +kernel
theorem dX6_readBreath_43 : decode cX6_readBreath 43 = .ok (.aload_n 1, 1) := by decide +kernel
theorem dX6_readBreath_44 : decode cX6_readBreath 44 = .ok (.getfield 128, 3) := by decide +kernel
theorem dX6_readBreath_47 : decode cX6_readBreath 47 = .ok (.iload_n 2, 1) := by decide +kernel
theorem dX6_readBreath_48 : decode cX6_readBreath 48 = .ok (.iload_n 3, 1) := by decide +kernel
theorem dX6_readBreath_49 : decode cX6_readBreath 49 = .ok (.invokestatic 22, 3) := by decide +kernel
theorem dX6_readBreath_52 : decode cX6_readBreath 52 = .ok (.return_, 1) := by decide +kernel
theorem dX6_readPerson_0 : decode cX6_readPerson 0 = .ok (.aload_n 0, 1) := by decide +kernel
theorem dX6_readPerson_1 : decode cX6_readPerson 1 = .ok (.iconst 0, 1) := by decide +kernel
theorem dX6_readPerson_2 : decode cX6_readPerson 2 = .ok (.aload_n 1, 1) := by decide +kernel
theorem dX6_readPerson_3 : decode cX6_readPerson 3 = .ok (.getfield 55, 3) := by decide +kernel
theorem dX6_readPerson_6 : decode cX6_readPerson 6 = .ok (.iconst 1, 1) := by decide +kernel
theorem dX6_readPerson_7 : decode cX6_readPerson 7 = .ok (.isub, 1) := by decide +kernel
theorem dX6_readPerson_8 : decode cX6_readPerson 8 = .ok (.invokevirtual 98, 3) := by decide +kernel
theorem dX6_readPerson_11 : decode cX6_readPerson 11 = .ok (.istore_n 2, 1) := by decide +kernel
theorem dX6_readPerson_12 : decode cX6_readPerson 12 = .ok (.aload_n 0, 1) := by decide +kernel
theorem dX6_readPerson_13 : decode cX6_readPerson 13 = .ok (.getfield 34, 3) := by decide +kernel
theorem dX6_readPerson_16 : decode cX6_readPerson 16 = .ok (.ifCond .ne 8, 3) := by decide +kernel
theorem dX6_readPerson_19 : decode cX6_readPerson 19 = .ok (.aload_n 1, 1) := by decide +kernel
theorem dX6_readPerson_20 : decode cX6_readPerson 20 = .ok (.iload_n 2, 1) := by decide +kernel
theorem dX6_readPerson_21 : decode cX6_readPerson 21 = .ok (.invokevirtual 131, 3) := by decide +kernel
theorem dX6_readPerson_24 : decode cX6_readPerson 24 = .ok (.return_, 1) := by decide +kernel
theorem dX6_readNumber_0 : decode cX6_readNumber 0 = .ok (.aload_n 0, 1) := by decide +kernel
theorem dX6_readNumber_1 : decode cX6_readNumber 1 = .ok (.getfield 34, 3) := by decide +kernel
theorem dX6_readNumber_4 : decode cX6_readNumber 4 = .ok (.ifCond .eq 5, 3) := by decide +kernel
theorem dX6_readNumber_7 : decode cX6_readNumber 7 = .ok (.iconst 0, 1) := by decide +kernel
theorem dX6_readNumber_8 : decode cX6_readNumber 8 = .ok (.ireturn, 1) := by decide +kernel
theorem dX6_readNumber_9 : decode cX6_readNumber 9 = .ok (.aload_n 0, 1) := by decide +kernel
theorem dX6_readNumber_10 : decode cX6_readNumber 10 = .ok (.invokevirtual 37, 3) := by decide +kernel
theorem dX6_readNumber_13 : decode cX6_readNumber 13 = .ok (.aload_n 0, 1) := by decide +kernel
theorem dX6_readNumber_14 : decode cX6_readNumber 14 = .ok (.aload_n 0, 1) := by decide +kernel
theorem dX6_readNumber_15 : decode cX6_readNumber 15 = .ok (.getfield 31, 3) := by decide +kernel
theorem dX6_readNumber_18 : decode cX6_readNumber 18 = .ok (.putfield 109, 3) := by decide +kernel
theorem dX6_readNumber_21 : decode cX6_readNumber 21 = .ok (.iconst 0, 1) := by decide +kernel
theorem dX6_readNumber_22 : decode cX6_readNumber 22 = .ok (.istore_n 3, 1) := by decide +kernel
theorem dX6_readNumber_23 : decode cX6_readNumber 23 = .ok (.aload_n 0, 1) := by decide +kernel
theorem dX6_readNumber_24 : decode cX6_readNumber 24 = .ok (.getfield 31, 3) := by decide +kernel
theorem dX6_readNumber_27 : decode cX6_readNumber 27 = .ok (.aload_n 0, 1) := by decide +kernel
theorem dX6_readNumber_28 : decode cX6_readNumber 28 = .ok (.getfield 19, 3) := by decide +kernel
theorem dX6_readNumber_31 : decode cX6_readNumber 31 = .ok (.if_icmp .ge 53, 3) := by decide +kernel
theorem dX6_readNumber_34 : decode cX6_readNumber 34 = .ok (.aload_n 0, 1) := by decide +kernel
theorem dX6_readNumber_35 : decode cX6_readNumber 35 = .ok (.aload_n 0, 1) := by decide +kernel
theorem dX6_readNumber_36 : decode cX6_readNumber 36 = .ok (.invokevirtual 51, 3) := by decide +kernel
theorem dX6_readNumber_39 : decode cX6_readNumber 39 = .ok (.invokevirtual 135, 3) := by decide +kernel
theorem dX6_readNumber_42 : decode cX6_readNumber 42 = .ok (.ifCond .eq 42, 3) := by decide +kernel
theorem dX6_readNumber_45 : decode cX6_readNumber 45 = .ok (.aload_n 0, 1) := by decide +kernel
theorem dX6_readNumber_46 : decode cX6_readNumber 46 = .ok (.getfield 31, 3) := by decide +kernel
theorem dX6_readNumber_49 : decode cX6_readNumber 49 = .ok (.aload_n 0, 1) := by decide +kernel
theorem dX6_readNumber_50 : decode cX6_readNumber 50 = .ok (.getfield 109, 3) := by decide +kernel
theorem dX6_readNumber_53 : decode cX6_readNumber 53 = .ok (.isub, 1) := by decide +kernel
theorem dX6_readNumber_54 : decode cX6_readNumber 54 = .ok (.iconst 4, 1) := by decide +kernel
theorem dX6_readNumber_55 : decode cX6_readNumber 55 = .ok (.if_icmp .ge 16, 3) := by decide +kernel
theorem dX6_readNumber_58 : decode cX6_readNumber 58 = .ok (.iload_n 3, 1) := by decide +kernel
theorem dX6_readNumber_59 : decode cX6_readNumber 59 = .ok (.bipush 10, 2) := by decide +kernel
theorem dX6_readNumber_61 : decode cX6_readNumber 61 = .ok (.imul, 1) := by decide +kernel
theorem dX6_readNumber_62 : decode cX6_readNumber 62 = .ok (.aload_n 0, 1) := by decide +kernel
theorem dX6_readNumber_63 : decode cX6_readNumber 63 = .ok (.invokevirtual 51, 3) := by decide +kernel
theorem dX6_readNumber_66 : decode cX6_readNumber 66 = .ok (.iadd, 1) := by decide +kernel
theorem dX6_readNumber_67 : decode cX6_readNumber 67 = .ok (.bipush 48, 2) := by decide +kernel
theorem dX6_readNumber_69 : decode cX6_readNumber 69 = .ok (.isub, 1) := by decide +kernel
theorem dX6_readNumber_70 : decode cX6_readNumber 70 = .ok (.istore_n 3, 1) := by decide +kernel
theorem dX6_readNumber_71 : decode cX6_readNumber 71 = .ok (.aload_n 0, 1) := by decide +kernel
theorem dX6_readNumber_72 : decode cX6_readNumber 72 = .ok (.dup, 1) := by decide +kernel
theorem dX6_readNumber_73 : decode cX6_readNumber 73 = .ok (.getfield 31, 3) := by decide +kernel
theorem dX6_readNumber_76 : decode cX6_readNumber 76 = .ok (.iconst 1, 1) := by decide +kernel
theorem dX6_readNumber_77 : decode cX6_readNumber 77 = .ok (.iadd, 1) := by decide +kernel
theorem dX6_readNumber_78 : decode cX6_readNumber 78 = .ok (.putfield 31, 3) := by decide +kernel
theorem dX6_readNumber_81 : decode cX6_readNumber 81 = .ok (.goto (-58), 3) := by decide +kernel
theorem dX6_readNumber_84 : decode cX6_readNumber 84 = .ok (.aload_n 0, 1) := by decide +kernel
theorem dX6_readNumber_85 : decode cX6_readNumber 85 = .ok (.getfield 31, 3) := by decide +kernel
theorem dX6_readNumber_88 : decode cX6_readNumber 88 = .ok (.aload_n 0, 1) := by decide +kernel
theorem dX6_readNumber_89 : decode cX6_readNumber 89 = .ok (.getfield 109, 3) := by decide +kernel
theorem dX6_readNumber_92 : decode cX6_readNumber 92 = .ok (.isub, 1) := by decide +kernel
theorem dX6_readNumber_93 : decode cX6_readNumber 93 = .ok (.istore 4, 2) := by decide +kernel
theorem dX6_readNumber_95 : decode cX6_readNumber 95 = .ok (.iload 4, 2) := by decide +kernel
theorem dX6_readNumber_97 : decode cX6_readNumber 97 = .ok (.ifCond .ne 15, 3) := by decide +kernel
theorem dX6_readNumber_100 : decode cX6_readNumber 100 = .ok (.aload_n 0, 1) := by decide +kernel
theorem dX6_readNumber_101 : decode cX6_readNumber 101 = .ok (.iconst 1, 1) := by decide +kernel
theorem dX6_readNumber_102 : decode cX6_readNumber 102 = .ok (.aload_n 0, 1) := by decide +kernel
theorem dX6_readNumber_103 : decode cX6_readNumber 103 = .ok (.getfield 109, 3) := by decide +kernel
theorem dX6_readNumber_106 : decode cX6_readNumber 106 = .ok (.invokevirtual 62, 3) := by decide +kernel
theorem dX6_readNumber_109 : decode cX6_readNumber 109 = .ok (.goto 28, 3) := by decide +kernel
theorem dX6_readNumber_112 : decode cX6_readNumber 112 = .ok (.iload 4, 2) := by decide +kernel
theorem dX6_readNumber_114 : decode cX6_readNumber 114 = .ok (.iconst 4, 1) := by decide +kernel
theorem dX6_readNumber_115 : decode cX6_readNumber 115 = .ok (.if_icmp .gt 13, 3) := by decide +kernel
theorem dX6_readNumber_118 : decode cX6_readNumber 118 = .ok (.iload_n 3, 1) := by decide +kernel
theorem dX6_readNumber_119 : decode cX6_readNumber 119 = .ok (.iload_n 1, 1) := by decide +kernel
theorem dX6_readNumber_120 : decode cX6_readNumber 120 = .ok (.if_icmp .lt 8, 3) := by decide +kernel
theorem dX6_readNumber_123 : decode cX6_readNumber 123 = .ok (.iload_n 3, 1) := by decide +kernel
theorem dX6_readNumber_124 : decode cX6_readNumber 124 = .ok (.iload_n 2, 1) := by decide +kernel
theorem dX6_readNumber_125 : decode cX6_readNumber 125 = .ok (.if_icmp .le 12, 3) := by decide +kernel
theorem dX6_readNumber_128 : decode cX6_readNumber 128 = .ok (.aload_n 0, 1) := by decide +kernel
theorem dX6_readNumber_129 : decode cX6_readNumber 129 = .ok (.iconst 2, 1) := by decide +kernel
theorem dX6_readNumber_130 : decode cX6_readNumber 130 = .ok (.aload_n 0, 1) := by decide +kernel
theorem dX6_readNumber_131 : decode cX6_readNumber 131 = .ok (.getfield 109, 3) := by decide +kernel
theorem dX6_readNumber_134 : decode cX6_readNumber 134 = .ok (.invokevirtual 62, 3) := by decide +kernel
theorem dX6_readNumber_137 : decode cX6_readNumber 137 = .ok (.iload_n 3, 1) := by decide +kernel
theorem dX6_readNumber_138 : decode cX6_readNumber 138 = .ok (.ireturn, 1) := by decide +kernel
theorem dX6_readEnd_0 : decode cX6_readEnd 0 = .ok (.aload_n 0, 1) := by decide +kernel
theorem dX6_readEnd_1 : decode cX6_readEnd 1 = .ok (.invokevirtual 37, 3) := by decide +kernel
theorem dX6_readEnd_4 : decode cX6_readEnd 4 = .ok (.aload_n 0, 1) := by decide +kernel
theorem dX6_readEnd_5 : decode cX6_readEnd 5 = .ok (.invokevirtual 51, 3) := by decide +kernel
theorem dX6_readEnd_8 : decode cX6_readEnd 8 = .ok (.bipush 59, 2) := by decide +kernel
theorem dX6_readEnd_10 : decode cX6_readEnd 10 = .ok (.if_icmp .eq 12, 3) := by decide +kernel
theorem dX6_readEnd_13 : decode cX6_readEnd 13 = .ok (.aload_n 0, 1) := by decide +kernel
theorem dX6_readEnd_14 : decode cX6_readEnd 14 = .ok (.iconst 1, 1) := by decide +kernel
theorem dX6_readEnd_15 : decode cX6_readEnd 15 = .ok (.aload_n 0, 1) := by decide +kernel
theorem dX6_readEnd_16 : decode cX6_readEnd 16 = .ok (.getfield 31, 3) := by decide +kernel
theorem dX6_readEnd_19 : decode cX6_readEnd 19 = .ok (.invokevirtual 62, 3) := by decide +kernel
theorem dX6_readEnd_22 : decode cX6_readEnd 22 = .ok (.aload_n 0, 1) := by decide +kernel
theorem dX6_readEnd_23 : decode cX6_readEnd 23 = .ok (.dup, 1) := by decide +kernel
theorem dX6_readEnd_24 : decode cX6_readEnd 24 = .ok (.getfield 31, 3) := by decide +kernel
theorem dX6_readEnd_27 : decode cX6_readEnd 27 = .ok (.iconst 1, 1) := by decide +kernel
theorem dX6_readEnd_28 : decode cX6_readEnd 28 = .ok (.iadd, 1) := by decide +kernel
theorem dX6_readEnd_29 : decode cX6_readEnd 29 = .ok (.putfield 31, 3) := by decide +kernel
theorem dX6_readEnd_32 : decode cX6_readEnd 32 = .ok (.aload_n 0, 1) := by decide +kernel
theorem dX6_readEnd_33 : decode cX6_readEnd 33 = .ok (.invokevirtual 37, 3) := by decide +kernel
theorem dX6_readEnd_36 : decode cX6_readEnd 36 = .ok (.return_, 1) := by decide +kernel
theorem dX6_skipBlanks_0 : decode cX6_skipBlanks 0 = .ok (.aload_n 0, 1) := by decide +kernel
theorem dX6_skipBlanks_1 : decode cX6_skipBlanks 1 = .ok (.getfield 31, 3) := by decide +kernel
theorem dX6_skipBlanks_4 : decode cX6_skipBlanks 4 = .ok (.aload_n 0, 1) := by decide +kernel
theorem dX6_skipBlanks_5 : decode cX6_skipBlanks 5 = .ok (.getfield 19, 3) := by decide +kernel
theorem dX6_skipBlanks_8 : decode cX6_skipBlanks 8 = .ok (.if_icmp .ge 25, 3) := by decide +kernel
theorem dX6_skipBlanks_11 : decode cX6_skipBlanks 11 = .ok (.aload_n 0, 1) := by decide +kernel
theorem dX6_skipBlanks_12 : decode cX6_skipBlanks 12 = .ok (.invokevirtual 51, 3) := by decide +kernel
theorem dX6_skipBlanks_15 : decode cX6_skipBlanks 15 = .ok (.bipush 32, 2) := by decide +kernel
theorem dX6_skipBlanks_17 : decode cX6_skipBlanks 17 = .ok (.if_icmp .ne 16, 3) := by decide +kernel
theorem dX6_skipBlanks_20 : decode cX6_skipBlanks 20 = .ok (.aload_n 0, 1) := by decide +kernel
theorem dX6_skipBlanks_21 : decode cX6_skipBlanks 21 = .ok (.dup, 1) := by decide +kernel
theorem dX6_skipBlanks_22 : decode cX6_skipBlanks 22 = .ok (.getfield 31, 3) := by decide +kernel
theorem dX6_skipBlanks_25 : decode cX6_skipBlanks 25 = .ok (.iconst 1, 1) := by decide +kernel
theorem dX6_skipBlanks_26 : decode cX6_skipBlanks 26 = .ok (.iadd, 1) := by decide +kernel
theorem dX6_skipBlanks_27 : decode cX6_skipBlanks 27 = .ok (.putfield 31, 3) := by decide +kernel
theorem dX6_skipBlanks_30 : decode cX6_skipBlanks 30 = .ok (.goto (-30), 3) := by decide +kernel
theorem dX6_skipBlanks_33 : decode cX6_skipBlanks 33 = .ok (.return_, 1) := by decide +kernel
theorem dX6_isFigure_0 : decode cX6_isFigure 0 = .ok (.iload_n 1, 1) := by decide +kernel
theorem dX6_isFigure_1 : decode cX6_isFigure 1 = .ok (.bipush 48, 2) := by decide +kernel
theorem dX6_isFigure_3 : decode cX6_isFigure 3 = .ok (.if_icmp .lt 13, 3) := by decide +kernel
theorem dX6_isFigure_6 : decode cX6_isFigure 6 = .ok (.iload_n 1, 1) := by decide +kernel
theorem dX6_isFigure_7 : decode cX6_isFigure 7 = .ok (.bipush 57, 2) := by decide +kernel
theorem dX6_isFigure_9 : decode cX6_isFigure 9 = .ok (.if_icmp .gt 7, 3) := by decide +kernel
theorem dX6_isFigure_12 : decode cX6_isFigure 12 = .ok (.iconst 1, 1) := by decide +kernel
theorem dX6_isFigure_13 : decode cX6_isFigure 13 = .ok (.goto 4, 3) := by decide +kernel
theorem dX6_isFigure_16 : decode cX6_isFigure 16 = .ok (.iconst 0, 1) := by decide +kernel
theorem dX6_isFigure_17 : decode cX6_isFigure 17 = .ok (.ireturn, 1) := by decide +kernel
theorem dX6_here_0 : decode cX6_here 0 = .ok (.aload_n 0, 1) := by decide +kernel
theorem dX6_here_1 : decode cX6_here 1 = .ok (.getfield 31, 3) := by decide +kernel
theorem dX6_here_4 : decode cX6_here 4 = .ok (.ifCond .lt 38, 3) := by decide +kernel
theorem dX6_here_7 : decode cX6_here 7 = .ok (.aload_n 0, 1) := by decide +kernel
theorem dX6_here_8 : decode cX6_here 8 = .ok (.getfield 31, 3) := by decide +kernel
theorem dX6_here_11 : decode cX6_here 11 = .ok (.aload_n 0, 1) := by decide +kernel
theorem dX6_here_12 : decode cX6_here 12 = .ok (.getfield 19, 3) := by decide +kernel
theorem dX6_here_15 : decode cX6_here 15 = .ok (.if_icmp .ge 27, 3) := by decide +kernel
theorem dX6_here_18 : decode cX6_here 18 = .ok (.aload_n 0, 1) := by decide +kernel
theorem dX6_here_19 : decode cX6_here 19 = .ok (.getfield 31, 3) := by decide +kernel
theorem dX6_here_22 : decode cX6_here 22 = .ok (.aload_n 0, 1) := by decide +kernel
theorem dX6_here_23 : decode cX6_here 23 = .ok (.getfield 9, 3) := by decide +kernel
theorem dX6_here_26 : decode cX6_here 26 = .ok (.arraylength, 1) := by decide +kernel
theorem dX6_here_27 : decode cX6_here 27 = .ok (.if_icmp .ge 15, 3) := by decide +kernel
theorem dX6_here_30 : decode cX6_here 30 = .ok (.aload_n 0, 1) := by decide +kernel
theorem dX6_here_31 : decode cX6_here 31 = .ok (.getfield 9, 3) := by decide +kernel
theorem dX6_here_34 : decode cX6_here 34 = .ok (.aload_n 0, 1) := by decide +kernel
theorem dX6_here_35 : decode cX6_here 35 = .ok (.getfield 31, 3) := by decide +kernel
theorem dX6_here_38 : decode cX6_here 38 = .ok (.iaload, 1) := by decide +kernel
theorem dX6_here_39 : decode cX6_here 39 = .ok (.goto 4, 3) := by decide +kernel
theorem dX6_here_42 : decode cX6_here 42 = .ok (.iconst (-1), 1) := by decide +kernel
theorem dX6_here_43 : decode cX6_here 43 = .ok (.ireturn, 1) := by decide +kernel
theorem dX6_mark_0 : decode cX6_mark 0 = .ok (.aload_n 0, 1) := by decide +kernel
theorem dX6_mark_1 : decode cX6_mark 1 = .ok (.getfield 34, 3) := by decide +kernel
theorem dX6_mark_4 : decode cX6_mark 4 = .ok (.ifCond .ne 13, 3) := by decide +kernel
theorem dX6_mark_7 : decode cX6_mark 7 = .ok (.aload_n 0, 1) := by decide +kernel
theorem dX6_mark_8 : decode cX6_mark 8 = .ok (.iload_n 1, 1) := by decide +kernel
theorem dX6_mark_9 : decode cX6_mark 9 = .ok (.putfield 34, 3) := by decide +kernel
theorem dX6_mark_12 : decode cX6_mark 12 = .ok (.aload_n 0, 1) := by decide +kernel
theorem dX6_mark_13 : decode cX6_mark 13 = .ok (.iload_n 2, 1) := by decide +kernel
theorem dX6_mark_14 : decode cX6_mark 14 = .ok (.putfield 15, 3) := by decide +kernel
theorem dX6_mark_17 : decode cX6_mark 17 = .ok (.return_, 1) := by decide +kernel
theorem dX7_init_0 : decode cX7_init 0 = .ok (.aload_n 0, 1) := by decide +kernel
theorem dX7_init_1 : decode cX7_init 1 = .ok (.invokespecial 3, 3) := by decide +kernel
theorem dX7_init_4 : decode cX7_init 4 = .ok (.aload_n 0, 1) := by decide +kernel
theorem dX7_init_5 : decode cX7_init 5 = .ok (.bipush 7, 2) := by decide +kernel
theorem dX7_init_7 : decode cX7_init 7 = .ok (.newarray .int, 2) := by decide +kernel
theorem dX7_init_9 : decode cX7_init 9 = .ok (.putfield 9, 3) := by decide +kernel
theorem dX7_init_12 : decode cX7_init 12 = .ok (.aload_n 0, 1) := by decide +kernel
theorem dX7_init_13 : decode cX7_init 13 = .ok (.bipush 7, 2) := by decide +kernel
theorem dX7_init_15 : decode cX7_init 15 = .ok (.newarray .int, 2) := by decide +kernel
theorem dX7_init_17 : decode cX7_init 17 = .ok (.putfield 15, 3) := by decide +kernel
theorem dX7_init_20 : decode cX7_init 20 = .ok (.aload_n 0, 1) := by decide +kernel
theorem dX7_init_21 : decode cX7_init 21 = .ok (.bipush 64, 2) := by decide +kernel
theorem dX7_init_23 : decode cX7_init 23 = .ok (.newarray .int, 2) := by decide +kernel
theorem dX7_init_25 : decode cX7_init 25 = .ok (.putfield 18, 3) := by decide +kernel
theorem dX7_init_28 : decode cX7_init 28 = .ok (.aload_n 0, 1) := by decide +kernel
theorem dX7_init_29 : decode cX7_init 29 = .ok (.sipush 1024, 3) := by decide +kernel
theorem dX7_init_32 : decode cX7_init 32 = .ok (.newarray .int, 2) := by decide +kernel
theorem dX7_init_34 : decode cX7_init 34 = .ok (.putfield 21, 3) := by decide +kernel
theorem dX7_init_37 : decode cX7_init 37 = .ok (.return_, 1) := by decide +kernel
theorem dX7_measure_0 : decode cX7_measure 0 = .ok (.aload_n 0, 1) := by decide +kernel
theorem dX7_measure_1 : decode cX7_measure 1 = .ok (.aload_n 1, 1) := by decide +kernel
theorem dX7_measure_2 : decode cX7_measure 2 = .ok (.aload_n 2, 1) := by decide +kernel
theorem dX7_measure_3 : decode cX7_measure 3 = .ok (.aload_n 2, 1) := by decide +kernel
theorem dX7_measure_4 : decode cX7_measure 4 = .ok (.getfield 24, 3) := by decide +kernel
theorem dX7_measure_7 : decode cX7_measure 7 = .ok (.invokevirtual 30, 3) := by decide +kernel
theorem dX7_measure_10 : decode cX7_measure 10 = .ok (.aload_n 0, 1) := by decide +kernel
theorem dX7_measure_11 : decode cX7_measure 11 = .ok (.getfield 9, 3) := by decide +kernel
theorem dX7_measure_14 : decode cX7_measure 14 = .ok (.aload_n 0, 1) := by decide +kernel
theorem dX7_measure_15 : decode cX7_measure 15 = .ok (.getfield 15, 3) := by decide +kernel
theorem dX7_measure_18 : decode cX7_measure 18 = .ok (.invokestatic 34, 3) := by decide +kernel
theorem dX7_measure_21 : decode cX7_measure 21 = .ok (.aload_n 0, 1) := by decide +kernel
theorem dX7_measure_22 : decode cX7_measure 22 = .ok (.iconst 0, 1) := by decide +kernel
theorem dX7_measure_23 : decode cX7_measure 23 = .ok (.putfield 38, 3) := by decide +kernel
theorem dX7_measure_26 : decode cX7_measure 26 = .ok (.iconst 0, 1) := by decide +kernel
theorem dX7_measure_27 : decode cX7_measure 27 = .ok (.istore_n 3, 1) := by decide +kernel
theorem dX7_measure_28 : decode cX7_measure 28 = .ok (.iload_n 3, 1) := by decide +kernel
theorem dX7_measure_29 : decode cX7_measure 29 = .ok (.aload_n 1, 1) := by decide +kernel
theorem dX7_measure_30 : decode cX7_measure 30 = .ok (.getfield 41, 3) := by decide +kernel
theorem dX7_measure_33 : decode cX7_measure 33 = .ok (.if_icmp .ge 38, 3) := by decide +kernel
theorem dX7_measure_36 : decode cX7_measure 36 = .ok (.aload_n 0, 1) := by decide +kernel
theorem dX7_measure_37 : decode cX7_measure 37 = .ok (.aload_n 1, 1) := by decide +kernel
theorem dX7_measure_38 : decode cX7_measure 38 = .ok (.getfield 46, 3) := by decide +kernel
theorem dX7_measure_41 : decode cX7_measure 41 = .ok (.iload_n 3, 1) := by decide +kernel
theorem dX7_measure_42 : decode cX7_measure 42 = .ok (.invokestatic 49, 3) := by decide +kernel
theorem dX7_measure_45 : decode cX7_measure 45 = .ok (.invokevirtual 53, 3) := by decide +kernel
theorem dX7_measure_48 : decode cX7_measure 48 = .ok (.iconst (-1), 1) := by decide +kernel
theorem dX7_measure_49 : decode cX7_measure 49 = .ok (.if_icmp .eq 16, 3) := by decide +kernel
theorem dX7_measure_52 : decode cX7_measure 52 = .ok (.aload_n 0, 1) := by decide +kernel
theorem dX7_measure_53 : decode cX7_measure 53 = .ok (.aload_n 0, 1) := by decide +kernel
theorem dX7_measure_54 : decode cX7_measure 54 = .ok (.getfield 38, 3) := by decide +kernel
theorem dX7_measure_57 : decode cX7_measure 57 = .ok (.iload_n 3, 1) := by decide +kernel
theorem dX7_measure_58 : decode cX7_measure 58 = .ok (.iconst 1, 1) := by decide +kernel
theorem dX7_measure_59 : decode cX7_measure 59 = .ok (.invokestatic 57, 3) := by decide +kernel
theorem dX7_measure_62 : decode cX7_measure 62 = .ok (.putfield 38, 3) := by decide +kernel
theorem dX7_measure_65 : decode cX7_measure 65 = .ok (.iinc 3 1, 3) := by decide +kernel
theorem dX7_measure_68 : decode cX7_measure 68 = .ok (.goto (-40), 3) := by decide +kernel
theorem dX7_measure_71 : decode cX7_measure 71 = .ok (.return_, 1) := by decide +kernel
theorem dX7_fromHere_0 : decode cX7_fromHere 0 = .ok (.aload_n 0, 1) := by decide +kernel
theorem dX7_fromHere_1 : decode cX7_fromHere 1 = .ok (.getfield 15, 3) := by decide +kernel
theorem dX7_fromHere_4 : decode cX7_fromHere 4 = .ok (.iload_n 1, 1) := by decide +kernel
theorem dX7_fromHere_5 : decode cX7_fromHere 5 = .ok (.invokestatic 49, 3) := by decide +kernel
theorem dX7_fromHere_8 : decode cX7_fromHere 8 = .ok (.ireturn, 1) := by decide +kernel
theorem dX7_measureFrom_0 : decode cX7_measureFrom 0 = .ok (.aload_n 0, 1) := by decide +kernel
theorem dX7_measureFrom_1 : decode cX7_measureFrom 1 = .ok (.getfield 9, 3) := by decide +kernel
theorem dX7_measureFrom_4 : decode cX7_measureFrom 4 = .ok (.iconst (-1), 1) := by decide +kernel
theorem dX7_measureFrom_5 : decode cX7_measureFrom 5 = .ok (.invokestatic 61, 3) := by decide +kernel
theorem dX7_measureFrom_8 : decode cX7_measureFrom 8 = .ok (.iconst 0, 1) := by decide +kernel
theorem dX7_measureFrom_9 : decode cX7_measureFrom 9 = .ok (.iload_n 3, 1) := by decide +kernel
theorem dX7_measureFrom_10 : decode cX7_measureFrom 10 = .ok (.iconst 1, 1) := by decide +kernel
theorem dX7_measureFrom_11 : decode cX7_measureFrom 11 = .ok (.invokestatic 57, 3) := by decide +kernel
theorem dX7_measureFrom_14 : decode cX7_measureFrom 14 = .ok (.istore 4, 2) := by decide +kernel
theorem dX7_measureFrom_16 : decode cX7_measureFrom 16 = .ok (.iconst 0, 1) := by decide +kernel
theorem dX7_measureFrom_17 : decode cX7_measureFrom 17 = .ok (.istore 5, 2) := by decide +kernel
theorem dX7_measureFrom_19 : decode cX7_measureFrom 19 = .ok (.iconst 0, 1) := by decide +kernel
theorem dX7_measureFrom_20 : decode cX7_measureFrom 20 = .ok (.istore 6, 2) := by decide +kernel
theorem dX7_measureFrom_22 : decode cX7_measureFrom 22 = .ok (.iload 6, 2) := by decide +kernel
theorem dX7_measureFrom_24 : decode cX7_measureFrom 24 = .ok (.aload_n 1, 1) := by decide +kernel
theorem dX7_measureFrom_25 : decode cX7_measureFrom 25 = .ok (.getfield 65, 3) := by decide +kernel
theorem dX7_measureFrom_28 : decode cX7_measureFrom 28 = .ok (.if_icmp .ge 79, 3) := by decide +kernel
theorem dX7_measureFrom_31 : decode cX7_measureFrom 31 = .ok (.iload 5, 2) := by decide +kernel
theorem dX7_measureFrom_33 : decode cX7_measureFrom 33 = .ok (.iload 4, 2) := by decide +kernel
theorem dX7_measureFrom_35 : decode cX7_measureFrom 35 = .ok (.ior, 1) := by decide +kernel
theorem dX7_measureFrom_36 : decode cX7_measureFrom 36 = .ok (.istore 5, 2) := by decide +kernel
theorem dX7_measureFrom_38 : decode cX7_measureFrom 38 = .ok (.iconst 0, 1) := by decide +kernel
theorem dX7_measureFrom_39 : decode cX7_measureFrom 39 = .ok (.istore 7, 2) := by decide +kernel
theorem dX7_measureFrom_41 : decode cX7_measureFrom 41 = .ok (.iconst 0, 1) := by decide +kernel
theorem dX7_measureFrom_42 : decode cX7_measureFrom 42 = .ok (.istore 8, 2) := by decide +kernel
theorem dX7_measureFrom_44 : decode cX7_measureFrom 44 = .ok (.iload 8, 2) := by decide +kernel
theorem dX7_measureFrom_46 : decode cX7_measureFrom 46 = .ok (.aload_n 1, 1) := by decide +kernel
theorem dX7_measureFrom_47 : decode cX7_measureFrom 47 = .ok (.getfield 65, 3) := by decide +kernel
theorem dX7_measureFrom_50 : decode cX7_measureFrom 50 = .ok (.if_icmp .ge 42, 3) := by decide +kernel
theorem dX7_measureFrom_53 : decode cX7_measureFrom 53 = .ok (.iload 4, 2) := by decide +kernel
theorem dX7_measureFrom_55 : decode cX7_measureFrom 55 = .ok (.iload 8, 2) := by decide +kernel
theorem dX7_measureFrom_57 : decode cX7_measureFrom 57 = .ok (.invokestatic 68, 3) := by decide +kernel
theorem dX7_measureFrom_60 : decode cX7_measureFrom 60 = .ok (.ifCond .eq 26, 3) := by decide +kernel
theorem dX7_measureFrom_63 : decode cX7_measureFrom 63 = .ok (.aload_n 0, 1) := by decide +kernel
theorem dX7_measureFrom_64 : decode cX7_measureFrom 64 = .ok (.getfield 9, 3) := by decide +kernel
theorem dX7_measureFrom_67 : decode cX7_measureFrom 67 = .ok (.iload 8, 2) := by decide +kernel
theorem dX7_measureFrom_69 : decode cX7_measureFrom 69 = .ok (.iload 6, 2) := by decide +kernel
theorem dX7_measureFrom_71 : decode cX7_measureFrom 71 = .ok (.invokestatic 72, 3) := by decide +kernel
theorem dX7_measureFrom_74 : decode cX7_measureFrom 74 = .ok (.iload 7, 2) := by decide +kernel
theorem dX7_measureFrom_76 : decode cX7_measureFrom 76 = .ok (.aload_n 2, 1) := by decide +kernel
theorem dX7_measureFrom_77 : decode cX7_measureFrom 77 = .ok (.aload_n 1, 1) := by decide +kernel
theorem dX7_measureFrom_78 : decode cX7_measureFrom 78 = .ok (.iload 8, 2) := by decide +kernel
theorem dX7_measureFrom_80 : decode cX7_measureFrom 80 = .ok (.invokevirtual 76, 3) := by decide +kernel
theorem dX7_measureFrom_83 : decode cX7_measureFrom 83 = .ok (.ior, 1) := by decide +kernel
theorem dX7_measureFrom_84 : decode cX7_measureFrom 84 = .ok (.istore 7, 2) := by decide +kernel
theorem dX7_measureFrom_86 : decode cX7_measureFrom 86 = .ok (.iinc 8 1, 3) := by decide +kernel
theorem dX7_measureFrom_89 : decode cX7_measureFrom 89 = .ok (.goto (-45), 3) := by decide +kernel
theorem dX7_measureFrom_92 : decode cX7_measureFrom 92 = .ok (.iload 7, 2) := by decide +kernel
theorem dX7_measureFrom_94 : decode cX7_measureFrom 94 = .ok (.iload 5, 2) := by decide +kernel
theorem dX7_measureFrom_96 : decode cX7_measureFrom 96 = .ok (.iconst (-1), 1) := by decide +kernel
theorem dX7_measureFrom_97 : decode cX7_measureFrom 97 = .ok (.ixor, 1) := by decide +kernel
theorem dX7_measureFrom_98 : decode cX7_measureFrom 98 = .ok (.iand, 1) := by decide +kernel
theorem dX7_measureFrom_99 : decode cX7_measureFrom 99 = .ok (.istore 4, 2) := by decide +kernel
theorem dX7_measureFrom_101 : decode cX7_measureFrom 101 = .ok (.iinc 6 1, 3) := by decide +kernel
theorem dX7_measureFrom_104 : decode cX7_measureFrom 104 = .ok (.goto (-82), 3) := by decide +kernel
theorem dX7_measureFrom_107 : decode cX7_measureFrom 107 = .ok (.return_, 1) := by decide +kernel
theorem dX7_canGreet_0 : decode cX7_canGreet 0 = .ok (.aload_n 0, 1) := by decide +kernel
theorem dX7_canGreet_1 : decode cX7_canGreet 1 = .ok (.getfield 38, 3) := by decide +kernel
theorem dX7_canGreet_4 : decode cX7_canGreet 4 = .ok (.iload_n 2, 1) := by decide +kernel
theorem dX7_canGreet_5 : decode cX7_canGreet 5 = .ok (.invokestatic 68, 3) := by decide +kernel
theorem dX7_canGreet_8 : decode cX7_canGreet 8 = .ok (.ifCond .eq 36, 3) := by decide +kernel
theorem dX7_canGreet_11 : decode cX7_canGreet 11 = .ok (.aload_n 1, 1) := by decide +kernel
theorem dX7_canGreet_12 : decode cX7_canGreet 12 = .ok (.getfield 80, 3) := by decide +kernel
theorem dX7_canGreet_15 : decode cX7_canGreet 15 = .ok (.aload_n 1, 1) := by decide +kernel
theorem dX7_canGreet_16 : decode cX7_canGreet 16 = .ok (.getfield 83, 3) := by decide +kernel
theorem dX7_canGreet_19 : decode cX7_canGreet 19 = .ok (.iload_n 2, 1) := by decide +kernel
theorem dX7_canGreet_20 : decode cX7_canGreet 20 = .ok (.invokestatic 49, 3) := by decide +kernel
theorem dX7_canGreet_23 : decode cX7_canGreet 23 = .ok (.invokestatic 68, 3) := by decide +kernel
theorem dX7_canGreet_26 : decode cX7_canGreet 26 = .ok (.ifCond .eq 18, 3) := by decide +kernel
theorem dX7_canGreet_29 : decode cX7_canGreet 29 = .ok (.aload_n 1, 1) := by decide +kernel
theorem dX7_canGreet_30 : decode cX7_canGreet 30 = .ok (.getfield 86, 3) := by decide +kernel
theorem dX7_canGreet_33 : decode cX7_canGreet 33 = .ok (.iload_n 2, 1) := by decide +kernel
theorem dX7_canGreet_34 : decode cX7_canGreet 34 = .ok (.invokestatic 68, 3) := by decide +kernel
theorem dX7_canGreet_37 : decode cX7_canGreet 37 = .ok (.ifCond .ne 7, 3) := by decide +kernel
theorem dX7_canGreet_40 : decode cX7_canGreet 40 = .ok (.iconst 1, 1) := by decide +kernel
theorem dX7_canGreet_41 : decode cX7_canGreet 41 = .ok (.goto 4, 3) := by decide +kernel
theorem dX7_canGreet_44 : decode cX7_canGreet 44 = .ok (.iconst 0, 1) := by decide +kernel
theorem dX7_canGreet_45 : decode cX7_canGreet 45 = .ok (.ireturn, 1) := by decide +kernel
theorem dX7_plan_0 : decode cX7_plan 0 = .ok (.aload_n 0, 1) := by decide +kernel
theorem dX7_plan_1 : decode cX7_plan 1 = .ok (.aload_n 1, 1) := by decide +kernel
theorem dX7_plan_2 : decode cX7_plan 2 = .ok (.aload_n 2, 1) := by decide +kernel
theorem dX7_plan_3 : decode cX7_plan 3 = .ok (.invokevirtual 89, 3) := by decide +kernel
theorem dX7_plan_6 : decode cX7_plan 6 = .ok (.aload_n 0, 1) := by decide +kernel
theorem dX7_plan_7 : decode cX7_plan 7 = .ok (.iload_n 3, 1) := by decide +kernel
theorem dX7_plan_8 : decode cX7_plan 8 = .ok (.putfield 93, 3) := by decide +kernel
theorem dX7_plan_11 : decode cX7_plan 11 = .ok (.aload_n 0, 1) := by decide +kernel
theorem dX7_plan_12 : decode cX7_plan 12 = .ok (.aload_n 2, 1) := by decide +kernel
theorem dX7_plan_13 : decode cX7_plan 13 = .ok (.getfield 96, 3) := by decide +kernel
theorem dX7_plan_16 : decode cX7_plan 16 = .ok (.putfield 99, 3) := by decide +kernel
theorem dX7_plan_19 : decode cX7_plan 19 = .ok (.iconst 0, 1) := by decide +kernel
theorem dX7_plan_20 : decode cX7_plan 20 = .ok (.istore 4, 2) := by decide +kernel
theorem dX7_plan_22 : decode cX7_plan 22 = .ok (.iload 4, 2) := by decide +kernel
theorem dX7_plan_24 : decode cX7_plan 24 = .ok (.aload_n 1, 1) := by decide +kernel
theorem dX7_plan_25 : decode cX7_plan 25 = .ok (.getfield 41, 3) := by decide +kernel
theorem dX7_plan_28 : decode cX7_plan 28 = .ok (.if_icmp .ge 30, 3) := by decide +kernel
theorem dX7_plan_31 : decode cX7_plan 31 = .ok (.iload_n 3, 1) := by decide +kernel
theorem dX7_plan_32 : decode cX7_plan 32 = .ok (.iload 4, 2) := by decide +kernel
theorem dX7_plan_34 : decode cX7_plan 34 = .ok (.invokestatic 68, 3) := by decide +kernel
theorem dX7_plan_37 : decode cX7_plan 37 = .ok (.ifCond .eq 15, 3) := by decide +kernel
theorem dX7_plan_40 : decode cX7_plan 40 = .ok (.aload_n 0, 1) := by decide +kernel
theorem dX7_plan_41 : decode cX7_plan 41 = .ok (.aload_n 2, 1) := by decide +kernel
theorem dX7_plan_42 : decode cX7_plan 42 = .ok (.iload 4, 2) := by decide +kernel
theorem dX7_plan_44 : decode cX7_plan 44 = .ok (.invokevirtual 100, 3) := by decide +kernel
theorem dX7_plan_47 : decode cX7_plan 47 = .ok (.ifCond .ne 5, 3) := by decide +kernel
theorem dX7_plan_50 : decode cX7_plan 50 = .ok (.iconst 0, 1) := by decide +kernel
theorem dX7_plan_51 : decode cX7_plan 51 = .ok (.ireturn, 1) := by decide +kernel
theorem dX7_plan_52 : decode cX7_plan 52 = .ok (.iinc 4 1, 3) := by decide +kernel
theorem dX7_plan_55 : decode cX7_plan 55 = .ok (.goto (-33), 3) := by decide +kernel
theorem dX7_plan_58 : decode cX7_plan 58 = .ok (.aload_n 0, 1) := by decide +kernel
theorem dX7_plan_59 : decode cX7_plan 59 = .ok (.aload_n 1, 1) := by decide +kernel
theorem dX7_plan_60 : decode cX7_plan 60 = .ok (.aload_n 2, 1) := by decide +kernel
theorem dX7_plan_61 : decode cX7_plan 61 = .ok (.invokevirtual 104, 3) := by decide +kernel
theorem dX7_plan_64 : decode cX7_plan 64 = .ok (.iconst 1, 1) := by decide +kernel
theorem dX7_plan_65 : decode cX7_plan 65 = .ok (.istore 4, 2) := by decide +kernel
theorem dX7_plan_67 : decode cX7_plan 67 = .ok (.iload 4, 2) := by decide +kernel
theorem dX7_plan_69 : decode cX7_plan 69 = .ok (.iload_n 3, 1) := by decide +kernel
theorem dX7_plan_70 : decode cX7_plan 70 = .ok (.if_icmp .gt 25, 3) := by decide +kernel
theorem dX7_plan_73 : decode cX7_plan 73 = .ok (.iload 4, 2) := by decide +kernel
theorem dX7_plan_75 : decode cX7_plan 75 = .ok (.iload_n 3, 1) := by decide +kernel
theorem dX7_plan_76 : decode cX7_plan 76 = .ok (.iconst (-1), 1) := by decide +kernel
theorem dX7_plan_77 : decode cX7_plan 77 = .ok (.ixor, 1) := by decide +kernel
theorem dX7_plan_78 : decode cX7_plan 78 = .ok (.iand, 1) := by decide +kernel
theorem dX7_plan_79 : decode cX7_plan 79 = .ok (.ifCond .ne 10, 3) := by decide +kernel
theorem dX7_plan_82 : decode cX7_plan 82 = .ok (.aload_n 0, 1) := by decide +kernel
theorem dX7_plan_83 : decode cX7_plan 83 = .ok (.aload_n 1, 1) := by decide +kernel
theorem dX7_plan_84 : decode cX7_plan 84 = .ok (.iload 4, 2) := by decide +kernel
theorem dX7_plan_86 : decode cX7_plan 86 = .ok (.invokevirtual 107, 3) := by decide +kernel
theorem dX7_plan_89 : decode cX7_plan 89 = .ok (.iinc 4 1, 3) := by decide +kernel
theorem dX7_plan_92 : decode cX7_plan 92 = .ok (.goto (-25), 3) := by decide +kernel
theorem dX7_plan_95 : decode cX7_plan 95 = .ok (.aload_n 0, 1) := by decide +kernel
theorem dX7_plan_96 : decode cX7_plan 96 = .ok (.iload_n 3, 1) := by decide +kernel
theorem dX7_plan_97 : decode cX7_plan 97 = .ok (.bipush 7, 2) := by decide +kernel
theorem dX7_plan_99 : decode cX7_plan 99 = .ok (.invokevirtual 111, 3) := by decide +kernel
theorem dX7_plan_102 : decode cX7_plan 102 = .ok (.ldc 115, 2) := by decide +kernel
theorem dX7_plan_104 : decode cX7_plan 104 = .ok (.if_icmp .ge 7, 3) := by decide +kernel
theorem dX7_plan_107 : decode cX7_plan 107 = .ok (.iconst 1, 1) := by decide +kernel
theorem dX7_plan_108 : decode cX7_plan 108 = .ok (.goto 4, 3) := by decide +kernel
theorem dX7_plan_111 : decode cX7_plan 111 = .ok (.iconst 0, 1) := by decide +kernel
theorem dX7_plan_112 : decode cX7_plan 112 = .ok (.ireturn, 1) := by decide +kernel
theorem dX7_measureWays_0 : decode cX7_measureWays 0 = .ok (.iconst 0, 1) := by decide +kernel
theorem dX7_measureWays_1 : decode cX7_measureWays 1 = .ok (.istore_n 3, 1) := by decide +kernel
theorem dX7_measureWays_2 : decode cX7_measureWays 2 = .ok (.iload_n 3, 1) := by decide +kernel
theorem dX7_measureWays_3 : decode cX7_measureWays 3 = .ok (.aload_n 1, 1) := by decide +kernel
theorem dX7_measureWays_4 : decode cX7_measureWays 4 = .ok (.getfield 41, 3) := by decide +kernel
theorem dX7_measureWays_7 : decode cX7_measureWays 7 = .ok (.if_icmp .ge 32, 3) := by decide +kernel
theorem dX7_measureWays_10 : decode cX7_measureWays 10 = .ok (.aload_n 0, 1) := by decide +kernel
theorem dX7_measureWays_11 : decode cX7_measureWays 11 = .ok (.getfield 18, 3) := by decide +kernel
theorem dX7_measureWays_14 : decode cX7_measureWays 14 = .ok (.bipush 56, 2) := by decide +kernel
theorem dX7_measureWays_16 : decode cX7_measureWays 16 = .ok (.iload_n 3, 1) := by decide +kernel
theorem dX7_measureWays_17 : decode cX7_measureWays 17 = .ok (.iadd, 1) := by decide +kernel
theorem dX7_measureWays_18 : decode cX7_measureWays 18 = .ok (.aload_n 0, 1) := by decide +kernel
theorem dX7_measureWays_19 : decode cX7_measureWays 19 = .ok (.aload_n 1, 1) := by decide +kernel
theorem dX7_measureWays_20 : decode cX7_measureWays 20 = .ok (.getfield 46, 3) := by decide +kernel
theorem dX7_measureWays_23 : decode cX7_measureWays 23 = .ok (.iload_n 3, 1) := by decide +kernel
theorem dX7_measureWays_24 : decode cX7_measureWays 24 = .ok (.invokestatic 49, 3) := by decide +kernel
theorem dX7_measureWays_27 : decode cX7_measureWays 27 = .ok (.invokevirtual 53, 3) := by decide +kernel
theorem dX7_measureWays_30 : decode cX7_measureWays 30 = .ok (.invokestatic 72, 3) := by decide +kernel
theorem dX7_measureWays_33 : decode cX7_measureWays 33 = .ok (.iinc 3 1, 3) := by decide +kernel
theorem dX7_measureWays_36 : decode cX7_measureWays 36 = .ok (.goto (-34), 3) := by decide +kernel
theorem dX7_measureWays_39 : decode cX7_measureWays 39 = .ok (.iconst 0, 1) := by decide +kernel
theorem dX7_measureWays_40 : decode cX7_measureWays 40 = .ok (.istore_n 3, 1) := by decide +kernel
theorem dX7_measureWays_41 : decode cX7_measureWays 41 = .ok (.iload_n 3, 1) := by decide +kernel
theorem dX7_measureWays_42 : decode cX7_measureWays 42 = .ok (.aload_n 1, 1) := by decide +kernel
theorem dX7_measureWays_43 : decode cX7_measureWays 43 = .ok (.getfield 41, 3) := by decide +kernel
theorem dX7_measureWays_46 : decode cX7_measureWays 46 = .ok (.if_icmp .ge 82, 3) := by decide +kernel
theorem dX7_measureWays_49 : decode cX7_measureWays 49 = .ok (.aload_n 0, 1) := by decide +kernel
theorem dX7_measureWays_50 : decode cX7_measureWays 50 = .ok (.getfield 93, 3) := by decide +kernel
theorem dX7_measureWays_53 : decode cX7_measureWays 53 = .ok (.iload_n 3, 1) := by decide +kernel
theorem dX7_measureWays_54 : decode cX7_measureWays 54 = .ok (.invokestatic 68, 3) := by decide +kernel
theorem dX7_measureWays_57 : decode cX7_measureWays 57 = .ok (.ifCond .eq 65, 3) := by decide +kernel
theorem dX7_measureWays_60 : decode cX7_measureWays 60 = .ok (.aload_n 0, 1) := by decide +kernel
theorem dX7_measureWays_61 : decode cX7_measureWays 61 = .ok (.aload_n 1, 1) := by decide +kernel
theorem dX7_measureWays_62 : decode cX7_measureWays 62 = .ok (.aload_n 2, 1) := by decide +kernel
theorem dX7_measureWays_63 : decode cX7_measureWays 63 = .ok (.aload_n 1, 1) := by decide +kernel
theorem dX7_measureWays_64 : decode cX7_measureWays 64 = .ok (.getfield 46, 3) := by decide +kernel
theorem dX7_measureWays_67 : decode cX7_measureWays 67 = .ok (.iload_n 3, 1) := by decide +kernel
theorem dX7_measureWays_68 : decode cX7_measureWays 68 = .ok (.invokestatic 49, 3) := by decide +kernel
theorem dX7_measureWays_71 : decode cX7_measureWays 71 = .ok (.invokevirtual 30, 3) := by decide +kernel
theorem dX7_measureWays_74 : decode cX7_measureWays 74 = .ok (.iconst 0, 1) := by decide +kernel
theorem dX7_measureWays_75 : decode cX7_measureWays 75 = .ok (.istore 4, 2) := by decide +kernel
theorem dX7_measureWays_77 : decode cX7_measureWays 77 = .ok (.iload 4, 2) := by decide +kernel
theorem dX7_measureWays_79 : decode cX7_measureWays 79 = .ok (.aload_n 1, 1) := by decide +kernel
theorem dX7_measureWays_80 : decode cX7_measureWays 80 = .ok (.getfield 41, 3) := by decide +kernel
theorem dX7_measureWays_83 : decode cX7_measureWays 83 = .ok (.if_icmp .ge 39, 3) := by decide +kernel
theorem dX7_measureWays_86 : decode cX7_measureWays 86 = .ok (.aload_n 0, 1) := by decide +kernel
theorem dX7_measureWays_87 : decode cX7_measureWays 87 = .ok (.getfield 18, 3) := by decide +kernel
theorem dX7_measureWays_90 : decode cX7_measureWays 90 = .ok (.iload_n 3, 1) := by decide +kernel
theorem dX7_measureWays_91 : decode cX7_measureWays 91 = .ok (.bipush 8, 2) := by decide +kernel
theorem dX7_measureWays_93 : decode cX7_measureWays 93 = .ok (.imul, 1) := by decide +kernel
theorem dX7_measureWays_94 : decode cX7_measureWays 94 = .ok (.iload 4, 2) := by decide +kernel
theorem dX7_measureWays_96 : decode cX7_measureWays 96 = .ok (.iadd, 1) := by decide +kernel
theorem dX7_measureWays_97 : decode cX7_measureWays 97 = .ok (.aload_n 0, 1) := by decide +kernel
theorem dX7_measureWays_98 : decode cX7_measureWays 98 = .ok (.getfield 9, 3) := by decide +kernel
theorem dX7_measureWays_101 : decode cX7_measureWays 101 = .ok (.aload_n 1, 1) := by decide +kernel
theorem dX7_measureWays_102 : decode cX7_measureWays 102 = .ok (.getfield 46, 3) := by decide +kernel
theorem dX7_measureWays_105 : decode cX7_measureWays 105 = .ok (.iload 4, 2) := by decide +kernel
theorem dX7_measureWays_107 : decode cX7_measureWays 107 = .ok (.invokestatic 49, 3) := by decide +kernel
theorem dX7_measureWays_110 : decode cX7_measureWays 110 = .ok (.invokestatic 49, 3) := by decide +kernel
theorem dX7_measureWays_113 : decode cX7_measureWays 113 = .ok (.invokestatic 72, 3) := by decide +kernel
theorem dX7_measureWays_116 : decode cX7_measureWays 116 = .ok (.iinc 4 1, 3) := by decide +kernel
theorem dX7_measureWays_119 : decode cX7_measureWays 119 = .ok (.goto (-42), 3) := by decide +kernel
theorem dX7_measureWays_122 : decode cX7_measureWays 122 = .ok (.iinc 3 1, 3) := by decide +kernel
theorem dX7_measureWays_125 : decode cX7_measureWays 125 = .ok (.goto (-84), 3) := by decide +kernel
theorem dX7_measureWays_128 : decode cX7_measureWays 128 = .ok (.return_, 1) := by decide +kernel
theorem dX7_weigh_0 : decode cX7_weigh 0 = .ok (.iconst 0, 1) := by decide +kernel
theorem dX7_weigh_1 : decode cX7_weigh 1 = .ok (.istore_n 3, 1) := by decide +kernel
theorem dX7_weigh_2 : decode cX7_weigh 2 = .ok (.iload_n 3, 1) := by decide +kernel
theorem dX7_weigh_3 : decode cX7_weigh 3 = .ok (.aload_n 1, 1) := by decide +kernel
theorem dX7_weigh_4 : decode cX7_weigh 4 = .ok (.getfield 41, 3) := by decide +kernel
theorem dX7_weigh_7 : decode cX7_weigh 7 = .ok (.if_icmp .ge 44, 3) := by decide +kernel
theorem dX7_weigh_10 : decode cX7_weigh 10 = .ok (.aload_n 0, 1) := by decide +kernel
theorem dX7_weigh_11 : decode cX7_weigh 11 = .ok (.getfield 93, 3) := by decide +kernel
theorem dX7_weigh_14 : decode cX7_weigh 14 = .ok (.iload_n 2, 1) := by decide +kernel
theorem dX7_weigh_15 : decode cX7_weigh 15 = .ok (.iconst (-1), 1) := by decide +kernel
theorem dX7_weigh_16 : decode cX7_weigh 16 = .ok (.ixor, 1) := by decide +kernel
theorem dX7_weigh_17 : decode cX7_weigh 17 = .ok (.iand, 1) := by decide +kernel
theorem dX7_weigh_18 : decode cX7_weigh 18 = .ok (.iload_n 3, 1) := by decide +kernel
theorem dX7_weigh_19 : decode cX7_weigh 19 = .ok (.invokestatic 68, 3) := by decide +kernel
theorem dX7_weigh_22 : decode cX7_weigh 22 = .ok (.ifCond .eq 23, 3) := by decide +kernel
theorem dX7_weigh_25 : decode cX7_weigh 25 = .ok (.aload_n 0, 1) := by decide +kernel
theorem dX7_weigh_26 : decode cX7_weigh 26 = .ok (.getfield 21, 3) := by decide +kernel
theorem dX7_weigh_29 : decode cX7_weigh 29 = .ok (.iload_n 2, 1) := by decide +kernel
theorem dX7_weigh_30 : decode cX7_weigh 30 = .ok (.bipush 8, 2) := by decide +kernel
theorem dX7_weigh_32 : decode cX7_weigh 32 = .ok (.imul, 1) := by decide +kernel
theorem dX7_weigh_33 : decode cX7_weigh 33 = .ok (.iload_n 3, 1) := by decide +kernel
theorem dX7_weigh_34 : decode cX7_weigh 34 = .ok (.iadd, 1) := by decide +kernel
theorem dX7_weigh_35 : decode cX7_weigh 35 = .ok (.aload_n 0, 1) := by decide +kernel
theorem dX7_weigh_36 : decode cX7_weigh 36 = .ok (.aload_n 1, 1) := by decide +kernel
theorem dX7_weigh_37 : decode cX7_weigh 37 = .ok (.iload_n 2, 1) := by decide +kernel
theorem dX7_weigh_38 : decode cX7_weigh 38 = .ok (.iload_n 3, 1) := by decide +kernel
theorem dX7_weigh_39 : decode cX7_weigh 39 = .ok (.invokevirtual 116, 3) := by decide +kernel
theorem dX7_weigh_42 : decode cX7_weigh 42 = .ok (.invokestatic 72, 3) := by decide +kernel
theorem dX7_weigh_45 : decode cX7_weigh 45 = .ok (.iinc 3 1, 3) := by decide +kernel
theorem dX7_weigh_48 : decode cX7_weigh 48 = .ok (.goto (-46), 3) := by decide +kernel
theorem dX7_weigh_51 : decode cX7_weigh 51 = .ok (.iload_n 2, 1) := by decide +kernel
theorem dX7_weigh_52 : decode cX7_weigh 52 = .ok (.aload_n 0, 1) := by decide +kernel
theorem dX7_weigh_53 : decode cX7_weigh 53 = .ok (.getfield 93, 3) := by decide +kernel
theorem dX7_weigh_56 : decode cX7_weigh 56 = .ok (.if_icmp .ne 25, 3) := by decide +kernel
theorem dX7_weigh_59 : decode cX7_weigh 59 = .ok (.aload_n 0, 1) := by decide +kernel
theorem dX7_weigh_60 : decode cX7_weigh 60 = .ok (.getfield 21, 3) := by decide +kernel
theorem dX7_weigh_63 : decode cX7_weigh 63 = .ok (.iload_n 2, 1) := by decide +kernel
theorem dX7_weigh_64 : decode cX7_weigh 64 = .ok (.bipush 8, 2) := by decide +kernel
theorem dX7_weigh_66 : decode cX7_weigh 66 = .ok (.imul, 1) := by decide +kernel
theorem dX7_weigh_67 : decode cX7_weigh 67 = .ok (.bipush 7, 2) := by decide +kernel
theorem dX7_weigh_69 : decode cX7_weigh 69 = .ok (.iadd, 1) := by decide +kernel
theorem dX7_weigh_70 : decode cX7_weigh 70 = .ok (.aload_n 0, 1) := by decide +kernel
theorem dX7_weigh_71 : decode cX7_weigh 71 = .ok (.aload_n 1, 1) := by decide +kernel
theorem dX7_weigh_72 : decode cX7_weigh 72 = .ok (.iload_n 2, 1) := by decide +kernel
theorem dX7_weigh_73 : decode cX7_weigh 73 = .ok (.bipush 7, 2) := by decide +kernel
theorem dX7_weigh_75 : decode cX7_weigh 75 = .ok (.invokevirtual 116, 3) := by decide +kernel
theorem dX7_weigh_78 : decode cX7_weigh 78 = .ok (.invokestatic 72, 3) := by decide +kernel
theorem dX7_weigh_81 : decode cX7_weigh 81 = .ok (.return_, 1) := by decide +kernel
theorem dX7_weighFrom_0 : decode cX7_weighFrom 0 = .ok (.ldc 115, 2) := by decide +kernel
theorem dX7_weighFrom_2 : decode cX7_weighFrom 2 = .ok (.istore 4, 2) := by decide +kernel
theorem dX7_weighFrom_4 : decode cX7_weighFrom 4 = .ok (.iconst 0, 1) := by decide +kernel
theorem dX7_weighFrom_5 : decode cX7_weighFrom 5 = .ok (.istore 5, 2) := by decide +kernel
theorem dX7_weighFrom_7 : decode cX7_weighFrom 7 = .ok (.iload 5, 2) := by decide +kernel
theorem dX7_weighFrom_9 : decode cX7_weighFrom 9 = .ok (.aload_n 1, 1) := by decide +kernel
theorem dX7_weighFrom_10 : decode cX7_weighFrom 10 = .ok (.getfield 41, 3) := by decide +kernel
theorem dX7_weighFrom_13 : decode cX7_weighFrom 13 = .ok (.if_icmp .ge 25, 3) := by decide +kernel
theorem dX7_weighFrom_16 : decode cX7_weighFrom 16 = .ok (.iload 4, 2) := by decide +kernel
theorem dX7_weighFrom_18 : decode cX7_weighFrom 18 = .ok (.aload_n 0, 1) := by decide +kernel
theorem dX7_weighFrom_19 : decode cX7_weighFrom 19 = .ok (.aload_n 1, 1) := by decide +kernel
theorem dX7_weighFrom_20 : decode cX7_weighFrom 20 = .ok (.iload_n 2, 1) := by decide +kernel
theorem dX7_weighFrom_21 : decode cX7_weighFrom 21 = .ok (.iload_n 3, 1) := by decide +kernel
theorem dX7_weighFrom_22 : decode cX7_weighFrom 22 = .ok (.iload 5, 2) := by decide +kernel
theorem dX7_weighFrom_24 : decode cX7_weighFrom 24 = .ok (.invokevirtual 120, 3) := by decide +kernel
theorem dX7_weighFrom_27 : decode cX7_weighFrom 27 = .ok (.invokestatic 124, 3) := by decide +kernel
theorem dX7_weighFrom_30 : decode cX7_weighFrom 30 = .ok (.istore 4, 2) := by decide +kernel
theorem dX7_weighFrom_32 : decode cX7_weighFrom 32 = .ok (.iinc 5 1, 3) := by decide +kernel
theorem dX7_weighFrom_35 : decode cX7_weighFrom 35 = .ok (.goto (-28), 3) := by decide +kernel
theorem dX7_weighFrom_38 : decode cX7_weighFrom 38 = .ok (.iload 4, 2) := by decide +kernel
theorem dX7_weighFrom_40 : decode cX7_weighFrom 40 = .ok (.ireturn, 1) := by decide +kernel
theorem dX7_stepsBy_0 : decode cX7_stepsBy 0 = .ok (.iload_n 2, 1) := by decide +kernel
theorem dX7_stepsBy_1 : decode cX7_stepsBy 1 = .ok (.iload 4, 2) := by decide +kernel
theorem dX7_stepsBy_3 : decode cX7_stepsBy 3 = .ok (.invokestatic 68, 3) := by decide +kernel
theorem dX7_stepsBy_6 : decode cX7_stepsBy 6 = .ok (.ifCond .ne 6, 3) := by decide +kernel
theorem dX7_stepsBy_9 : decode cX7_stepsBy 9 = .ok (.ldc 115, 2) := by decide +kernel
theorem dX7_stepsBy_11 : decode cX7_stepsBy 11 = .ok (.ireturn, 1) := by decide +kernel
theorem dX7_stepsBy_12 : decode cX7_stepsBy 12 = .ok (.aload_n 1, 1) := by decide +kernel
theorem dX7_stepsBy_13 : decode cX7_stepsBy 13 = .ok (.iload 4, 2) := by decide +kernel
theorem dX7_stepsBy_15 : decode cX7_stepsBy 15 = .ok (.invokevirtual 129, 3) := by decide +kernel
theorem dX7_stepsBy_18 : decode cX7_stepsBy 18 = .ok (.istore 5, 2) := by decide +kernel
theorem dX7_stepsBy_20 : decode cX7_stepsBy 20 = .ok (.aload_n 0, 1) := by decide +kernel
theorem dX7_stepsBy_21 : decode cX7_stepsBy 21 = .ok (.getfield 99, 3) := by decide +kernel
theorem dX7_stepsBy_24 : decode cX7_stepsBy 24 = .ok (.aload_n 0, 1) := by decide +kernel
theorem dX7_stepsBy_25 : decode cX7_stepsBy 25 = .ok (.getfield 93, 3) := by decide +kernel
theorem dX7_stepsBy_28 : decode cX7_stepsBy 28 = .ok (.iload_n 2, 1) := by decide +kernel
theorem dX7_stepsBy_29 : decode cX7_stepsBy 29 = .ok (.iconst (-1), 1) := by decide +kernel
theorem dX7_stepsBy_30 : decode cX7_stepsBy 30 = .ok (.ixor, 1) := by decide +kernel
theorem dX7_stepsBy_31 : decode cX7_stepsBy 31 = .ok (.iand, 1) := by decide +kernel
theorem dX7_stepsBy_32 : decode cX7_stepsBy 32 = .ok (.ior, 1) := by decide +kernel
theorem dX7_stepsBy_33 : decode cX7_stepsBy 33 = .ok (.istore 6, 2) := by decide +kernel
theorem dX7_stepsBy_35 : decode cX7_stepsBy 35 = .ok (.iload 5, 2) := by decide +kernel
theorem dX7_stepsBy_37 : decode cX7_stepsBy 37 = .ok (.iconst (-1), 1) := by decide +kernel
theorem dX7_stepsBy_38 : decode cX7_stepsBy 38 = .ok (.if_icmp .eq 16, 3) := by decide +kernel
theorem dX7_stepsBy_41 : decode cX7_stepsBy 41 = .ok (.iload 6, 2) := by decide +kernel
theorem dX7_stepsBy_43 : decode cX7_stepsBy 43 = .ok (.iload 5, 2) := by decide +kernel
theorem dX7_stepsBy_45 : decode cX7_stepsBy 45 = .ok (.invokestatic 68, 3) := by decide +kernel
theorem dX7_stepsBy_48 : decode cX7_stepsBy 48 = .ok (.ifCond .ne 6, 3) := by decide +kernel
theorem dX7_stepsBy_51 : decode cX7_stepsBy 51 = .ok (.ldc 115, 2) := by decide +kernel
theorem dX7_stepsBy_53 : decode cX7_stepsBy 53 = .ok (.ireturn, 1) := by decide +kernel
theorem dX7_stepsBy_54 : decode cX7_stepsBy 54 = .ok (.ldc 115, 2) := by decide +kernel
theorem dX7_stepsBy_56 : decode cX7_stepsBy 56 = .ok (.aload_n 0, 1) := by decide +kernel
theorem dX7_stepsBy_57 : decode cX7_stepsBy 57 = .ok (.getfield 18, 3) := by decide +kernel
theorem dX7_stepsBy_60 : decode cX7_stepsBy 60 = .ok (.iload_n 3, 1) := by decide +kernel
theorem dX7_stepsBy_61 : decode cX7_stepsBy 61 = .ok (.bipush 8, 2) := by decide +kernel
theorem dX7_stepsBy_63 : decode cX7_stepsBy 63 = .ok (.imul, 1) := by decide +kernel
theorem dX7_stepsBy_64 : decode cX7_stepsBy 64 = .ok (.iload 4, 2) := by decide +kernel
theorem dX7_stepsBy_66 : decode cX7_stepsBy 66 = .ok (.iadd, 1) := by decide +kernel
theorem dX7_stepsBy_67 : decode cX7_stepsBy 67 = .ok (.invokestatic 49, 3) := by decide +kernel
theorem dX7_stepsBy_70 : decode cX7_stepsBy 70 = .ok (.aload_n 0, 1) := by decide +kernel
theorem dX7_stepsBy_71 : decode cX7_stepsBy 71 = .ok (.iload_n 2, 1) := by decide +kernel
theorem dX7_stepsBy_72 : decode cX7_stepsBy 72 = .ok (.iload 4, 2) := by decide +kernel
theorem dX7_stepsBy_74 : decode cX7_stepsBy 74 = .ok (.iconst 0, 1) := by decide +kernel
theorem dX7_stepsBy_75 : decode cX7_stepsBy 75 = .ok (.invokestatic 57, 3) := by decide +kernel
theorem dX7_stepsBy_78 : decode cX7_stepsBy 78 = .ok (.iload 4, 2) := by decide +kernel
theorem dX7_stepsBy_80 : decode cX7_stepsBy 80 = .ok (.invokevirtual 111, 3) := by decide +kernel
theorem dX7_stepsBy_83 : decode cX7_stepsBy 83 = .ok (.iadd, 1) := by decide +kernel
theorem dX7_stepsBy_84 : decode cX7_stepsBy 84 = .ok (.invokestatic 124, 3) := by decide +kernel
theorem dX7_stepsBy_87 : decode cX7_stepsBy 87 = .ok (.ireturn, 1) := by decide +kernel
theorem dX7_leastFrom_0 : decode cX7_leastFrom 0 = .ok (.iload_n 1, 1) := by decide +kernel
theorem dX7_leastFrom_1 : decode cX7_leastFrom 1 = .ok (.ifCond .ne 7, 3) := by decide +kernel
theorem dX7_leastFrom_4 : decode cX7_leastFrom 4 = .ok (.iconst 0, 1) := by decide +kernel
theorem dX7_leastFrom_5 : decode cX7_leastFrom 5 = .ok (.goto 16, 3) := by decide +kernel
theorem dX7_leastFrom_8 : decode cX7_leastFrom 8 = .ok (.aload_n 0, 1) := by decide +kernel
theorem dX7_leastFrom_9 : decode cX7_leastFrom 9 = .ok (.getfield 21, 3) := by decide +kernel
theorem dX7_leastFrom_12 : decode cX7_leastFrom 12 = .ok (.iload_n 1, 1) := by decide +kernel
theorem dX7_leastFrom_13 : decode cX7_leastFrom 13 = .ok (.bipush 8, 2) := by decide +kernel
theorem dX7_leastFrom_15 : decode cX7_leastFrom 15 = .ok (.imul, 1) := by decide +kernel
theorem dX7_leastFrom_16 : decode cX7_leastFrom 16 = .ok (.iload_n 2, 1) := by decide +kernel
theorem dX7_leastFrom_17 : decode cX7_leastFrom 17 = .ok (.iadd, 1) := by decide +kernel
theorem dX7_leastFrom_18 : decode cX7_leastFrom 18 = .ok (.invokestatic 49, 3) := by decide +kernel
theorem dX7_leastFrom_21 : decode cX7_leastFrom 21 = .ok (.ireturn, 1) := by decide +kernel
theorem dX7_breath_0 : decode cX7_breath 0 = .ok (.aload_n 0, 1) := by decide +kernel
theorem dX7_breath_1 : decode cX7_breath 1 = .ok (.aload_n 0, 1) := by decide +kernel
theorem dX7_breath_2 : decode cX7_breath 2 = .ok (.getfield 93, 3) := by decide +kernel
theorem dX7_breath_5 : decode cX7_breath 5 = .ok (.bipush 7, 2) := by decide +kernel
theorem dX7_breath_7 : decode cX7_breath 7 = .ok (.invokevirtual 111, 3) := by decide +kernel
theorem dX7_breath_10 : decode cX7_breath 10 = .ok (.istore_n 3, 1) := by decide +kernel
theorem dX7_breath_11 : decode cX7_breath 11 = .ok (.iconst 0, 1) := by decide +kernel
theorem dX7_breath_12 : decode cX7_breath 12 = .ok (.istore 4, 2) := by decide +kernel
theorem dX7_breath_14 : decode cX7_breath 14 = .ok (.iload 4, 2) := by decide +kernel
theorem dX7_breath_16 : decode cX7_breath 16 = .ok (.aload_n 1, 1) := by decide +kernel
theorem dX7_breath_17 : decode cX7_breath 17 = .ok (.getfield 41, 3) := by decide +kernel
theorem dX7_breath_20 : decode cX7_breath 20 = .ok (.if_icmp .ge 37, 3) := by decide +kernel
theorem dX7_breath_23 : decode cX7_breath 23 = .ok (.aload_n 0, 1) := by decide +kernel
theorem dX7_breath_24 : decode cX7_breath 24 = .ok (.getfield 93, 3) := by decide +kernel
theorem dX7_breath_27 : decode cX7_breath 27 = .ok (.iload 4, 2) := by decide +kernel
theorem dX7_breath_29 : decode cX7_breath 29 = .ok (.invokestatic 68, 3) := by decide +kernel
theorem dX7_breath_32 : decode cX7_breath 32 = .ok (.ifCond .eq 19, 3) := by decide +kernel
theorem dX7_breath_35 : decode cX7_breath 35 = .ok (.iload_n 3, 1) := by decide +kernel
theorem dX7_breath_36 : decode cX7_breath 36 = .ok (.aload_n 1, 1) := by decide +kernel
theorem dX7_breath_37 : decode cX7_breath 37 = .ok (.aload_n 2, 1) := by decide +kernel
theorem dX7_breath_38 : decode cX7_breath 38 = .ok (.getfield 83, 3) := by decide +kernel
theorem dX7_breath_41 : decode cX7_breath 41 = .ok (.iload 4, 2) := by decide +kernel
theorem dX7_breath_43 : decode cX7_breath 43 = .ok (.invokestatic 49, 3) := by decide +kernel
theorem dX7_breath_46 : decode cX7_breath 46 = .ok (.invokevirtual 132, 3) := by decide +kernel
theorem dX7_breath_49 : decode cX7_breath 49 = .ok (.iadd, 1) := by decide +kernel
theorem dX7_breath_50 : decode cX7_breath 50 = .ok (.istore_n 3, 1) := by decide +kernel
theorem dX7_breath_51 : decode cX7_breath 51 = .ok (.iinc 4 1, 3) := by decide +kernel
theorem dX7_breath_54 : decode cX7_breath 54 = .ok (.goto (-40), 3) := by decide +kernel
theorem dX7_breath_57 : decode cX7_breath 57 = .ok (.iload_n 3, 1) := by decide +kernel
theorem dX7_breath_58 : decode cX7_breath 58 = .ok (.ireturn, 1) := by decide +kernel
theorem dX7_mirrorAt_0 : decode cX7_mirrorAt 0 = .ok (.aload_n 0, 1) := by decide +kernel
theorem dX7_mirrorAt_1 : decode cX7_mirrorAt 1 = .ok (.getfield 93, 3) := by decide +kernel
theorem dX7_mirrorAt_4 : decode cX7_mirrorAt 4 = .ok (.istore_n 3, 1) := by decide +kernel
theorem dX7_mirrorAt_5 : decode cX7_mirrorAt 5 = .ok (.bipush 7, 2) := by decide +kernel
theorem dX7_mirrorAt_7 : decode cX7_mirrorAt 7 = .ok (.istore 4, 2) := by decide +kernel
theorem dX7_mirrorAt_9 : decode cX7_mirrorAt 9 = .ok (.iconst 0, 1) := by decide +kernel
theorem dX7_mirrorAt_10 : decode cX7_mirrorAt 10 = .ok (.istore 5, 2) := by decide +kernel
theorem dX7_mirrorAt_12 : decode cX7_mirrorAt 12 = .ok (.iload 5, 2) := by decide +kernel
theorem dX7_mirrorAt_14 : decode cX7_mirrorAt 14 = .ok (.aload_n 1, 1) := by decide +kernel
theorem dX7_mirrorAt_15 : decode cX7_mirrorAt 15 = .ok (.getfield 41, 3) := by decide +kernel
theorem dX7_mirrorAt_18 : decode cX7_mirrorAt 18 = .ok (.if_icmp .ge 50, 3) := by decide +kernel
theorem dX7_mirrorAt_21 : decode cX7_mirrorAt 21 = .ok (.iload_n 3, 1) := by decide +kernel
theorem dX7_mirrorAt_22 : decode cX7_mirrorAt 22 = .ok (.ifCond .eq 46, 3) := by decide +kernel
theorem dX7_mirrorAt_25 : decode cX7_mirrorAt 25 = .ok (.aload_n 0, 1) := by decide +kernel
theorem dX7_mirrorAt_26 : decode cX7_mirrorAt 26 = .ok (.aload_n 1, 1) := by decide +kernel
theorem dX7_mirrorAt_27 : decode cX7_mirrorAt 27 = .ok (.iload_n 3, 1) := by decide +kernel
theorem dX7_mirrorAt_28 : decode cX7_mirrorAt 28 = .ok (.iload 4, 2) := by decide +kernel
theorem dX7_mirrorAt_30 : decode cX7_mirrorAt 30 = .ok (.invokevirtual 135, 3) := by decide +kernel
theorem dX7_mirrorAt_33 : decode cX7_mirrorAt 33 = .ok (.istore 6, 2) := by decide +kernel
theorem dX7_mirrorAt_35 : decode cX7_mirrorAt 35 = .ok (.iload 5, 2) := by decide +kernel
theorem dX7_mirrorAt_37 : decode cX7_mirrorAt 37 = .ok (.iload_n 2, 1) := by decide +kernel
theorem dX7_mirrorAt_38 : decode cX7_mirrorAt 38 = .ok (.if_icmp .eq 9, 3) := by decide +kernel
theorem dX7_mirrorAt_41 : decode cX7_mirrorAt 41 = .ok (.iload 6, 2) := by decide +kernel
theorem dX7_mirrorAt_43 : decode cX7_mirrorAt 43 = .ok (.iconst (-1), 1) := by decide +kernel
theorem dX7_mirrorAt_44 : decode cX7_mirrorAt 44 = .ok (.if_icmp .ne 6, 3) := by decide +kernel
theorem dX7_mirrorAt_47 : decode cX7_mirrorAt 47 = .ok (.iload 6, 2) := by decide +kernel
theorem dX7_mirrorAt_49 : decode cX7_mirrorAt 49 = .ok (.ireturn, 1) := by decide +kernel
theorem dX7_mirrorAt_50 : decode cX7_mirrorAt 50 = .ok (.iload_n 3, 1) := by decide +kernel
theorem dX7_mirrorAt_51 : decode cX7_mirrorAt 51 = .ok (.iload 6, 2) := by decide +kernel
theorem dX7_mirrorAt_53 : decode cX7_mirrorAt 53 = .ok (.iconst 0, 1) := by decide +kernel
theorem dX7_mirrorAt_54 : decode cX7_mirrorAt 54 = .ok (.invokestatic 57, 3) := by decide +kernel
theorem dX7_mirrorAt_57 : decode cX7_mirrorAt 57 = .ok (.istore_n 3, 1) := by decide +kernel
theorem dX7_mirrorAt_58 : decode cX7_mirrorAt 58 = .ok (.iload 6, 2) := by decide +kernel
theorem dX7_mirrorAt_60 : decode cX7_mirrorAt 60 = .ok (.istore 4, 2) := by decide +kernel
theorem dX7_mirrorAt_62 : decode cX7_mirrorAt 62 = .ok (.iinc 5 1, 3) := by decide +kernel
theorem dX7_mirrorAt_65 : decode cX7_mirrorAt 65 = .ok (.goto (-53), 3) := by decide +kernel
theorem dX7_mirrorAt_68 : decode cX7_mirrorAt 68 = .ok (.iconst (-1), 1) := by decide +kernel
theorem dX7_mirrorAt_69 : decode cX7_mirrorAt 69 = .ok (.ireturn, 1) := by decide +kernel
theorem dX7_nextOf_0 : decode cX7_nextOf 0 = .ok (.aload_n 0, 1) := by decide +kernel
theorem dX7_nextOf_1 : decode cX7_nextOf 1 = .ok (.iload_n 2, 1) := by decide +kernel
theorem dX7_nextOf_2 : decode cX7_nextOf 2 = .ok (.iload_n 3, 1) := by decide +kernel
theorem dX7_nextOf_3 : decode cX7_nextOf 3 = .ok (.invokevirtual 111, 3) := by decide +kernel
theorem dX7_nextOf_6 : decode cX7_nextOf 6 = .ok (.istore 4, 2) := by decide +kernel
theorem dX7_nextOf_8 : decode cX7_nextOf 8 = .ok (.iconst 0, 1) := by decide +kernel
theorem dX7_nextOf_9 : decode cX7_nextOf 9 = .ok (.istore 5, 2) := by decide +kernel
theorem dX7_nextOf_11 : decode cX7_nextOf 11 = .ok (.iload 5, 2) := by decide +kernel
theorem dX7_nextOf_13 : decode cX7_nextOf 13 = .ok (.aload_n 1, 1) := by decide +kernel
theorem dX7_nextOf_14 : decode cX7_nextOf 14 = .ok (.getfield 41, 3) := by decide +kernel
theorem dX7_nextOf_17 : decode cX7_nextOf 17 = .ok (.if_icmp .ge 35, 3) := by decide +kernel
theorem dX7_nextOf_20 : decode cX7_nextOf 20 = .ok (.iload_n 2, 1) := by decide +kernel
theorem dX7_nextOf_21 : decode cX7_nextOf 21 = .ok (.iload 5, 2) := by decide +kernel
theorem dX7_nextOf_23 : decode cX7_nextOf 23 = .ok (.invokestatic 68, 3) := by decide +kernel
theorem dX7_nextOf_26 : decode cX7_nextOf 26 = .ok (.ifCond .eq 20, 3) := by decide +kernel
theorem dX7_nextOf_29 : decode cX7_nextOf 29 = .ok (.aload_n 0, 1) := by decide +kernel
theorem dX7_nextOf_30 : decode cX7_nextOf 30 = .ok (.aload_n 1, 1) := by decide +kernel
theorem dX7_nextOf_31 : decode cX7_nextOf 31 = .ok (.iload_n 2, 1) := by decide +kernel
theorem dX7_nextOf_32 : decode cX7_nextOf 32 = .ok (.iload_n 3, 1) := by decide +kernel
theorem dX7_nextOf_33 : decode cX7_nextOf 33 = .ok (.iload 5, 2) := by decide +kernel
theorem dX7_nextOf_35 : decode cX7_nextOf 35 = .ok (.invokevirtual 120, 3) := by decide +kernel
theorem dX7_nextOf_38 : decode cX7_nextOf 38 = .ok (.iload 4, 2) := by decide +kernel
theorem dX7_nextOf_40 : decode cX7_nextOf 40 = .ok (.if_icmp .ne 6, 3) := by decide +kernel
theorem dX7_nextOf_43 : decode cX7_nextOf 43 = .ok (.iload 5, 2) := by decide +kernel
theorem dX7_nextOf_45 : decode cX7_nextOf 45 = .ok (.ireturn, 1) := by decide +kernel
theorem dX7_nextOf_46 : decode cX7_nextOf 46 = .ok (.iinc 5 1, 3) := by decide +kernel
theorem dX7_nextOf_49 : decode cX7_nextOf 49 = .ok (.goto (-38), 3) := by decide +kernel
theorem dX7_nextOf_52 : decode cX7_nextOf 52 = .ok (.iconst (-1), 1) := by decide +kernel
theorem dX7_nextOf_53 : decode cX7_nextOf 53 = .ok (.ireturn, 1) := by decide +kernel
theorem dX8_init_0 : decode cX8_init 0 = .ok (.aload_n 0, 1) := by decide +kernel
theorem dX8_init_1 : decode cX8_init 1 = .ok (.invokespecial 3, 3) := by decide +kernel
theorem dX8_init_4 : decode cX8_init 4 = .ok (.aload_n 0, 1) := by decide +kernel
theorem dX8_init_5 : decode cX8_init 5 = .ok (.bipush 7, 2) := by decide +kernel
theorem dX8_init_7 : decode cX8_init 7 = .ok (.newarray .int, 2) := by decide +kernel
theorem dX8_init_9 : decode cX8_init 9 = .ok (.putfield 9, 3) := by decide +kernel
theorem dX8_init_12 : decode cX8_init 12 = .ok (.aload_n 0, 1) := by decide +kernel
theorem dX8_init_13 : decode cX8_init 13 = .ok (.bipush 7, 2) := by decide +kernel
theorem dX8_init_15 : decode cX8_init 15 = .ok (.newarray .int, 2) := by decide +kernel
theorem dX8_init_17 : decode cX8_init 17 = .ok (.putfield 15, 3) := by decide +kernel
theorem dX8_init_20 : decode cX8_init 20 = .ok (.aload_n 0, 1) := by decide +kernel
theorem dX8_init_21 : decode cX8_init 21 = .ok (.bipush 7, 2) := by decide +kernel
theorem dX8_init_23 : decode cX8_init 23 = .ok (.newarray .int, 2) := by decide +kernel
theorem dX8_init_25 : decode cX8_init 25 = .ok (.putfield 18, 3) := by decide +kernel
theorem dX8_init_28 : decode cX8_init 28 = .ok (.aload_n 0, 1) := by decide +kernel
theorem dX8_init_29 : decode cX8_init 29 = .ok (.iconst 5, 1) := by decide +kernel
theorem dX8_init_30 : decode cX8_init 30 = .ok (.newarray .int, 2) := by decide +kernel
theorem dX8_init_32 : decode cX8_init 32 = .ok (.putfield 21, 3) := by decide +kernel
theorem dX8_init_35 : decode cX8_init 35 = .ok (.return_, 1) := by decide +kernel
theorem dX8_startIn_0 : decode cX8_startIn 0 = .ok (.aload_n 0, 1) := by decide +kernel
theorem dX8_startIn_1 : decode cX8_startIn 1 = .ok (.iconst 0, 1) := by decide +kernel
theorem dX8_startIn_2 : decode cX8_startIn 2 = .ok (.putfield 24, 3) := by decide +kernel
theorem dX8_startIn_5 : decode cX8_startIn 5 = .ok (.aload_n 0, 1) := by decide +kernel
theorem dX8_startIn_6 : decode cX8_startIn 6 = .ok (.aload_n 1, 1) := by decide +kernel
theorem dX8_startIn_7 : decode cX8_startIn 7 = .ok (.getfield 28, 3) := by decide +kernel
theorem dX8_startIn_10 : decode cX8_startIn 10 = .ok (.putfield 33, 3) := by decide +kernel
theorem dX8_startIn_13 : decode cX8_startIn 13 = .ok (.aload_n 0, 1) := by decide +kernel
theorem dX8_startIn_14 : decode cX8_startIn 14 = .ok (.iconst 0, 1) := by decide +kernel
theorem dX8_startIn_15 : decode cX8_startIn 15 = .ok (.putfield 34, 3) := by decide +kernel
theorem dX8_startIn_18 : decode cX8_startIn 18 = .ok (.aload_n 0, 1) := by decide +kernel
theorem dX8_startIn_19 : decode cX8_startIn 19 = .ok (.iconst 0, 1) := by decide +kernel
theorem dX8_startIn_20 : decode cX8_startIn 20 = .ok (.putfield 37, 3) := by decide +kernel
theorem dX8_startIn_23 : decode cX8_startIn 23 = .ok (.aload_n 0, 1) := by decide +kernel
theorem dX8_startIn_24 : decode cX8_startIn 24 = .ok (.iconst 0, 1) := by decide +kernel
theorem dX8_startIn_25 : decode cX8_startIn 25 = .ok (.putfield 40, 3) := by decide +kernel
theorem dX8_startIn_28 : decode cX8_startIn 28 = .ok (.aload_n 0, 1) := by decide +kernel
theorem dX8_startIn_29 : decode cX8_startIn 29 = .ok (.iconst 0, 1) := by decide +kernel
theorem dX8_startIn_30 : decode cX8_startIn 30 = .ok (.putfield 43, 3) := by decide +kernel
theorem dX8_startIn_33 : decode cX8_startIn 33 = .ok (.aload_n 0, 1) := by decide +kernel
theorem dX8_startIn_34 : decode cX8_startIn 34 = .ok (.iconst 0, 1) := by decide +kernel
theorem dX8_startIn_35 : decode cX8_startIn 35 = .ok (.putfield 46, 3) := by decide +kernel
theorem dX8_startIn_38 : decode cX8_startIn 38 = .ok (.aload_n 0, 1) := by decide +kernel
theorem dX8_startIn_39 : decode cX8_startIn 39 = .ok (.iconst 0, 1) := by decide +kernel
theorem dX8_startIn_40 : decode cX8_startIn 40 = .ok (.putfield 49, 3) := by decide +kernel
theorem dX8_startIn_43 : decode cX8_startIn 43 = .ok (.aload_n 1, 1) := by decide +kernel
theorem dX8_startIn_44 : decode cX8_startIn 44 = .ok (.getfield 52, 3) := by decide +kernel
theorem dX8_startIn_47 : decode cX8_startIn 47 = .ok (.aload_n 0, 1) := by decide +kernel
theorem dX8_startIn_48 : decode cX8_startIn 48 = .ok (.getfield 9, 3) := by decide +kernel
theorem dX8_startIn_51 : decode cX8_startIn 51 = .ok (.invokestatic 55, 3) := by decide +kernel
theorem dX8_startIn_54 : decode cX8_startIn 54 = .ok (.aload_n 0, 1) := by decide +kernel
theorem dX8_startIn_55 : decode cX8_startIn 55 = .ok (.getfield 15, 3) := by decide +kernel
theorem dX8_startIn_58 : decode cX8_startIn 58 = .ok (.iconst (-1), 1) := by decide +kernel
theorem dX8_startIn_59 : decode cX8_startIn 59 = .ok (.invokestatic 59, 3) := by decide +kernel
theorem dX8_startIn_62 : decode cX8_startIn 62 = .ok (.aload_n 0, 1) := by decide +kernel
theorem dX8_startIn_63 : decode cX8_startIn 63 = .ok (.getfield 18, 3) := by decide +kernel
theorem dX8_startIn_66 : decode cX8_startIn 66 = .ok (.iconst 0, 1) := by decide +kernel
theorem dX8_startIn_67 : decode cX8_startIn 67 = .ok (.invokestatic 59, 3) := by decide +kernel
theorem dX8_startIn_70 : decode cX8_startIn 70 = .ok (.aload_n 1, 1) := by decide +kernel
theorem dX8_startIn_71 : decode cX8_startIn 71 = .ok (.getfield 63, 3) := by decide +kernel
theorem dX8_startIn_74 : decode cX8_startIn 74 = .ok (.aload_n 0, 1) := by decide +kernel
theorem dX8_startIn_75 : decode cX8_startIn 75 = .ok (.getfield 21, 3) := by decide +kernel
theorem dX8_startIn_78 : decode cX8_startIn 78 = .ok (.invokestatic 55, 3) := by decide +kernel
theorem dX8_startIn_81 : decode cX8_startIn 81 = .ok (.return_, 1) := by decide +kernel
theorem dX8_become_0 : decode cX8_become 0 = .ok (.aload_n 0, 1) := by decide +kernel
theorem dX8_become_1 : decode cX8_become 1 = .ok (.aload_n 1, 1) := by decide +kernel
theorem dX8_become_2 : decode cX8_become 2 = .ok (.getfield 24, 3) := by decide +kernel
theorem dX8_become_5 : decode cX8_become 5 = .ok (.putfield 24, 3) := by decide +kernel
theorem dX8_become_8 : decode cX8_become 8 = .ok (.aload_n 0, 1) := by decide +kernel
theorem dX8_become_9 : decode cX8_become 9 = .ok (.aload_n 1, 1) := by decide +kernel
theorem dX8_become_10 : decode cX8_become 10 = .ok (.getfield 33, 3) := by decide +kernel
theorem dX8_become_13 : decode cX8_become 13 = .ok (.putfield 33, 3) := by decide +kernel
theorem dX8_become_16 : decode cX8_become 16 = .ok (.aload_n 0, 1) := by decide +kernel
theorem dX8_become_17 : decode cX8_become 17 = .ok (.aload_n 1, 1) := by decide +kernel
theorem dX8_become_18 : decode cX8_become 18 = .ok (.getfield 34, 3) := by decide +kernel
theorem dX8_become_21 : decode cX8_become 21 = .ok (.putfield 34, 3) := by decide +kernel
theorem dX8_become_24 : decode cX8_become 24 = .ok (.aload_n 0, 1) := by decide +kernel
theorem dX8_become_25 : decode cX8_become 25 = .ok (.aload_n 1, 1) := by decide +kernel
theorem dX8_become_26 : decode cX8_become 26 = .ok (.getfield 37, 3) := by decide +kernel
theorem dX8_become_29 : decode cX8_become 29 = .ok (.putfield 37, 3) := by decide +kernel
theorem dX8_become_32 : decode cX8_become 32 = .ok (.aload_n 0, 1) := by decide +kernel
theorem dX8_become_33 : decode cX8_become 33 = .ok (.aload_n 1, 1) := by decide +kernel
theorem dX8_become_34 : decode cX8_become 34 = .ok (.getfield 40, 3) := by decide +kernel
theorem dX8_become_37 : decode cX8_become 37 = .ok (.putfield 40, 3) := by decide +kernel
theorem dX8_become_40 : decode cX8_become 40 = .ok (.aload_n 0, 1) := by decide +kernel
theorem dX8_become_41 : decode cX8_become 41 = .ok (.aload_n 1, 1) := by decide +kernel
theorem dX8_become_42 : decode cX8_become 42 = .ok (.getfield 43, 3) := by decide +kernel
theorem dX8_become_45 : decode cX8_become 45 = .ok (.putfield 43, 3) := by decide +kernel
theorem dX8_become_48 : decode cX8_become 48 = .ok (.aload_n 0, 1) := by decide +kernel
theorem dX8_become_49 : decode cX8_become 49 = .ok (.aload_n 1, 1) := by decide +kernel
theorem dX8_become_50 : decode cX8_become 50 = .ok (.getfield 46, 3) := by decide +kernel
theorem dX8_become_53 : decode cX8_become 53 = .ok (.putfield 46, 3) := by decide +kernel
theorem dX8_become_56 : decode cX8_become 56 = .ok (.aload_n 0, 1) := by decide +kernel
theorem dX8_become_57 : decode cX8_become 57 = .ok (.aload_n 1, 1) := by decide +kernel
theorem dX8_become_58 : decode cX8_become 58 = .ok (.getfield 49, 3) := by decide +kernel
theorem dX8_become_61 : decode cX8_become 61 = .ok (.putfield 49, 3) := by decide +kernel
theorem dX8_become_64 : decode cX8_become 64 = .ok (.aload_n 1, 1) := by decide +kernel
theorem dX8_become_65 : decode cX8_become 65 = .ok (.getfield 9, 3) := by decide +kernel
theorem dX8_become_68 : decode cX8_become 68 = .ok (.aload_n 0, 1) := by decide +kernel
theorem dX8_become_69 : decode cX8_become 69 = .ok (.getfield 9, 3) := by decide +kernel
theorem dX8_become_72 : decode cX8_become 72 = .ok (.invokestatic 55, 3) := by decide +kernel
theorem dX8_become_75 : decode cX8_become 75 = .ok (.aload_n 1, 1) := by decide +kernel
theorem dX8_become_76 : decode cX8_become 76 = .ok (.getfield 15, 3) := by decide +kernel
theorem dX8_become_79 : decode cX8_become 79 = .ok (.aload_n 0, 1) := by decide +kernel
theorem dX8_become_80 : decode cX8_become 80 = .ok (.getfield 15, 3) := by decide +kernel
theorem dX8_become_83 : decode cX8_become 83 = .ok (.invokestatic 55, 3) := by decide +kernel
theorem dX8_become_86 : decode cX8_become 86 = .ok (.aload_n 1, 1) := by decide +kernel
theorem dX8_become_87 : decode cX8_become 87 = .ok (.getfield 18, 3) := by decide +kernel
theorem dX8_become_90 : decode cX8_become 90 = .ok (.aload_n 0, 1) := by decide +kernel
theorem dX8_become_91 : decode cX8_become 91 = .ok (.getfield 18, 3) := by decide +kernel
theorem dX8_become_94 : decode cX8_become 94 = .ok (.invokestatic 55, 3) := by decide +kernel
theorem dX8_become_97 : decode cX8_become 97 = .ok (.aload_n 1, 1) := by decide +kernel
theorem dX8_become_98 : decode cX8_become 98 = .ok (.getfield 21, 3) := by decide +kernel
theorem dX8_become_101 : decode cX8_become 101 = .ok (.aload_n 0, 1) := by decide +kernel
theorem dX8_become_102 : decode cX8_become 102 = .ok (.getfield 21, 3) := by decide +kernel
theorem dX8_become_105 : decode cX8_become 105 = .ok (.invokestatic 55, 3) := by decide +kernel
theorem dX8_become_108 : decode cX8_become 108 = .ok (.return_, 1) := by decide +kernel
theorem dX8_hear_0 : decode cX8_hear 0 = .ok (.iload_n 3, 1) := by decide +kernel
theorem dX8_hear_1 : decode cX8_hear 1 = .ok (.aload_n 0, 1) := by decide +kernel
theorem dX8_hear_2 : decode cX8_hear 2 = .ok (.getfield 9, 3) := by decide +kernel
theorem dX8_hear_5 : decode cX8_hear 5 = .ok (.iload_n 2, 1) := by decide +kernel
theorem dX8_hear_6 : decode cX8_hear 6 = .ok (.invokestatic 64, 3) := by decide +kernel
theorem dX8_hear_9 : decode cX8_hear 9 = .ok (.if_icmp .eq 11, 3) := by decide +kernel
theorem dX8_hear_12 : decode cX8_hear 12 = .ok (.aload_n 0, 1) := by decide +kernel
theorem dX8_hear_13 : decode cX8_hear 13 = .ok (.iload_n 2, 1) := by decide +kernel
theorem dX8_hear_14 : decode cX8_hear 14 = .ok (.iload_n 3, 1) := by decide +kernel
theorem dX8_hear_15 : decode cX8_hear 15 = .ok (.invokevirtual 68, 3) := by decide +kernel
theorem dX8_hear_18 : decode cX8_hear 18 = .ok (.iconst 0, 1) := by decide +kernel
theorem dX8_hear_19 : decode cX8_hear 19 = .ok (.ireturn, 1) := by decide +kernel
theorem dX8_hear_20 : decode cX8_hear 20 = .ok (.aload_n 0, 1) := by decide +kernel
theorem dX8_hear_21 : decode cX8_hear 21 = .ok (.iload_n 2, 1) := by decide +kernel
theorem dX8_hear_22 : decode cX8_hear 22 = .ok (.invokevirtual 72, 3) := by decide +kernel
theorem dX8_hear_25 : decode cX8_hear 25 = .ok (.aload_n 0, 1) := by decide +kernel
theorem dX8_hear_26 : decode cX8_hear 26 = .ok (.getfield 34, 3) := by decide +kernel
theorem dX8_hear_29 : decode cX8_hear 29 = .ok (.iload_n 2, 1) := by decide +kernel
theorem dX8_hear_30 : decode cX8_hear 30 = .ok (.invokestatic 76, 3) := by decide +kernel
theorem dX8_hear_33 : decode cX8_hear 33 = .ok (.ifCond .ne 14, 3) := by decide +kernel
theorem dX8_hear_36 : decode cX8_hear 36 = .ok (.aload_n 0, 1) := by decide +kernel
theorem dX8_hear_37 : decode cX8_hear 37 = .ok (.getfield 37, 3) := by decide +kernel
theorem dX8_hear_40 : decode cX8_hear 40 = .ok (.iload_n 2, 1) := by decide +kernel
theorem dX8_hear_41 : decode cX8_hear 41 = .ok (.invokestatic 76, 3) := by decide +kernel
theorem dX8_hear_44 : decode cX8_hear 44 = .ok (.ifCond .eq 5, 3) := by decide +kernel
theorem dX8_hear_47 : decode cX8_hear 47 = .ok (.iconst 0, 1) := by decide +kernel
theorem dX8_hear_48 : decode cX8_hear 48 = .ok (.ireturn, 1) := by decide +kernel
theorem dX8_hear_49 : decode cX8_hear 49 = .ok (.aload_n 1, 1) := by decide +kernel
theorem dX8_hear_50 : decode cX8_hear 50 = .ok (.iload_n 2, 1) := by decide +kernel
theorem dX8_hear_51 : decode cX8_hear 51 = .ok (.invokevirtual 80, 3) := by decide +kernel
theorem dX8_hear_54 : decode cX8_hear 54 = .ok (.istore 4, 2) := by decide +kernel
theorem dX8_hear_56 : decode cX8_hear 56 = .ok (.iload 4, 2) := by decide +kernel
theorem dX8_hear_58 : decode cX8_hear 58 = .ok (.iconst (-1), 1) := by decide +kernel
theorem dX8_hear_59 : decode cX8_hear 59 = .ok (.if_icmp .eq 48, 3) := by decide +kernel
theorem dX8_hear_62 : decode cX8_hear 62 = .ok (.aload_n 0, 1) := by decide +kernel
theorem dX8_hear_63 : decode cX8_hear 63 = .ok (.getfield 34, 3) := by decide +kernel
theorem dX8_hear_66 : decode cX8_hear 66 = .ok (.iload 4, 2) := by decide +kernel
theorem dX8_hear_68 : decode cX8_hear 68 = .ok (.invokestatic 76, 3) := by decide +kernel
theorem dX8_hear_71 : decode cX8_hear 71 = .ok (.ifCond .ne 36, 3) := by decide +kernel
theorem dX8_hear_74 : decode cX8_hear 74 = .ok (.aload_n 0, 1) := by decide +kernel
theorem dX8_hear_75 : decode cX8_hear 75 = .ok (.getfield 37, 3) := by decide +kernel
theorem dX8_hear_78 : decode cX8_hear 78 = .ok (.iload 4, 2) := by decide +kernel
theorem dX8_hear_80 : decode cX8_hear 80 = .ok (.invokestatic 76, 3) := by decide +kernel
theorem dX8_hear_83 : decode cX8_hear 83 = .ok (.ifCond .ne 24, 3) := by decide +kernel
theorem dX8_hear_86 : decode cX8_hear 86 = .ok (.aload_n 0, 1) := by decide +kernel
theorem dX8_hear_87 : decode cX8_hear 87 = .ok (.aload_n 0, 1) := by decide +kernel
theorem dX8_hear_88 : decode cX8_hear 88 = .ok (.getfield 37, 3) := by decide +kernel
theorem dX8_hear_91 : decode cX8_hear 91 = .ok (.iload_n 2, 1) := by decide +kernel
theorem dX8_hear_92 : decode cX8_hear 92 = .ok (.iconst 1, 1) := by decide +kernel
theorem dX8_hear_93 : decode cX8_hear 93 = .ok (.invokestatic 84, 3) := by decide +kernel
theorem dX8_hear_96 : decode cX8_hear 96 = .ok (.iload 4, 2) := by decide +kernel
theorem dX8_hear_98 : decode cX8_hear 98 = .ok (.iconst 1, 1) := by decide +kernel
theorem dX8_hear_99 : decode cX8_hear 99 = .ok (.invokestatic 84, 3) := by decide +kernel
theorem dX8_hear_102 : decode cX8_hear 102 = .ok (.putfield 37, 3) := by decide +kernel
theorem dX8_hear_105 : decode cX8_hear 105 = .ok (.iconst 0, 1) := by decide +kernel
theorem dX8_hear_106 : decode cX8_hear 106 = .ok (.ireturn, 1) := by decide +kernel
theorem dX8_hear_107 : decode cX8_hear 107 = .ok (.aload_n 0, 1) := by decide +kernel
theorem dX8_hear_108 : decode cX8_hear 108 = .ok (.aload_n 0, 1) := by decide +kernel
theorem dX8_hear_109 : decode cX8_hear 109 = .ok (.getfield 34, 3) := by decide +kernel
theorem dX8_hear_112 : decode cX8_hear 112 = .ok (.iload_n 2, 1) := by decide +kernel
theorem dX8_hear_113 : decode cX8_hear 113 = .ok (.iconst 1, 1) := by decide +kernel
theorem dX8_hear_114 : decode cX8_hear 114 = .ok (.invokestatic 84, 3) := by decide +kernel
theorem dX8_hear_117 : decode cX8_hear 117 = .ok (.putfield 34, 3) := by decide +kernel
theorem dX8_hear_120 : decode cX8_hear 120 = .ok (.iconst 1, 1) := by decide +kernel
theorem dX8_hear_121 : decode cX8_hear 121 = .ok (.ireturn, 1) := by decide +kernel
theorem dX8_countOther_0 : decode cX8_countOther 0 = .ok (.aload_n 0, 1) := by decide +kernel
theorem dX8_countOther_1 : decode cX8_countOther 1 = .ok (.getfield 15, 3) := by decide +kernel
theorem dX8_countOther_4 : decode cX8_countOther 4 = .ok (.iload_n 1, 1) := by decide +kernel
theorem dX8_countOther_5 : decode cX8_countOther 5 = .ok (.invokestatic 64, 3) := by decide +kernel
theorem dX8_countOther_8 : decode cX8_countOther 8 = .ok (.iload_n 2, 1) := by decide +kernel
theorem dX8_countOther_9 : decode cX8_countOther 9 = .ok (.if_icmp .ne 16, 3) := by decide +kernel
theorem dX8_countOther_12 : decode cX8_countOther 12 = .ok (.aload_n 0, 1) := by decide +kernel
theorem dX8_countOther_13 : decode cX8_countOther 13 = .ok (.getfield 18, 3) := by decide +kernel
theorem dX8_countOther_16 : decode cX8_countOther 16 = .ok (.iload_n 1, 1) := by decide +kernel
theorem dX8_countOther_17 : decode cX8_countOther 17 = .ok (.invokestatic 64, 3) := by decide +kernel
theorem dX8_countOther_20 : decode cX8_countOther 20 = .ok (.iconst 1, 1) := by decide +kernel
theorem dX8_countOther_21 : decode cX8_countOther 21 = .ok (.iadd, 1) := by decide +kernel
theorem dX8_countOther_22 : decode cX8_countOther 22 = .ok (.goto 4, 3) := by decide +kernel
theorem dX8_countOther_25 : decode cX8_countOther 25 = .ok (.iconst 1, 1) := by decide +kernel
theorem dX8_countOther_26 : decode cX8_countOther 26 = .ok (.istore_n 3, 1) := by decide +kernel
theorem dX8_countOther_27 : decode cX8_countOther 27 = .ok (.iload_n 3, 1) := by decide +kernel
theorem dX8_countOther_28 : decode cX8_countOther 28 = .ok (.iconst 3, 1) := by decide +kernel
theorem dX8_countOther_29 : decode cX8_countOther 29 = .ok (.if_icmp .ne 20, 3) := by decide +kernel
theorem dX8_countOther_32 : decode cX8_countOther 32 = .ok (.aload_n 0, 1) := by decide +kernel
theorem dX8_countOther_33 : decode cX8_countOther 33 = .ok (.getfield 9, 3) := by decide +kernel
theorem dX8_countOther_36 : decode cX8_countOther 36 = .ok (.iload_n 1, 1) := by decide +kernel
theorem dX8_countOther_37 : decode cX8_countOther 37 = .ok (.iload_n 2, 1) := by decide +kernel
theorem dX8_countOther_38 : decode cX8_countOther 38 = .ok (.invokestatic 88, 3) := by decide +kernel
theorem dX8_countOther_41 : decode cX8_countOther 41 = .ok (.aload_n 0, 1) := by decide +kernel
theorem dX8_countOther_42 : decode cX8_countOther 42 = .ok (.iload_n 1, 1) := by decide +kernel
theorem dX8_countOther_43 : decode cX8_countOther 43 = .ok (.invokevirtual 72, 3) := by decide +kernel
theorem dX8_countOther_46 : decode cX8_countOther 46 = .ok (.goto 21, 3) := by decide +kernel
theorem dX8_countOther_49 : decode cX8_countOther 49 = .ok (.aload_n 0, 1) := by decide +kernel
theorem dX8_countOther_50 : decode cX8_countOther 50 = .ok (.getfield 15, 3) := by decide +kernel
theorem dX8_countOther_53 : decode cX8_countOther 53 = .ok (.iload_n 1, 1) := by decide +kernel
theorem dX8_countOther_54 : decode cX8_countOther 54 = .ok (.iload_n 2, 1) := by decide +kernel
theorem dX8_countOther_55 : decode cX8_countOther 55 = .ok (.invokestatic 88, 3) := by decide +kernel
theorem dX8_countOther_58 : decode cX8_countOther 58 = .ok (.aload_n 0, 1) := by decide +kernel
theorem dX8_countOther_59 : decode cX8_countOther 59 = .ok (.getfield 18, 3) := by decide +kernel
theorem dX8_countOther_62 : decode cX8_countOther 62 = .ok (.iload_n 1, 1) := by decide +kernel
theorem dX8_countOther_63 : decode cX8_countOther 63 = .ok (.iload_n 3, 1) := by decide +kernel
theorem dX8_countOther_64 : decode cX8_countOther 64 = .ok (.invokestatic 88, 3) := by decide +kernel
theorem dX8_countOther_67 : decode cX8_countOther 67 = .ok (.return_, 1) := by decide +kernel
theorem dX8_endCount_0 : decode cX8_endCount 0 = .ok (.aload_n 0, 1) := by decide +kernel
theorem dX8_endCount_1 : decode cX8_endCount 1 = .ok (.getfield 15, 3) := by decide +kernel
theorem dX8_endCount_4 : decode cX8_endCount 4 = .ok (.iload_n 1, 1) := by decide +kernel
theorem dX8_endCount_5 : decode cX8_endCount 5 = .ok (.iconst (-1), 1) := by decide +kernel
theorem dX8_endCount_6 : decode cX8_endCount 6 = .ok (.invokestatic 88, 3) := by decide +kernel
theorem dX8_endCount_9 : decode cX8_endCount 9 = .ok (.aload_n 0, 1) := by decide +kernel
theorem dX8_endCount_10 : decode cX8_endCount 10 = .ok (.getfield 18, 3) := by decide +kernel
theorem dX8_endCount_13 : decode cX8_endCount 13 = .ok (.iload_n 1, 1) := by decide +kernel
theorem dX8_endCount_14 : decode cX8_endCount 14 = .ok (.iconst 0, 1) := by decide +kernel
theorem dX8_endCount_15 : decode cX8_endCount 15 = .ok (.invokestatic 88, 3) := by decide +kernel
theorem dX8_endCount_18 : decode cX8_endCount 18 = .ok (.return_, 1) := by decide +kernel
theorem dX8_openBeside_0 : decode cX8_openBeside 0 = .ok (.iconst 0, 1) := by decide +kernel
theorem dX8_openBeside_1 : decode cX8_openBeside 1 = .ok (.istore_n 3, 1) := by decide +kernel
theorem dX8_openBeside_2 : decode cX8_openBeside 2 = .ok (.iconst 0, 1) := by decide +kernel
theorem dX8_openBeside_3 : decode cX8_openBeside 3 = .ok (.istore 4, 2) := by decide +kernel
theorem dX8_openBeside_5 : decode cX8_openBeside 5 = .ok (.iload 4, 2) := by decide +kernel
theorem dX8_openBeside_7 : decode cX8_openBeside 7 = .ok (.aload_n 1, 1) := by decide +kernel
theorem dX8_openBeside_8 : decode cX8_openBeside 8 = .ok (.getfield 92, 3) := by decide +kernel
theorem dX8_openBeside_11 : decode cX8_openBeside 11 = .ok (.if_icmp .ge 74, 3) := by decide +kernel
theorem dX8_openBeside_14 : decode cX8_openBeside 14 = .ok (.aload_n 0, 1) := by decide +kernel
theorem dX8_openBeside_15 : decode cX8_openBeside 15 = .ok (.getfield 43, 3) := by decide +kernel
theorem dX8_openBeside_18 : decode cX8_openBeside 18 = .ok (.iload 4, 2) := by decide +kernel
theorem dX8_openBeside_20 : decode cX8_openBeside 20 = .ok (.invokestatic 76, 3) := by decide +kernel
theorem dX8_openBeside_23 : decode cX8_openBeside 23 = .ok (.ifCond .ne 56, 3) := by decide +kernel
theorem dX8_openBeside_26 : decode cX8_openBeside 26 = .ok (.aload_n 1, 1) := by decide +kernel
theorem dX8_openBeside_27 : decode cX8_openBeside 27 = .ok (.getfield 95, 3) := by decide +kernel
theorem dX8_openBeside_30 : decode cX8_openBeside 30 = .ok (.iload 4, 2) := by decide +kernel
theorem dX8_openBeside_32 : decode cX8_openBeside 32 = .ok (.invokestatic 64, 3) := by decide +kernel
theorem dX8_openBeside_35 : decode cX8_openBeside 35 = .ok (.istore 5, 2) := by decide +kernel
theorem dX8_openBeside_37 : decode cX8_openBeside 37 = .ok (.aload_n 1, 1) := by decide +kernel
theorem dX8_openBeside_38 : decode cX8_openBeside 38 = .ok (.getfield 98, 3) := by decide +kernel
theorem dX8_openBeside_41 : decode cX8_openBeside 41 = .ok (.iload 4, 2) := by decide +kernel
theorem dX8_openBeside_43 : decode cX8_openBeside 43 = .ok (.invokestatic 64, 3) := by decide +kernel
theorem dX8_openBeside_46 : decode cX8_openBeside 46 = .ok (.istore 6, 2) := by decide +kernel
theorem dX8_openBeside_48 : decode cX8_openBeside 48 = .ok (.iload 5, 2) := by decide +kernel
theorem dX8_openBeside_50 : decode cX8_openBeside 50 = .ok (.iload_n 2, 1) := by decide +kernel
theorem dX8_openBeside_51 : decode cX8_openBeside 51 = .ok (.if_icmp .ne 14, 3) := by decide +kernel
theorem dX8_openBeside_54 : decode cX8_openBeside 54 = .ok (.iload_n 3, 1) := by decide +kernel
theorem dX8_openBeside_55 : decode cX8_openBeside 55 = .ok (.iload 6, 2) := by decide +kernel
theorem dX8_openBeside_57 : decode cX8_openBeside 57 = .ok (.iconst 1, 1) := by decide +kernel
theorem dX8_openBeside_58 : decode cX8_openBeside 58 = .ok (.invokestatic 84, 3) := by decide +kernel
theorem dX8_openBeside_61 : decode cX8_openBeside 61 = .ok (.istore_n 3, 1) := by decide +kernel
theorem dX8_openBeside_62 : decode cX8_openBeside 62 = .ok (.goto 17, 3) := by decide +kernel
theorem dX8_openBeside_65 : decode cX8_openBeside 65 = .ok (.iload 6, 2) := by decide +kernel
theorem dX8_openBeside_67 : decode cX8_openBeside 67 = .ok (.iload_n 2, 1) := by decide +kernel
theorem dX8_openBeside_68 : decode cX8_openBeside 68 = .ok (.if_icmp .ne 11, 3) := by decide +kernel
theorem dX8_openBeside_71 : decode cX8_openBeside 71 = .ok (.iload_n 3, 1) := by decide +kernel
theorem dX8_openBeside_72 : decode cX8_openBeside 72 = .ok (.iload 5, 2) := by decide +kernel
theorem dX8_openBeside_74 : decode cX8_openBeside 74 = .ok (.iconst 1, 1) := by decide +kernel
theorem dX8_openBeside_75 : decode cX8_openBeside 75 = .ok (.invokestatic 84, 3) := by decide +kernel
theorem dX8_openBeside_78 : decode cX8_openBeside 78 = .ok (.istore_n 3, 1) := by decide +kernel
theorem dX8_openBeside_79 : decode cX8_openBeside 79 = .ok (.iinc 4 1, 3) := by decide +kernel
theorem dX8_openBeside_82 : decode cX8_openBeside 82 = .ok (.goto (-77), 3) := by decide +kernel
theorem dX8_openBeside_85 : decode cX8_openBeside 85 = .ok (.iload_n 3, 1) := by decide +kernel
theorem dX8_openBeside_86 : decode cX8_openBeside 86 = .ok (.ireturn, 1) := by decide +kernel
theorem dX8_seenFrom_0 : decode cX8_seenFrom 0 = .ok (.aload_n 0, 1) := by decide +kernel
theorem dX8_seenFrom_1 : decode cX8_seenFrom 1 = .ok (.aload_n 1, 1) := by decide +kernel
theorem dX8_seenFrom_2 : decode cX8_seenFrom 2 = .ok (.iload_n 2, 1) := by decide +kernel
theorem dX8_seenFrom_3 : decode cX8_seenFrom 3 = .ok (.invokevirtual 101, 3) := by decide +kernel
theorem dX8_seenFrom_6 : decode cX8_seenFrom 6 = .ok (.iload_n 2, 1) := by decide +kernel
theorem dX8_seenFrom_7 : decode cX8_seenFrom 7 = .ok (.iconst 1, 1) := by decide +kernel
theorem dX8_seenFrom_8 : decode cX8_seenFrom 8 = .ok (.invokestatic 84, 3) := by decide +kernel
theorem dX8_seenFrom_11 : decode cX8_seenFrom 11 = .ok (.ireturn, 1) := by decide +kernel
theorem dX8_personsIn_0 : decode cX8_personsIn 0 = .ok (.iconst 0, 1) := by decide +kernel
theorem dX8_personsIn_1 : decode cX8_personsIn 1 = .ok (.istore_n 3, 1) := by decide +kernel
theorem dX8_personsIn_2 : decode cX8_personsIn 2 = .ok (.iconst 0, 1) := by decide +kernel
theorem dX8_personsIn_3 : decode cX8_personsIn 3 = .ok (.istore 4, 2) := by decide +kernel
theorem dX8_personsIn_5 : decode cX8_personsIn 5 = .ok (.iload 4, 2) := by decide +kernel
theorem dX8_personsIn_7 : decode cX8_personsIn 7 = .ok (.aload_n 1, 1) := by decide +kernel
theorem dX8_personsIn_8 : decode cX8_personsIn 8 = .ok (.getfield 105, 3) := by decide +kernel
theorem dX8_personsIn_11 : decode cX8_personsIn 11 = .ok (.if_icmp .ge 28, 3) := by decide +kernel
theorem dX8_personsIn_14 : decode cX8_personsIn 14 = .ok (.iload_n 2, 1) := by decide +kernel
theorem dX8_personsIn_15 : decode cX8_personsIn 15 = .ok (.aload_n 0, 1) := by decide +kernel
theorem dX8_personsIn_16 : decode cX8_personsIn 16 = .ok (.getfield 21, 3) := by decide +kernel
theorem dX8_personsIn_19 : decode cX8_personsIn 19 = .ok (.iload 4, 2) := by decide +kernel
theorem dX8_personsIn_21 : decode cX8_personsIn 21 = .ok (.invokestatic 64, 3) := by decide +kernel
theorem dX8_personsIn_24 : decode cX8_personsIn 24 = .ok (.invokestatic 76, 3) := by decide +kernel
theorem dX8_personsIn_27 : decode cX8_personsIn 27 = .ok (.ifCond .eq 6, 3) := by decide +kernel
theorem dX8_personsIn_30 : decode cX8_personsIn 30 = .ok (.iinc 3 1, 3) := by decide +kernel
theorem dX8_personsIn_33 : decode cX8_personsIn 33 = .ok (.iinc 4 1, 3) := by decide +kernel
theorem dX8_personsIn_36 : decode cX8_personsIn 36 = .ok (.goto (-31), 3) := by decide +kernel
theorem dX8_personsIn_39 : decode cX8_personsIn 39 = .ok (.iload_n 3, 1) := by decide +kernel
theorem dX8_personsIn_40 : decode cX8_personsIn 40 = .ok (.ireturn, 1) := by decide +kernel
theorem dX9_init_0 : decode cX9_init 0 = .ok (.aload_n 0, 1) := by decide +kernel
theorem dX9_init_1 : decode cX9_init 1 = .ok (.invokespecial 1, 3) := by decide +kernel
theorem dX9_init_4 : decode cX9_init 4 = .ok (.aload_n 0, 1) := by decide +kernel
theorem dX9_init_5 : decode cX9_init 5 = .ok (.new 7, 3) := by decide +kernel
theorem dX9_init_8 : decode cX9_init 8 = .ok (.dup, 1) := by decide +kernel
theorem dX9_init_9 : decode cX9_init 9 = .ok (.invokespecial 9, 3) := by decide +kernel
theorem dX9_init_12 : decode cX9_init 12 = .ok (.putfield 10, 3) := by decide +kernel
theorem dX9_init_15 : decode cX9_init 15 = .ok (.aload_n 0, 1) := by decide +kernel
theorem dX9_init_16 : decode cX9_init 16 = .ok (.new 16, 3) := by decide +kernel
theorem dX9_init_19 : decode cX9_init 19 = .ok (.dup, 1) := by decide +kernel
theorem dX9_init_20 : decode cX9_init 20 = .ok (.invokespecial 18, 3) := by decide +kernel
theorem dX9_init_23 : decode cX9_init 23 = .ok (.putfield 19, 3) := by decide +kernel
theorem dX9_init_26 : decode cX9_init 26 = .ok (.aload_n 0, 1) := by decide +kernel
theorem dX9_init_27 : decode cX9_init 27 = .ok (.new 16, 3) := by decide +kernel
theorem dX9_init_30 : decode cX9_init 30 = .ok (.dup, 1) := by decide +kernel
theorem dX9_init_31 : decode cX9_init 31 = .ok (.invokespecial 18, 3) := by decide +kernel
theorem dX9_init_34 : decode cX9_init 34 = .ok (.putfield 23, 3) := by decide +kernel
theorem dX9_init_37 : decode cX9_init 37 = .ok (.aload_n 0, 1) := by decide +kernel
theorem dX9_init_38 : decode cX9_init 38 = .ok (.new 26, 3) := by decide +kernel
theorem dX9_init_41 : decode cX9_init 41 = .ok (.dup, 1) := by decide +kernel
theorem dX9_init_42 : decode cX9_init 42 = .ok (.invokespecial 28, 3) := by decide +kernel
theorem dX9_init_45 : decode cX9_init 45 = .ok (.putfield 29, 3) := by decide +kernel
theorem dX9_init_48 : decode cX9_init 48 = .ok (.aload_n 0, 1) := by decide +kernel
theorem dX9_init_49 : decode cX9_init 49 = .ok (.new 33, 3) := by decide +kernel
theorem dX9_init_52 : decode cX9_init 52 = .ok (.dup, 1) := by decide +kernel
theorem dX9_init_53 : decode cX9_init 53 = .ok (.invokespecial 35, 3) := by decide +kernel
theorem dX9_init_56 : decode cX9_init 56 = .ok (.putfield 36, 3) := by decide +kernel
theorem dX9_init_59 : decode cX9_init 59 = .ok (.aload_n 0, 1) := by decide +kernel
theorem dX9_init_60 : decode cX9_init 60 = .ok (.new 40, 3) := by decide +kernel
theorem dX9_init_63 : decode cX9_init 63 = .ok (.dup, 1) := by decide +kernel
theorem dX9_init_64 : decode cX9_init 64 = .ok (.invokespecial 42, 3) := by decide +kernel
theorem dX9_init_67 : decode cX9_init 67 = .ok (.putfield 43, 3) := by decide +kernel
theorem dX9_init_70 : decode cX9_init 70 = .ok (.aload_n 0, 1) := by decide +kernel
theorem dX9_init_71 : decode cX9_init 71 = .ok (.new 40, 3) := by decide +kernel
theorem dX9_init_74 : decode cX9_init 74 = .ok (.dup, 1) := by decide +kernel
theorem dX9_init_75 : decode cX9_init 75 = .ok (.invokespecial 42, 3) := by decide +kernel
theorem dX9_init_78 : decode cX9_init 78 = .ok (.putfield 47, 3) := by decide +kernel
theorem dX9_init_81 : decode cX9_init 81 = .ok (.aload_n 0, 1) := by decide +kernel
theorem dX9_init_82 : decode cX9_init 82 = .ok (.new 50, 3) := by decide +kernel
theorem dX9_init_85 : decode cX9_init 85 = .ok (.dup, 1) := by decide +kernel
theorem dX9_init_86 : decode cX9_init 86 = .ok (.invokespecial 52, 3) := by decide +kernel
theorem dX9_init_89 : decode cX9_init 89 = .ok (.putfield 53, 3) := by decide +kernel
theorem dX9_init_92 : decode cX9_init 92 = .ok (.aload_n 0, 1) := by decide +kernel
theorem dX9_init_93 : decode cX9_init 93 = .ok (.new 57, 3) := by decide +kernel
theorem dX9_init_96 : decode cX9_init 96 = .ok (.dup, 1) := by decide +kernel
theorem dX9_init_97 : decode cX9_init 97 = .ok (.invokespecial 59, 3) := by decide +kernel
theorem dX9_init_100 : decode cX9_init 100 = .ok (.putfield 60, 3) := by decide +kernel
theorem dX9_init_103 : decode cX9_init 103 = .ok (.aload_n 0, 1) := by decide +kernel
theorem dX9_init_104 : decode cX9_init 104 = .ok (.new 64, 3) := by decide +kernel
theorem dX9_init_107 : decode cX9_init 107 = .ok (.dup, 1) := by decide +kernel
theorem dX9_init_108 : decode cX9_init 108 = .ok (.invokespecial 66, 3) := by decide +kernel
theorem dX9_init_111 : decode cX9_init 111 = .ok (.putfield 67, 3) := by decide +kernel
theorem dX9_init_114 : decode cX9_init 114 = .ok (.aload_n 0, 1) := by decide +kernel
theorem dX9_init_115 : decode cX9_init 115 = .ok (.new 71, 3) := by decide +kernel
theorem dX9_init_118 : decode cX9_init 118 = .ok (.dup, 1) := by decide +kernel
theorem dX9_init_119 : decode cX9_init 119 = .ok (.invokespecial 73, 3) := by decide +kernel
theorem dX9_init_122 : decode cX9_init 122 = .ok (.putfield 74, 3) := by decide +kernel
theorem dX9_init_125 : decode cX9_init 125 = .ok (.return_, 1) := by decide +kernel
theorem dX9_feed_0 : decode cX9_feed 0 = .ok (.iload_n 1, 1) := by decide +kernel
theorem dX9_feed_1 : decode cX9_feed 1 = .ok (.ifCond .lt 10, 3) := by decide +kernel
theorem dX9_feed_4 : decode cX9_feed 4 = .ok (.iload_n 1, 1) := by decide +kernel
theorem dX9_feed_5 : decode cX9_feed 5 = .ok (.sipush 255, 3) := by decide +kernel
theorem dX9_feed_8 : decode cX9_feed 8 = .ok (.if_icmp .le 6, 3) := by decide +kernel
theorem dX9_feed_11 : decode cX9_feed 11 = .ok (.ldc 78, 2) := by decide +kernel
theorem dX9_feed_13 : decode cX9_feed 13 = .ok (.ireturn, 1) := by decide +kernel
theorem dX9_feed_14 : decode cX9_feed 14 = .ok (.aload_n 0, 1) := by decide +kernel
theorem dX9_feed_15 : decode cX9_feed 15 = .ok (.getfield 10, 3) := by decide +kernel
theorem dX9_feed_18 : decode cX9_feed 18 = .ok (.getfield 79, 3) := by decide +kernel
theorem dX9_feed_21 : decode cX9_feed 21 = .ok (.sipush 240, 3) := by decide +kernel
theorem dX9_feed_24 : decode cX9_feed 24 = .ok (.if_icmp .lt 6, 3) := by decide +kernel
theorem dX9_feed_27 : decode cX9_feed 27 = .ok (.ldc 83, 2) := by decide +kernel
theorem dX9_feed_29 : decode cX9_feed 29 = .ok (.ireturn, 1) := by decide +kernel
theorem dX9_feed_30 : decode cX9_feed 30 = .ok (.aload_n 0, 1) := by decide +kernel
theorem dX9_feed_31 : decode cX9_feed 31 = .ok (.getfield 10, 3) := by decide +kernel
theorem dX9_feed_34 : decode cX9_feed 34 = .ok (.iload_n 1, 1) := by decide +kernel
theorem dX9_feed_35 : decode cX9_feed 35 = .ok (.invokevirtual 84, 3) := by decide +kernel
theorem dX9_feed_38 : decode cX9_feed 38 = .ok (.ireturn, 1) := by decide +kernel
theorem dX9_house_0 : decode cX9_house 0 = .ok (.aload_n 0, 1) := by decide +kernel
theorem dX9_house_1 : decode cX9_house 1 = .ok (.getfield 10, 3) := by decide +kernel
theorem dX9_house_4 : decode cX9_house 4 = .ok (.aload_n 0, 1) := by decide +kernel
theorem dX9_house_5 : decode cX9_house 5 = .ok (.getfield 23, 3) := by decide +kernel
theorem dX9_house_8 : decode cX9_house 8 = .ok (.invokevirtual 88, 3) := by decide +kernel
theorem dX9_house_11 : decode cX9_house 11 = .ok (.istore_n 1, 1) := by decide +kernel
theorem dX9_house_12 : decode cX9_house 12 = .ok (.iload_n 1, 1) := by decide +kernel
theorem dX9_house_13 : decode cX9_house 13 = .ok (.ifCond .eq 8, 3) := by decide +kernel
theorem dX9_house_16 : decode cX9_house 16 = .ok (.bipush (-10), 2) := by decide +kernel
theorem dX9_house_18 : decode cX9_house 18 = .ok (.iload_n 1, 1) := by decide +kernel
theorem dX9_house_19 : decode cX9_house 19 = .ok (.isub, 1) := by decide +kernel
theorem dX9_house_20 : decode cX9_house 20 = .ok (.ireturn, 1) := by decide +kernel
theorem dX9_house_21 : decode cX9_house 21 = .ok (.aload_n 0, 1) := by decide +kernel
theorem dX9_house_22 : decode cX9_house 22 = .ok (.getfield 19, 3) := by decide +kernel
theorem dX9_house_25 : decode cX9_house 25 = .ok (.astore_n 2, 1) := by decide +kernel
theorem dX9_house_26 : decode cX9_house 26 = .ok (.aload_n 0, 1) := by decide +kernel
theorem dX9_house_27 : decode cX9_house 27 = .ok (.aload_n 0, 1) := by decide +kernel
theorem dX9_house_28 : decode cX9_house 28 = .ok (.getfield 23, 3) := by decide +kernel
theorem dX9_house_31 : decode cX9_house 31 = .ok (.putfield 19, 3) := by decide +kernel
theorem dX9_house_34 : decode cX9_house 34 = .ok (.aload_n 0, 1) := by decide +kernel
theorem dX9_house_35 : decode cX9_house 35 = .ok (.aload_n 2, 1) := by decide +kernel
theorem dX9_house_36 : decode cX9_house 36 = .ok (.putfield 23, 3) := by decide +kernel
theorem dX9_house_39 : decode cX9_house 39 = .ok (.aload_n 0, 1) := by decide +kernel
theorem dX9_house_40 : decode cX9_house 40 = .ok (.getfield 29, 3) := by decide +kernel
theorem dX9_house_43 : decode cX9_house 43 = .ok (.aload_n 0, 1) := by decide +kernel
theorem dX9_house_44 : decode cX9_house 44 = .ok (.getfield 19, 3) := by decide +kernel
theorem dX9_house_47 : decode cX9_house 47 = .ok (.invokevirtual 92, 3) := by decide +kernel
theorem dX9_house_50 : decode cX9_house 50 = .ok (.aload_n 0, 1) := by decide +kernel
theorem dX9_house_51 : decode cX9_house 51 = .ok (.getfield 36, 3) := by decide +kernel
theorem dX9_house_54 : decode cX9_house 54 = .ok (.invokevirtual 96, 3) := by decide +kernel
theorem dX9_house_57 : decode cX9_house 57 = .ok (.aload_n 0, 1) := by decide +kernel
theorem dX9_house_58 : decode cX9_house 58 = .ok (.getfield 43, 3) := by decide +kernel
theorem dX9_house_61 : decode cX9_house 61 = .ok (.iconst 0, 1) := by decide +kernel
theorem dX9_house_62 : decode cX9_house 62 = .ok (.putfield 99, 3) := by decide +kernel
theorem dX9_house_65 : decode cX9_house 65 = .ok (.aload_n 0, 1) := by decide +kernel
theorem dX9_house_66 : decode cX9_house 66 = .ok (.getfield 47, 3) := by decide +kernel
theorem dX9_house_69 : decode cX9_house 69 = .ok (.iconst 0, 1) := by decide +kernel
theorem dX9_house_70 : decode cX9_house 70 = .ok (.putfield 99, 3) := by decide +kernel
theorem dX9_house_73 : decode cX9_house 73 = .ok (.aload_n 0, 1) := by decide +kernel
theorem dX9_house_74 : decode cX9_house 74 = .ok (.getfield 60, 3) := by decide +kernel
theorem dX9_house_77 : decode cX9_house 77 = .ok (.invokevirtual 103, 3) := by decide +kernel
theorem dX9_house_80 : decode cX9_house 80 = .ok (.aload_n 0, 1) := by decide +kernel
theorem dX9_house_81 : decode cX9_house 81 = .ok (.getfield 67, 3) := by decide +kernel
theorem dX9_house_84 : decode cX9_house 84 = .ok (.iconst 0, 1) := by decide +kernel
theorem dX9_house_85 : decode cX9_house 85 = .ok (.putfield 104, 3) := by decide +kernel
theorem dX9_house_88 : decode cX9_house 88 = .ok (.aload_n 0, 1) := by decide +kernel
theorem dX9_house_89 : decode cX9_house 89 = .ok (.getfield 19, 3) := by decide +kernel
theorem dX9_house_92 : decode cX9_house 92 = .ok (.getfield 107, 3) := by decide +kernel
theorem dX9_house_95 : decode cX9_house 95 = .ok (.ireturn, 1) := by decide +kernel
theorem dX9_fault_0 : decode cX9_fault 0 = .ok (.aload_n 0, 1) := by decide +kernel
theorem dX9_fault_1 : decode cX9_fault 1 = .ok (.getfield 10, 3) := by decide +kernel
theorem dX9_fault_4 : decode cX9_fault 4 = .ok (.getfield 110, 3) := by decide +kernel
theorem dX9_fault_7 : decode cX9_fault 7 = .ok (.ireturn, 1) := by decide +kernel
theorem dX9_told_0 : decode cX9_told 0 = .ok (.iload_n 1, 1) := by decide +kernel
theorem dX9_told_1 : decode cX9_told 1 = .ok (.tableswitch 207 0 15 #[79, 87, 95, 103, 111, 119, 127, 135, 143, 151, 159, 167, 175, 183, 191, 199], 79) := by decide +kernel
theorem dX9_told_80 : decode cX9_told 80 = .ok (.aload_n 0, 1) := by decide +kernel
theorem dX9_told_81 : decode cX9_told 81 = .ok (.getfield 19, 3) := by decide +kernel
theorem dX9_told_84 : decode cX9_told 84 = .ok (.getfield 113, 3) := by decide +kernel
theorem dX9_told_87 : decode cX9_told 87 = .ok (.ireturn, 1) := by decide +kernel
theorem dX9_told_88 : decode cX9_told 88 = .ok (.aload_n 0, 1) := by decide +kernel
theorem dX9_told_89 : decode cX9_told 89 = .ok (.getfield 19, 3) := by decide +kernel
theorem dX9_told_92 : decode cX9_told 92 = .ok (.getfield 116, 3) := by decide +kernel
theorem dX9_told_95 : decode cX9_told 95 = .ok (.ireturn, 1) := by decide +kernel
theorem dX9_told_96 : decode cX9_told 96 = .ok (.aload_n 0, 1) := by decide +kernel
theorem dX9_told_97 : decode cX9_told 97 = .ok (.getfield 19, 3) := by decide +kernel
theorem dX9_told_100 : decode cX9_told 100 = .ok (.getfield 107, 3) := by decide +kernel
theorem dX9_told_103 : decode cX9_told 103 = .ok (.ireturn, 1) := by decide +kernel
theorem dX9_told_104 : decode cX9_told 104 = .ok (.aload_n 0, 1) := by decide +kernel
theorem dX9_told_105 : decode cX9_told 105 = .ok (.getfield 19, 3) := by decide +kernel
theorem dX9_told_108 : decode cX9_told 108 = .ok (.getfield 119, 3) := by decide +kernel
theorem dX9_told_111 : decode cX9_told 111 = .ok (.ireturn, 1) := by decide +kernel
theorem dX9_told_112 : decode cX9_told 112 = .ok (.aload_n 0, 1) := by decide +kernel
theorem dX9_told_113 : decode cX9_told 113 = .ok (.getfield 10, 3) := by decide +kernel
theorem dX9_told_116 : decode cX9_told 116 = .ok (.getfield 79, 3) := by decide +kernel
theorem dX9_told_119 : decode cX9_told 119 = .ok (.ireturn, 1) := by decide +kernel
theorem dX9_told_120 : decode cX9_told 120 = .ok (.aload_n 0, 1) := by decide +kernel
theorem dX9_told_121 : decode cX9_told 121 = .ok (.getfield 29, 3) := by decide +kernel
theorem dX9_told_124 : decode cX9_told 124 = .ok (.getfield 122, 3) := by decide +kernel
theorem dX9_told_127 : decode cX9_told 127 = .ok (.ireturn, 1) := by decide +kernel
theorem dX9_told_128 : decode cX9_told 128 = .ok (.aload_n 0, 1) := by decide +kernel
theorem dX9_told_129 : decode cX9_told 129 = .ok (.getfield 29, 3) := by decide +kernel
theorem dX9_told_132 : decode cX9_told 132 = .ok (.getfield 125, 3) := by decide +kernel
theorem dX9_told_135 : decode cX9_told 135 = .ok (.ireturn, 1) := by decide +kernel
theorem dX9_told_136 : decode cX9_told 136 = .ok (.aload_n 0, 1) := by decide +kernel
theorem dX9_told_137 : decode cX9_told 137 = .ok (.getfield 29, 3) := by decide +kernel
theorem dX9_told_140 : decode cX9_told 140 = .ok (.getfield 128, 3) := by decide +kernel
theorem dX9_told_143 : decode cX9_told 143 = .ok (.ireturn, 1) := by decide +kernel
theorem dX9_told_144 : decode cX9_told 144 = .ok (.aload_n 0, 1) := by decide +kernel
theorem dX9_told_145 : decode cX9_told 145 = .ok (.getfield 29, 3) := by decide +kernel
theorem dX9_told_148 : decode cX9_told 148 = .ok (.getfield 131, 3) := by decide +kernel
theorem dX9_told_151 : decode cX9_told 151 = .ok (.ireturn, 1) := by decide +kernel
theorem dX9_told_152 : decode cX9_told 152 = .ok (.aload_n 0, 1) := by decide +kernel
theorem dX9_told_153 : decode cX9_told 153 = .ok (.getfield 29, 3) := by decide +kernel
theorem dX9_told_156 : decode cX9_told 156 = .ok (.getfield 134, 3) := by decide +kernel
theorem dX9_told_159 : decode cX9_told 159 = .ok (.ireturn, 1) := by decide +kernel
theorem dX9_told_160 : decode cX9_told 160 = .ok (.aload_n 0, 1) := by decide +kernel
theorem dX9_told_161 : decode cX9_told 161 = .ok (.getfield 29, 3) := by decide +kernel
theorem dX9_told_164 : decode cX9_told 164 = .ok (.getfield 137, 3) := by decide +kernel
theorem dX9_told_167 : decode cX9_told 167 = .ok (.ireturn, 1) := by decide +kernel
theorem dX9_told_168 : decode cX9_told 168 = .ok (.aload_n 0, 1) := by decide +kernel
theorem dX9_told_169 : decode cX9_told 169 = .ok (.getfield 29, 3) := by decide +kernel
theorem dX9_told_172 : decode cX9_told 172 = .ok (.getfield 140, 3) := by decide +kernel
theorem dX9_told_175 : decode cX9_told 175 = .ok (.ireturn, 1) := by decide +kernel
theorem dX9_told_176 : decode cX9_told 176 = .ok (.aload_n 0, 1) := by decide +kernel
theorem dX9_told_177 : decode cX9_told 177 = .ok (.getfield 29, 3) := by decide +kernel
theorem dX9_told_180 : decode cX9_told 180 = .ok (.getfield 143, 3) := by decide +kernel
theorem dX9_told_183 : decode cX9_told 183 = .ok (.ireturn, 1) := by decide +kernel
theorem dX9_told_184 : decode cX9_told 184 = .ok (.aload_n 0, 1) := by decide +kernel
theorem dX9_told_185 : decode cX9_told 185 = .ok (.getfield 60, 3) := by decide +kernel
theorem dX9_told_188 : decode cX9_told 188 = .ok (.getfield 146, 3) := by decide +kernel
theorem dX9_told_191 : decode cX9_told 191 = .ok (.ireturn, 1) := by decide +kernel
theorem dX9_told_192 : decode cX9_told 192 = .ok (.aload_n 0, 1) := by decide +kernel
theorem dX9_told_193 : decode cX9_told 193 = .ok (.getfield 67, 3) := by decide +kernel
theorem dX9_told_196 : decode cX9_told 196 = .ok (.getfield 104, 3) := by decide +kernel
theorem dX9_told_199 : decode cX9_told 199 = .ok (.ireturn, 1) := by decide +kernel
theorem dX9_told_200 : decode cX9_told 200 = .ok (.aload_n 0, 1) := by decide +kernel
theorem dX9_told_201 : decode cX9_told 201 = .ok (.getfield 36, 3) := by decide +kernel
theorem dX9_told_204 : decode cX9_told 204 = .ok (.getfield 147, 3) := by decide +kernel
theorem dX9_told_207 : decode cX9_told 207 = .ok (.ireturn, 1) := by decide +kernel
theorem dX9_told_208 : decode cX9_told 208 = .ok (.ldc 78, 2) := by decide +kernel
theorem dX9_told_210 : decode cX9_told 210 = .ok (.ireturn, 1) := by decide +kernel
theorem dX9_mirror_0 : decode cX9_mirror 0 = .ok (.aload_n 0, 1) := by decide +kernel
theorem dX9_mirror_1 : decode cX9_mirror 1 = .ok (.getfield 19, 3) := by decide +kernel
theorem dX9_mirror_4 : decode cX9_mirror 4 = .ok (.iload_n 1, 1) := by decide +kernel
theorem dX9_mirror_5 : decode cX9_mirror 5 = .ok (.invokevirtual 148, 3) := by decide +kernel
theorem dX9_mirror_8 : decode cX9_mirror 8 = .ok (.ifCond .ne 6, 3) := by decide +kernel
theorem dX9_mirror_11 : decode cX9_mirror 11 = .ok (.ldc 152, 2) := by decide +kernel
theorem dX9_mirror_13 : decode cX9_mirror 13 = .ok (.ireturn, 1) := by decide +kernel
theorem dX9_mirror_14 : decode cX9_mirror 14 = .ok (.iload_n 2, 1) := by decide +kernel
theorem dX9_mirror_15 : decode cX9_mirror 15 = .ok (.tableswitch 93 0 4 #[33, 45, 57, 69, 81], 33) := by decide +kernel
theorem dX9_mirror_48 : decode cX9_mirror 48 = .ok (.aload_n 0, 1) := by decide +kernel
theorem dX9_mirror_49 : decode cX9_mirror 49 = .ok (.getfield 19, 3) := by decide +kernel
theorem dX9_mirror_52 : decode cX9_mirror 52 = .ok (.getfield 153, 3) := by decide +kernel
theorem dX9_mirror_55 : decode cX9_mirror 55 = .ok (.iload_n 1, 1) := by decide +kernel
theorem dX9_mirror_56 : decode cX9_mirror 56 = .ok (.invokestatic 157, 3) := by decide +kernel
theorem dX9_mirror_59 : decode cX9_mirror 59 = .ok (.ireturn, 1) := by decide +kernel
theorem dX9_mirror_60 : decode cX9_mirror 60 = .ok (.aload_n 0, 1) := by decide +kernel
theorem dX9_mirror_61 : decode cX9_mirror 61 = .ok (.getfield 29, 3) := by decide +kernel
theorem dX9_mirror_64 : decode cX9_mirror 64 = .ok (.getfield 161, 3) := by decide +kernel
theorem dX9_mirror_67 : decode cX9_mirror 67 = .ok (.iload_n 1, 1) := by decide +kernel
theorem dX9_mirror_68 : decode cX9_mirror 68 = .ok (.invokestatic 157, 3) := by decide +kernel
theorem dX9_mirror_71 : decode cX9_mirror 71 = .ok (.ireturn, 1) := by decide +kernel
theorem dX9_mirror_72 : decode cX9_mirror 72 = .ok (.aload_n 0, 1) := by decide +kernel
theorem dX9_mirror_73 : decode cX9_mirror 73 = .ok (.getfield 19, 3) := by decide +kernel
theorem dX9_mirror_76 : decode cX9_mirror 76 = .ok (.getfield 164, 3) := by decide +kernel
theorem dX9_mirror_79 : decode cX9_mirror 79 = .ok (.iload_n 1, 1) := by decide +kernel
theorem dX9_mirror_80 : decode cX9_mirror 80 = .ok (.invokestatic 157, 3) := by decide +kernel
theorem dX9_mirror_83 : decode cX9_mirror 83 = .ok (.ireturn, 1) := by decide +kernel
theorem dX9_mirror_84 : decode cX9_mirror 84 = .ok (.aload_n 0, 1) := by decide +kernel
theorem dX9_mirror_85 : decode cX9_mirror 85 = .ok (.getfield 29, 3) := by decide +kernel
theorem dX9_mirror_88 : decode cX9_mirror 88 = .ok (.getfield 167, 3) := by decide +kernel
theorem dX9_mirror_91 : decode cX9_mirror 91 = .ok (.iload_n 1, 1) := by decide +kernel
theorem dX9_mirror_92 : decode cX9_mirror 92 = .ok (.invokestatic 157, 3) := by decide +kernel
theorem dX9_mirror_95 : decode cX9_mirror 95 = .ok (.ireturn, 1) := by decide +kernel
theorem dX9_mirror_96 : decode cX9_mirror 96 = .ok (.aload_n 0, 1) := by decide +kernel
theorem dX9_mirror_97 : decode cX9_mirror 97 = .ok (.getfield 29, 3) := by decide +kernel
theorem dX9_mirror_100 : decode cX9_mirror 100 = .ok (.getfield 170, 3) := by decide +kernel
theorem dX9_mirror_103 : decode cX9_mirror 103 = .ok (.iload_n 1, 1) := by decide +kernel
theorem dX9_mirror_104 : decode cX9_mirror 104 = .ok (.invokestatic 157, 3) := by decide +kernel
theorem dX9_mirror_107 : decode cX9_mirror 107 = .ok (.ireturn, 1) := by decide +kernel
theorem dX9_mirror_108 : decode cX9_mirror 108 = .ok (.ldc 78, 2) := by decide +kernel
theorem dX9_mirror_110 : decode cX9_mirror 110 = .ok (.ireturn, 1) := by decide +kernel
theorem dX9_doorOf_0 : decode cX9_doorOf 0 = .ok (.aload_n 0, 1) := by decide +kernel
theorem dX9_doorOf_1 : decode cX9_doorOf 1 = .ok (.getfield 19, 3) := by decide +kernel
theorem dX9_doorOf_4 : decode cX9_doorOf 4 = .ok (.iload_n 1, 1) := by decide +kernel
theorem dX9_doorOf_5 : decode cX9_doorOf 5 = .ok (.invokevirtual 173, 3) := by decide +kernel
theorem dX9_doorOf_8 : decode cX9_doorOf 8 = .ok (.ifCond .ne 6, 3) := by decide +kernel
theorem dX9_doorOf_11 : decode cX9_doorOf 11 = .ok (.ldc 152, 2) := by decide +kernel
theorem dX9_doorOf_13 : decode cX9_doorOf 13 = .ok (.ireturn, 1) := by decide +kernel
theorem dX9_doorOf_14 : decode cX9_doorOf 14 = .ok (.iload_n 2, 1) := by decide +kernel
theorem dX9_doorOf_15 : decode cX9_doorOf 15 = .ok (.lookupswitch 49 #[(0, 25), (1, 37)], 25) := by decide +kernel
theorem dX9_doorOf_40 : decode cX9_doorOf 40 = .ok (.aload_n 0, 1) := by decide +kernel
theorem dX9_doorOf_41 : decode cX9_doorOf 41 = .ok (.getfield 19, 3) := by decide +kernel
theorem dX9_doorOf_44 : decode cX9_doorOf 44 = .ok (.getfield 176, 3) := by decide +kernel
theorem dX9_doorOf_47 : decode cX9_doorOf 47 = .ok (.iload_n 1, 1) := by decide +kernel
theorem dX9_doorOf_48 : decode cX9_doorOf 48 = .ok (.invokestatic 157, 3) := by decide +kernel
theorem dX9_doorOf_51 : decode cX9_doorOf 51 = .ok (.ireturn, 1) := by decide +kernel
theorem dX9_doorOf_52 : decode cX9_doorOf 52 = .ok (.aload_n 0, 1) := by decide +kernel
theorem dX9_doorOf_53 : decode cX9_doorOf 53 = .ok (.getfield 19, 3) := by decide +kernel
theorem dX9_doorOf_56 : decode cX9_doorOf 56 = .ok (.getfield 179, 3) := by decide +kernel
theorem dX9_doorOf_59 : decode cX9_doorOf 59 = .ok (.iload_n 1, 1) := by decide +kernel
theorem dX9_doorOf_60 : decode cX9_doorOf 60 = .ok (.invokestatic 157, 3) := by decide +kernel
theorem dX9_doorOf_63 : decode cX9_doorOf 63 = .ok (.ireturn, 1) := by decide +kernel
theorem dX9_doorOf_64 : decode cX9_doorOf 64 = .ok (.ldc 78, 2) := by decide +kernel
theorem dX9_doorOf_66 : decode cX9_doorOf 66 = .ok (.ireturn, 1) := by decide +kernel
theorem dX9_person_0 : decode cX9_person 0 = .ok (.aload_n 0, 1) := by decide +kernel
theorem dX9_person_1 : decode cX9_person 1 = .ok (.getfield 19, 3) := by decide +kernel
theorem dX9_person_4 : decode cX9_person 4 = .ok (.iload_n 1, 1) := by decide +kernel
theorem dX9_person_5 : decode cX9_person 5 = .ok (.invokevirtual 182, 3) := by decide +kernel
theorem dX9_person_8 : decode cX9_person 8 = .ok (.ifCond .eq 17, 3) := by decide +kernel
theorem dX9_person_11 : decode cX9_person 11 = .ok (.aload_n 0, 1) := by decide +kernel
theorem dX9_person_12 : decode cX9_person 12 = .ok (.getfield 29, 3) := by decide +kernel
theorem dX9_person_15 : decode cX9_person 15 = .ok (.getfield 185, 3) := by decide +kernel
theorem dX9_person_18 : decode cX9_person 18 = .ok (.iload_n 1, 1) := by decide +kernel
theorem dX9_person_19 : decode cX9_person 19 = .ok (.invokestatic 157, 3) := by decide +kernel
theorem dX9_person_22 : decode cX9_person 22 = .ok (.goto 5, 3) := by decide +kernel
theorem dX9_person_25 : decode cX9_person 25 = .ok (.ldc 152, 2) := by decide +kernel
theorem dX9_person_27 : decode cX9_person 27 = .ok (.ireturn, 1) := by decide +kernel
theorem dX9_sees_0 : decode cX9_sees 0 = .ok (.aload_n 0, 1) := by decide +kernel
theorem dX9_sees_1 : decode cX9_sees 1 = .ok (.getfield 19, 3) := by decide +kernel
theorem dX9_sees_4 : decode cX9_sees 4 = .ok (.iload_n 1, 1) := by decide +kernel
theorem dX9_sees_5 : decode cX9_sees 5 = .ok (.invokevirtual 182, 3) := by decide +kernel
theorem dX9_sees_8 : decode cX9_sees 8 = .ok (.ifCond .eq 19, 3) := by decide +kernel
theorem dX9_sees_11 : decode cX9_sees 11 = .ok (.aload_n 0, 1) := by decide +kernel
theorem dX9_sees_12 : decode cX9_sees 12 = .ok (.getfield 19, 3) := by decide +kernel
theorem dX9_sees_15 : decode cX9_sees 15 = .ok (.iload_n 2, 1) := by decide +kernel
theorem dX9_sees_16 : decode cX9_sees 16 = .ok (.invokevirtual 182, 3) := by decide +kernel
theorem dX9_sees_19 : decode cX9_sees 19 = .ok (.ifCond .eq 8, 3) := by decide +kernel
theorem dX9_sees_22 : decode cX9_sees 22 = .ok (.iload_n 1, 1) := by decide +kernel
theorem dX9_sees_23 : decode cX9_sees 23 = .ok (.iload_n 2, 1) := by decide +kernel
theorem dX9_sees_24 : decode cX9_sees 24 = .ok (.if_icmp .ne 6, 3) := by decide +kernel
theorem dX9_sees_27 : decode cX9_sees 27 = .ok (.ldc 152, 2) := by decide +kernel
theorem dX9_sees_29 : decode cX9_sees 29 = .ok (.ireturn, 1) := by decide +kernel
theorem dX9_sees_30 : decode cX9_sees 30 = .ok (.aload_n 0, 1) := by decide +kernel
theorem dX9_sees_31 : decode cX9_sees 31 = .ok (.getfield 29, 3) := by decide +kernel
theorem dX9_sees_34 : decode cX9_sees 34 = .ok (.getfield 185, 3) := by decide +kernel
theorem dX9_sees_37 : decode cX9_sees 37 = .ok (.iload_n 1, 1) := by decide +kernel
theorem dX9_sees_38 : decode cX9_sees 38 = .ok (.invokestatic 157, 3) := by decide +kernel
theorem dX9_sees_41 : decode cX9_sees 41 = .ok (.istore_n 3, 1) := by decide +kernel
theorem dX9_sees_42 : decode cX9_sees 42 = .ok (.aload_n 0, 1) := by decide +kernel
theorem dX9_sees_43 : decode cX9_sees 43 = .ok (.getfield 29, 3) := by decide +kernel
theorem dX9_sees_46 : decode cX9_sees 46 = .ok (.getfield 128, 3) := by decide +kernel
theorem dX9_sees_49 : decode cX9_sees 49 = .ok (.aload_n 0, 1) := by decide +kernel
theorem dX9_sees_50 : decode cX9_sees 50 = .ok (.getfield 19, 3) := by decide +kernel
theorem dX9_sees_53 : decode cX9_sees 53 = .ok (.iload_n 3, 1) := by decide +kernel
theorem dX9_sees_54 : decode cX9_sees 54 = .ok (.invokevirtual 188, 3) := by decide +kernel
theorem dX9_sees_57 : decode cX9_sees 57 = .ok (.iand, 1) := by decide +kernel
theorem dX9_sees_58 : decode cX9_sees 58 = .ok (.ifCond .eq 21, 3) := by decide +kernel
theorem dX9_sees_61 : decode cX9_sees 61 = .ok (.aload_n 0, 1) := by decide +kernel
theorem dX9_sees_62 : decode cX9_sees 62 = .ok (.getfield 29, 3) := by decide +kernel
theorem dX9_sees_65 : decode cX9_sees 65 = .ok (.getfield 134, 3) := by decide +kernel
theorem dX9_sees_68 : decode cX9_sees 68 = .ok (.iload_n 3, 1) := by decide +kernel
theorem dX9_sees_69 : decode cX9_sees 69 = .ok (.invokestatic 191, 3) := by decide +kernel
theorem dX9_sees_72 : decode cX9_sees 72 = .ok (.ifCond .ne 7, 3) := by decide +kernel
theorem dX9_sees_75 : decode cX9_sees 75 = .ok (.iconst 1, 1) := by decide +kernel
theorem dX9_sees_76 : decode cX9_sees 76 = .ok (.goto 4, 3) := by decide +kernel
theorem dX9_sees_79 : decode cX9_sees 79 = .ok (.iconst 0, 1) := by decide +kernel
theorem dX9_sees_80 : decode cX9_sees 80 = .ok (.istore 4, 2) := by decide +kernel
theorem dX9_sees_82 : decode cX9_sees 82 = .ok (.iload 4, 2) := by decide +kernel
theorem dX9_sees_84 : decode cX9_sees 84 = .ok (.ifCond .eq 36, 3) := by decide +kernel
theorem dX9_sees_87 : decode cX9_sees 87 = .ok (.aload_n 0, 1) := by decide +kernel
theorem dX9_sees_88 : decode cX9_sees 88 = .ok (.getfield 29, 3) := by decide +kernel
theorem dX9_sees_91 : decode cX9_sees 91 = .ok (.aload_n 0, 1) := by decide +kernel
theorem dX9_sees_92 : decode cX9_sees 92 = .ok (.getfield 19, 3) := by decide +kernel
theorem dX9_sees_95 : decode cX9_sees 95 = .ok (.iload_n 3, 1) := by decide +kernel
theorem dX9_sees_96 : decode cX9_sees 96 = .ok (.invokevirtual 195, 3) := by decide +kernel
theorem dX9_sees_99 : decode cX9_sees 99 = .ok (.aload_n 0, 1) := by decide +kernel
theorem dX9_sees_100 : decode cX9_sees 100 = .ok (.getfield 29, 3) := by decide +kernel
theorem dX9_sees_103 : decode cX9_sees 103 = .ok (.getfield 185, 3) := by decide +kernel
theorem dX9_sees_106 : decode cX9_sees 106 = .ok (.iload_n 2, 1) := by decide +kernel
theorem dX9_sees_107 : decode cX9_sees 107 = .ok (.invokestatic 157, 3) := by decide +kernel
theorem dX9_sees_110 : decode cX9_sees 110 = .ok (.invokestatic 191, 3) := by decide +kernel
theorem dX9_sees_113 : decode cX9_sees 113 = .ok (.ifCond .eq 7, 3) := by decide +kernel
theorem dX9_sees_116 : decode cX9_sees 116 = .ok (.iconst 1, 1) := by decide +kernel
theorem dX9_sees_117 : decode cX9_sees 117 = .ok (.goto 4, 3) := by decide +kernel
theorem dX9_sees_120 : decode cX9_sees 120 = .ok (.iconst 0, 1) := by decide +kernel
theorem dX9_sees_121 : decode cX9_sees 121 = .ok (.ireturn, 1) := by decide +kernel
theorem dX9_step_0 : decode cX9_step 0 = .ok (.aload_n 0, 1) := by decide +kernel
theorem dX9_step_1 : decode cX9_step 1 = .ok (.getfield 19, 3) := by decide +kernel
theorem dX9_step_4 : decode cX9_step 4 = .ok (.iload_n 1, 1) := by decide +kernel
theorem dX9_step_5 : decode cX9_step 5 = .ok (.invokevirtual 199, 3) := by decide +kernel
theorem dX9_step_8 : decode cX9_step 8 = .ok (.ifCond .ne 6, 3) := by decide +kernel
theorem dX9_step_11 : decode cX9_step 11 = .ok (.ldc 152, 2) := by decide +kernel
theorem dX9_step_13 : decode cX9_step 13 = .ok (.ireturn, 1) := by decide +kernel
theorem dX9_step_14 : decode cX9_step 14 = .ok (.aload_n 0, 1) := by decide +kernel
theorem dX9_step_15 : decode cX9_step 15 = .ok (.getfield 29, 3) := by decide +kernel
theorem dX9_step_18 : decode cX9_step 18 = .ok (.aload_n 0, 1) := by decide +kernel
theorem dX9_step_19 : decode cX9_step 19 = .ok (.getfield 19, 3) := by decide +kernel
theorem dX9_step_22 : decode cX9_step 22 = .ok (.aload_n 0, 1) := by decide +kernel
theorem dX9_step_23 : decode cX9_step 23 = .ok (.getfield 29, 3) := by decide +kernel
theorem dX9_step_26 : decode cX9_step 26 = .ok (.getfield 122, 3) := by decide +kernel
theorem dX9_step_29 : decode cX9_step 29 = .ok (.invokevirtual 202, 3) := by decide +kernel
theorem dX9_step_32 : decode cX9_step 32 = .ok (.iload_n 1, 1) := by decide +kernel
theorem dX9_step_33 : decode cX9_step 33 = .ok (.invokestatic 191, 3) := by decide +kernel
theorem dX9_step_36 : decode cX9_step 36 = .ok (.ifCond .ne 6, 3) := by decide +kernel
theorem dX9_step_39 : decode cX9_step 39 = .ok (.ldc 205, 2) := by decide +kernel
theorem dX9_step_41 : decode cX9_step 41 = .ok (.ireturn, 1) := by decide +kernel
theorem dX9_step_42 : decode cX9_step 42 = .ok (.aload_n 0, 1) := by decide +kernel
theorem dX9_step_43 : decode cX9_step 43 = .ok (.getfield 29, 3) := by decide +kernel
theorem dX9_step_46 : decode cX9_step 46 = .ok (.getfield 140, 3) := by decide +kernel
theorem dX9_step_49 : decode cX9_step 49 = .ok (.ldc 206, 2) := by decide +kernel
theorem dX9_step_51 : decode cX9_step 51 = .ok (.if_icmp .le 6, 3) := by decide +kernel
theorem dX9_step_54 : decode cX9_step 54 = .ok (.ldc 83, 2) := by decide +kernel
theorem dX9_step_56 : decode cX9_step 56 = .ok (.ireturn, 1) := by decide +kernel
theorem dX9_step_57 : decode cX9_step 57 = .ok (.aload_n 0, 1) := by decide +kernel
theorem dX9_step_58 : decode cX9_step 58 = .ok (.getfield 36, 3) := by decide +kernel
theorem dX9_step_61 : decode cX9_step 61 = .ok (.aload_n 0, 1) := by decide +kernel
theorem dX9_step_62 : decode cX9_step 62 = .ok (.getfield 29, 3) := by decide +kernel
theorem dX9_step_65 : decode cX9_step 65 = .ok (.invokevirtual 207, 3) := by decide +kernel
theorem dX9_step_68 : decode cX9_step 68 = .ok (.aload_n 0, 1) := by decide +kernel
theorem dX9_step_69 : decode cX9_step 69 = .ok (.getfield 29, 3) := by decide +kernel
theorem dX9_step_72 : decode cX9_step 72 = .ok (.iload_n 1, 1) := by decide +kernel
theorem dX9_step_73 : decode cX9_step 73 = .ok (.putfield 122, 3) := by decide +kernel
theorem dX9_step_76 : decode cX9_step 76 = .ok (.aload_n 0, 1) := by decide +kernel
theorem dX9_step_77 : decode cX9_step 77 = .ok (.getfield 29, 3) := by decide +kernel
theorem dX9_step_80 : decode cX9_step 80 = .ok (.dup, 1) := by decide +kernel
theorem dX9_step_81 : decode cX9_step 81 = .ok (.getfield 140, 3) := by decide +kernel
theorem dX9_step_84 : decode cX9_step 84 = .ok (.iconst 1, 1) := by decide +kernel
theorem dX9_step_85 : decode cX9_step 85 = .ok (.iadd, 1) := by decide +kernel
theorem dX9_step_86 : decode cX9_step 86 = .ok (.putfield 140, 3) := by decide +kernel
theorem dX9_step_89 : decode cX9_step 89 = .ok (.aload_n 0, 1) := by decide +kernel
theorem dX9_step_90 : decode cX9_step 90 = .ok (.getfield 29, 3) := by decide +kernel
theorem dX9_step_93 : decode cX9_step 93 = .ok (.getfield 140, 3) := by decide +kernel
theorem dX9_step_96 : decode cX9_step 96 = .ok (.ireturn, 1) := by decide +kernel
theorem dX9_greet_0 : decode cX9_greet 0 = .ok (.aload_n 0, 1) := by decide +kernel
theorem dX9_greet_1 : decode cX9_greet 1 = .ok (.getfield 19, 3) := by decide +kernel
theorem dX9_greet_4 : decode cX9_greet 4 = .ok (.iload_n 1, 1) := by decide +kernel
theorem dX9_greet_5 : decode cX9_greet 5 = .ok (.invokevirtual 148, 3) := by decide +kernel
theorem dX9_greet_8 : decode cX9_greet 8 = .ok (.ifCond .eq 10, 3) := by decide +kernel
theorem dX9_greet_11 : decode cX9_greet 11 = .ok (.iload_n 2, 1) := by decide +kernel
theorem dX9_greet_12 : decode cX9_greet 12 = .ok (.invokestatic 211, 3) := by decide +kernel
theorem dX9_greet_15 : decode cX9_greet 15 = .ok (.ifCond .ne 6, 3) := by decide +kernel
theorem dX9_greet_18 : decode cX9_greet 18 = .ok (.ldc 152, 2) := by decide +kernel
theorem dX9_greet_20 : decode cX9_greet 20 = .ok (.ireturn, 1) := by decide +kernel
theorem dX9_greet_21 : decode cX9_greet 21 = .ok (.aload_n 0, 1) := by decide +kernel
theorem dX9_greet_22 : decode cX9_greet 22 = .ok (.getfield 19, 3) := by decide +kernel
theorem dX9_greet_25 : decode cX9_greet 25 = .ok (.getfield 153, 3) := by decide +kernel
theorem dX9_greet_28 : decode cX9_greet 28 = .ok (.iload_n 1, 1) := by decide +kernel
theorem dX9_greet_29 : decode cX9_greet 29 = .ok (.invokestatic 157, 3) := by decide +kernel
theorem dX9_greet_32 : decode cX9_greet 32 = .ok (.aload_n 0, 1) := by decide +kernel
theorem dX9_greet_33 : decode cX9_greet 33 = .ok (.getfield 29, 3) := by decide +kernel
theorem dX9_greet_36 : decode cX9_greet 36 = .ok (.getfield 122, 3) := by decide +kernel
theorem dX9_greet_39 : decode cX9_greet 39 = .ok (.if_icmp .ne 17, 3) := by decide +kernel
theorem dX9_greet_42 : decode cX9_greet 42 = .ok (.aload_n 0, 1) := by decide +kernel
theorem dX9_greet_43 : decode cX9_greet 43 = .ok (.getfield 29, 3) := by decide +kernel
theorem dX9_greet_46 : decode cX9_greet 46 = .ok (.getfield 125, 3) := by decide +kernel
theorem dX9_greet_49 : decode cX9_greet 49 = .ok (.iload_n 2, 1) := by decide +kernel
theorem dX9_greet_50 : decode cX9_greet 50 = .ok (.invokestatic 191, 3) := by decide +kernel
theorem dX9_greet_53 : decode cX9_greet 53 = .ok (.ifCond .ne 6, 3) := by decide +kernel
theorem dX9_greet_56 : decode cX9_greet 56 = .ok (.ldc 205, 2) := by decide +kernel
theorem dX9_greet_58 : decode cX9_greet 58 = .ok (.ireturn, 1) := by decide +kernel
theorem dX9_greet_59 : decode cX9_greet 59 = .ok (.aload_n 0, 1) := by decide +kernel
theorem dX9_greet_60 : decode cX9_greet 60 = .ok (.getfield 29, 3) := by decide +kernel
theorem dX9_greet_63 : decode cX9_greet 63 = .ok (.getfield 140, 3) := by decide +kernel
theorem dX9_greet_66 : decode cX9_greet 66 = .ok (.ldc 206, 2) := by decide +kernel
theorem dX9_greet_68 : decode cX9_greet 68 = .ok (.if_icmp .le 6, 3) := by decide +kernel
theorem dX9_greet_71 : decode cX9_greet 71 = .ok (.ldc 83, 2) := by decide +kernel
theorem dX9_greet_73 : decode cX9_greet 73 = .ok (.ireturn, 1) := by decide +kernel
theorem dX9_greet_74 : decode cX9_greet 74 = .ok (.aload_n 0, 1) := by decide +kernel
theorem dX9_greet_75 : decode cX9_greet 75 = .ok (.getfield 36, 3) := by decide +kernel
theorem dX9_greet_78 : decode cX9_greet 78 = .ok (.aload_n 0, 1) := by decide +kernel
theorem dX9_greet_79 : decode cX9_greet 79 = .ok (.getfield 29, 3) := by decide +kernel
theorem dX9_greet_82 : decode cX9_greet 82 = .ok (.invokevirtual 207, 3) := by decide +kernel
theorem dX9_greet_85 : decode cX9_greet 85 = .ok (.aload_n 0, 1) := by decide +kernel
theorem dX9_greet_86 : decode cX9_greet 86 = .ok (.getfield 29, 3) := by decide +kernel
theorem dX9_greet_89 : decode cX9_greet 89 = .ok (.dup, 1) := by decide +kernel
theorem dX9_greet_90 : decode cX9_greet 90 = .ok (.getfield 140, 3) := by decide +kernel
theorem dX9_greet_93 : decode cX9_greet 93 = .ok (.aload_n 0, 1) := by decide +kernel
theorem dX9_greet_94 : decode cX9_greet 94 = .ok (.getfield 19, 3) := by decide +kernel
theorem dX9_greet_97 : decode cX9_greet 97 = .ok (.iload_n 2, 1) := by decide +kernel
theorem dX9_greet_98 : decode cX9_greet 98 = .ok (.invokevirtual 214, 3) := by decide +kernel
theorem dX9_greet_101 : decode cX9_greet 101 = .ok (.iadd, 1) := by decide +kernel
theorem dX9_greet_102 : decode cX9_greet 102 = .ok (.putfield 140, 3) := by decide +kernel
theorem dX9_greet_105 : decode cX9_greet 105 = .ok (.aload_n 0, 1) := by decide +kernel
theorem dX9_greet_106 : decode cX9_greet 106 = .ok (.getfield 29, 3) := by decide +kernel
theorem dX9_greet_109 : decode cX9_greet 109 = .ok (.aload_n 0, 1) := by decide +kernel
theorem dX9_greet_110 : decode cX9_greet 110 = .ok (.getfield 19, 3) := by decide +kernel
theorem dX9_greet_113 : decode cX9_greet 113 = .ok (.iload_n 1, 1) := by decide +kernel
theorem dX9_greet_114 : decode cX9_greet 114 = .ok (.iload_n 2, 1) := by decide +kernel
theorem dX9_greet_115 : decode cX9_greet 115 = .ok (.invokevirtual 217, 3) := by decide +kernel
theorem dX9_greet_118 : decode cX9_greet 118 = .ok (.ifCond .eq 7, 3) := by decide +kernel
theorem dX9_greet_121 : decode cX9_greet 121 = .ok (.iconst 1, 1) := by decide +kernel
theorem dX9_greet_122 : decode cX9_greet 122 = .ok (.goto 4, 3) := by decide +kernel
theorem dX9_greet_125 : decode cX9_greet 125 = .ok (.iconst 0, 1) := by decide +kernel
theorem dX9_greet_126 : decode cX9_greet 126 = .ok (.ireturn, 1) := by decide +kernel
theorem dX9_steam_0 : decode cX9_steam 0 = .ok (.aload_n 0, 1) := by decide +kernel
theorem dX9_steam_1 : decode cX9_steam 1 = .ok (.getfield 19, 3) := by decide +kernel
theorem dX9_steam_4 : decode cX9_steam 4 = .ok (.iload_n 1, 1) := by decide +kernel
theorem dX9_steam_5 : decode cX9_steam 5 = .ok (.invokevirtual 199, 3) := by decide +kernel
theorem dX9_steam_8 : decode cX9_steam 8 = .ok (.ifCond .ne 6, 3) := by decide +kernel
theorem dX9_steam_11 : decode cX9_steam 11 = .ok (.ldc 152, 2) := by decide +kernel
theorem dX9_steam_13 : decode cX9_steam 13 = .ok (.ireturn, 1) := by decide +kernel
theorem dX9_steam_14 : decode cX9_steam 14 = .ok (.aload_n 0, 1) := by decide +kernel
theorem dX9_steam_15 : decode cX9_steam 15 = .ok (.getfield 36, 3) := by decide +kernel
theorem dX9_steam_18 : decode cX9_steam 18 = .ok (.aload_n 0, 1) := by decide +kernel
theorem dX9_steam_19 : decode cX9_steam 19 = .ok (.getfield 29, 3) := by decide +kernel
theorem dX9_steam_22 : decode cX9_steam 22 = .ok (.invokevirtual 207, 3) := by decide +kernel
theorem dX9_steam_25 : decode cX9_steam 25 = .ok (.aload_n 0, 1) := by decide +kernel
theorem dX9_steam_26 : decode cX9_steam 26 = .ok (.getfield 29, 3) := by decide +kernel
theorem dX9_steam_29 : decode cX9_steam 29 = .ok (.getfield 134, 3) := by decide +kernel
theorem dX9_steam_32 : decode cX9_steam 32 = .ok (.iload_n 1, 1) := by decide +kernel
theorem dX9_steam_33 : decode cX9_steam 33 = .ok (.invokestatic 191, 3) := by decide +kernel
theorem dX9_steam_36 : decode cX9_steam 36 = .ok (.ifCond .eq 7, 3) := by decide +kernel
theorem dX9_steam_39 : decode cX9_steam 39 = .ok (.iconst 1, 1) := by decide +kernel
theorem dX9_steam_40 : decode cX9_steam 40 = .ok (.goto 4, 3) := by decide +kernel
theorem dX9_steam_43 : decode cX9_steam 43 = .ok (.iconst 0, 1) := by decide +kernel
theorem dX9_steam_44 : decode cX9_steam 44 = .ok (.istore_n 3, 1) := by decide +kernel
theorem dX9_steam_45 : decode cX9_steam 45 = .ok (.aload_n 0, 1) := by decide +kernel
theorem dX9_steam_46 : decode cX9_steam 46 = .ok (.getfield 29, 3) := by decide +kernel
theorem dX9_steam_49 : decode cX9_steam 49 = .ok (.aload_n 0, 1) := by decide +kernel
theorem dX9_steam_50 : decode cX9_steam 50 = .ok (.getfield 29, 3) := by decide +kernel
theorem dX9_steam_53 : decode cX9_steam 53 = .ok (.getfield 134, 3) := by decide +kernel
theorem dX9_steam_56 : decode cX9_steam 56 = .ok (.iload_n 1, 1) := by decide +kernel
theorem dX9_steam_57 : decode cX9_steam 57 = .ok (.iload_n 2, 1) := by decide +kernel
theorem dX9_steam_58 : decode cX9_steam 58 = .ok (.invokestatic 221, 3) := by decide +kernel
theorem dX9_steam_61 : decode cX9_steam 61 = .ok (.putfield 134, 3) := by decide +kernel
theorem dX9_steam_64 : decode cX9_steam 64 = .ok (.iload_n 3, 1) := by decide +kernel
theorem dX9_steam_65 : decode cX9_steam 65 = .ok (.ireturn, 1) := by decide +kernel
theorem dX9_door_0 : decode cX9_door 0 = .ok (.aload_n 0, 1) := by decide +kernel
theorem dX9_door_1 : decode cX9_door 1 = .ok (.getfield 19, 3) := by decide +kernel
theorem dX9_door_4 : decode cX9_door 4 = .ok (.iload_n 1, 1) := by decide +kernel
theorem dX9_door_5 : decode cX9_door 5 = .ok (.invokevirtual 173, 3) := by decide +kernel
theorem dX9_door_8 : decode cX9_door 8 = .ok (.ifCond .ne 6, 3) := by decide +kernel
theorem dX9_door_11 : decode cX9_door 11 = .ok (.ldc 152, 2) := by decide +kernel
theorem dX9_door_13 : decode cX9_door 13 = .ok (.ireturn, 1) := by decide +kernel
theorem dX9_door_14 : decode cX9_door 14 = .ok (.aload_n 0, 1) := by decide +kernel
theorem dX9_door_15 : decode cX9_door 15 = .ok (.getfield 36, 3) := by decide +kernel
theorem dX9_door_18 : decode cX9_door 18 = .ok (.aload_n 0, 1) := by decide +kernel
theorem dX9_door_19 : decode cX9_door 19 = .ok (.getfield 29, 3) := by decide +kernel
theorem dX9_door_22 : decode cX9_door 22 = .ok (.invokevirtual 207, 3) := by decide +kernel
theorem dX9_door_25 : decode cX9_door 25 = .ok (.aload_n 0, 1) := by decide +kernel
theorem dX9_door_26 : decode cX9_door 26 = .ok (.getfield 29, 3) := by decide +kernel
theorem dX9_door_29 : decode cX9_door 29 = .ok (.getfield 137, 3) := by decide +kernel
theorem dX9_door_32 : decode cX9_door 32 = .ok (.iload_n 1, 1) := by decide +kernel
theorem dX9_door_33 : decode cX9_door 33 = .ok (.invokestatic 191, 3) := by decide +kernel
theorem dX9_door_36 : decode cX9_door 36 = .ok (.ifCond .eq 7, 3) := by decide +kernel
theorem dX9_door_39 : decode cX9_door 39 = .ok (.iconst 1, 1) := by decide +kernel
theorem dX9_door_40 : decode cX9_door 40 = .ok (.goto 4, 3) := by decide +kernel
theorem dX9_door_43 : decode cX9_door 43 = .ok (.iconst 0, 1) := by decide +kernel
theorem dX9_door_44 : decode cX9_door 44 = .ok (.istore_n 3, 1) := by decide +kernel
theorem dX9_door_45 : decode cX9_door 45 = .ok (.aload_n 0, 1) := by decide +kernel
theorem dX9_door_46 : decode cX9_door 46 = .ok (.getfield 29, 3) := by decide +kernel
theorem dX9_door_49 : decode cX9_door 49 = .ok (.aload_n 0, 1) := by decide +kernel
theorem dX9_door_50 : decode cX9_door 50 = .ok (.getfield 29, 3) := by decide +kernel
theorem dX9_door_53 : decode cX9_door 53 = .ok (.getfield 137, 3) := by decide +kernel
theorem dX9_door_56 : decode cX9_door 56 = .ok (.iload_n 1, 1) := by decide +kernel
theorem dX9_door_57 : decode cX9_door 57 = .ok (.iload_n 2, 1) := by decide +kernel
theorem dX9_door_58 : decode cX9_door 58 = .ok (.invokestatic 221, 3) := by decide +kernel
theorem dX9_door_61 : decode cX9_door 61 = .ok (.putfield 137, 3) := by decide +kernel
theorem dX9_door_64 : decode cX9_door 64 = .ok (.iload_n 3, 1) := by decide +kernel
theorem dX9_door_65 : decode cX9_door 65 = .ok (.ireturn, 1) := by decide +kernel
theorem dX9_night_0 : decode cX9_night 0 = .ok (.aload_n 0, 1) := by decide +kernel
theorem dX9_night_1 : decode cX9_night 1 = .ok (.getfield 19, 3) := by decide +kernel
theorem dX9_night_4 : decode cX9_night 4 = .ok (.getfield 113, 3) := by decide +kernel
theorem dX9_night_7 : decode cX9_night 7 = .ok (.ifCond .ne 6, 3) := by decide +kernel
theorem dX9_night_10 : decode cX9_night 10 = .ok (.ldc 205, 2) := by decide +kernel
theorem dX9_night_12 : decode cX9_night 12 = .ok (.ireturn, 1) := by decide +kernel
theorem dX9_night_13 : decode cX9_night 13 = .ok (.aload_n 0, 1) := by decide +kernel
theorem dX9_night_14 : decode cX9_night 14 = .ok (.getfield 29, 3) := by decide +kernel
theorem dX9_night_17 : decode cX9_night 17 = .ok (.getfield 143, 3) := by decide +kernel
theorem dX9_night_20 : decode cX9_night 20 = .ok (.sipush 9000, 3) := by decide +kernel
theorem dX9_night_23 : decode cX9_night 23 = .ok (.if_icmp .le 6, 3) := by decide +kernel
theorem dX9_night_26 : decode cX9_night 26 = .ok (.ldc 83, 2) := by decide +kernel
theorem dX9_night_28 : decode cX9_night 28 = .ok (.ireturn, 1) := by decide +kernel
theorem dX9_night_29 : decode cX9_night 29 = .ok (.aload_n 0, 1) := by decide +kernel
theorem dX9_night_30 : decode cX9_night 30 = .ok (.getfield 36, 3) := by decide +kernel
theorem dX9_night_33 : decode cX9_night 33 = .ok (.aload_n 0, 1) := by decide +kernel
theorem dX9_night_34 : decode cX9_night 34 = .ok (.getfield 29, 3) := by decide +kernel
theorem dX9_night_37 : decode cX9_night 37 = .ok (.invokevirtual 207, 3) := by decide +kernel
theorem dX9_night_40 : decode cX9_night 40 = .ok (.aload_n 0, 1) := by decide +kernel
theorem dX9_night_41 : decode cX9_night 41 = .ok (.getfield 29, 3) := by decide +kernel
theorem dX9_night_44 : decode cX9_night 44 = .ok (.iconst 0, 1) := by decide +kernel
theorem dX9_night_45 : decode cX9_night 45 = .ok (.putfield 128, 3) := by decide +kernel
theorem dX9_night_48 : decode cX9_night 48 = .ok (.aload_n 0, 1) := by decide +kernel
theorem dX9_night_49 : decode cX9_night 49 = .ok (.getfield 29, 3) := by decide +kernel
theorem dX9_night_52 : decode cX9_night 52 = .ok (.iconst 0, 1) := by decide +kernel
theorem dX9_night_53 : decode cX9_night 53 = .ok (.putfield 131, 3) := by decide +kernel
theorem dX9_night_56 : decode cX9_night 56 = .ok (.aload_n 0, 1) := by decide +kernel
theorem dX9_night_57 : decode cX9_night 57 = .ok (.getfield 29, 3) := by decide +kernel
theorem dX9_night_60 : decode cX9_night 60 = .ok (.iconst 0, 1) := by decide +kernel
theorem dX9_night_61 : decode cX9_night 61 = .ok (.putfield 134, 3) := by decide +kernel
theorem dX9_night_64 : decode cX9_night 64 = .ok (.aload_n 0, 1) := by decide +kernel
theorem dX9_night_65 : decode cX9_night 65 = .ok (.getfield 29, 3) := by decide +kernel
theorem dX9_night_68 : decode cX9_night 68 = .ok (.dup, 1) := by decide +kernel
theorem dX9_night_69 : decode cX9_night 69 = .ok (.getfield 143, 3) := by decide +kernel
theorem dX9_night_72 : decode cX9_night 72 = .ok (.iconst 1, 1) := by decide +kernel
theorem dX9_night_73 : decode cX9_night 73 = .ok (.iadd, 1) := by decide +kernel
theorem dX9_night_74 : decode cX9_night 74 = .ok (.putfield 143, 3) := by decide +kernel
theorem dX9_night_77 : decode cX9_night 77 = .ok (.aload_n 0, 1) := by decide +kernel
theorem dX9_night_78 : decode cX9_night 78 = .ok (.getfield 29, 3) := by decide +kernel
theorem dX9_night_81 : decode cX9_night 81 = .ok (.getfield 143, 3) := by decide +kernel
theorem dX9_night_84 : decode cX9_night 84 = .ok (.ireturn, 1) := by decide +kernel
theorem dX9_envelope_0 : decode cX9_envelope 0 = .ok (.iload_n 1, 1) := by decide +kernel
theorem dX9_envelope_1 : decode cX9_envelope 1 = .ok (.invokestatic 211, 3) := by decide +kernel
theorem dX9_envelope_4 : decode cX9_envelope 4 = .ok (.ifCond .ne 6, 3) := by decide +kernel
theorem dX9_envelope_7 : decode cX9_envelope 7 = .ok (.ldc 152, 2) := by decide +kernel
theorem dX9_envelope_9 : decode cX9_envelope 9 = .ok (.ireturn, 1) := by decide +kernel
theorem dX9_envelope_10 : decode cX9_envelope 10 = .ok (.aload_n 0, 1) := by decide +kernel
theorem dX9_envelope_11 : decode cX9_envelope 11 = .ok (.getfield 36, 3) := by decide +kernel
theorem dX9_envelope_14 : decode cX9_envelope 14 = .ok (.aload_n 0, 1) := by decide +kernel
theorem dX9_envelope_15 : decode cX9_envelope 15 = .ok (.getfield 29, 3) := by decide +kernel
theorem dX9_envelope_18 : decode cX9_envelope 18 = .ok (.invokevirtual 207, 3) := by decide +kernel
theorem dX9_envelope_21 : decode cX9_envelope 21 = .ok (.aload_n 0, 1) := by decide +kernel
theorem dX9_envelope_22 : decode cX9_envelope 22 = .ok (.getfield 29, 3) := by decide +kernel
theorem dX9_envelope_25 : decode cX9_envelope 25 = .ok (.aload_n 0, 1) := by decide +kernel
theorem dX9_envelope_26 : decode cX9_envelope 26 = .ok (.getfield 29, 3) := by decide +kernel
theorem dX9_envelope_29 : decode cX9_envelope 29 = .ok (.getfield 125, 3) := by decide +kernel
theorem dX9_envelope_32 : decode cX9_envelope 32 = .ok (.iload_n 1, 1) := by decide +kernel
theorem dX9_envelope_33 : decode cX9_envelope 33 = .ok (.iconst 1, 1) := by decide +kernel
theorem dX9_envelope_34 : decode cX9_envelope 34 = .ok (.invokestatic 221, 3) := by decide +kernel
theorem dX9_envelope_37 : decode cX9_envelope 37 = .ok (.putfield 125, 3) := by decide +kernel
theorem dX9_envelope_40 : decode cX9_envelope 40 = .ok (.aload_n 0, 1) := by decide +kernel
theorem dX9_envelope_41 : decode cX9_envelope 41 = .ok (.getfield 29, 3) := by decide +kernel
theorem dX9_envelope_44 : decode cX9_envelope 44 = .ok (.getfield 125, 3) := by decide +kernel
theorem dX9_envelope_47 : decode cX9_envelope 47 = .ok (.ireturn, 1) := by decide +kernel
theorem dX9_walk_0 : decode cX9_walk 0 = .ok (.aload_n 0, 1) := by decide +kernel
theorem dX9_walk_1 : decode cX9_walk 1 = .ok (.getfield 19, 3) := by decide +kernel
theorem dX9_walk_4 : decode cX9_walk 4 = .ok (.iload_n 1, 1) := by decide +kernel
theorem dX9_walk_5 : decode cX9_walk 5 = .ok (.invokevirtual 182, 3) := by decide +kernel
theorem dX9_walk_8 : decode cX9_walk 8 = .ok (.ifCond .eq 14, 3) := by decide +kernel
theorem dX9_walk_11 : decode cX9_walk 11 = .ok (.aload_n 0, 1) := by decide +kernel
theorem dX9_walk_12 : decode cX9_walk 12 = .ok (.getfield 19, 3) := by decide +kernel
theorem dX9_walk_15 : decode cX9_walk 15 = .ok (.iload_n 2, 1) := by decide +kernel
theorem dX9_walk_16 : decode cX9_walk 16 = .ok (.invokevirtual 199, 3) := by decide +kernel
theorem dX9_walk_19 : decode cX9_walk 19 = .ok (.ifCond .ne 6, 3) := by decide +kernel
theorem dX9_walk_22 : decode cX9_walk 22 = .ok (.ldc 152, 2) := by decide +kernel
theorem dX9_walk_24 : decode cX9_walk 24 = .ok (.ireturn, 1) := by decide +kernel
theorem dX9_walk_25 : decode cX9_walk 25 = .ok (.aload_n 0, 1) := by decide +kernel
theorem dX9_walk_26 : decode cX9_walk 26 = .ok (.getfield 36, 3) := by decide +kernel
theorem dX9_walk_29 : decode cX9_walk 29 = .ok (.aload_n 0, 1) := by decide +kernel
theorem dX9_walk_30 : decode cX9_walk 30 = .ok (.getfield 29, 3) := by decide +kernel
theorem dX9_walk_33 : decode cX9_walk 33 = .ok (.invokevirtual 207, 3) := by decide +kernel
theorem dX9_walk_36 : decode cX9_walk 36 = .ok (.aload_n 0, 1) := by decide +kernel
theorem dX9_walk_37 : decode cX9_walk 37 = .ok (.getfield 29, 3) := by decide +kernel
theorem dX9_walk_40 : decode cX9_walk 40 = .ok (.getfield 185, 3) := by decide +kernel
theorem dX9_walk_43 : decode cX9_walk 43 = .ok (.iload_n 1, 1) := by decide +kernel
theorem dX9_walk_44 : decode cX9_walk 44 = .ok (.invokestatic 157, 3) := by decide +kernel
theorem dX9_walk_47 : decode cX9_walk 47 = .ok (.istore_n 3, 1) := by decide +kernel
theorem dX9_walk_48 : decode cX9_walk 48 = .ok (.aload_n 0, 1) := by decide +kernel
theorem dX9_walk_49 : decode cX9_walk 49 = .ok (.getfield 29, 3) := by decide +kernel
theorem dX9_walk_52 : decode cX9_walk 52 = .ok (.getfield 185, 3) := by decide +kernel
theorem dX9_walk_55 : decode cX9_walk 55 = .ok (.iload_n 1, 1) := by decide +kernel
theorem dX9_walk_56 : decode cX9_walk 56 = .ok (.iload_n 2, 1) := by decide +kernel
theorem dX9_walk_57 : decode cX9_walk 57 = .ok (.invokestatic 225, 3) := by decide +kernel
theorem dX9_walk_60 : decode cX9_walk 60 = .ok (.iload_n 3, 1) := by decide +kernel
theorem dX9_walk_61 : decode cX9_walk 61 = .ok (.ireturn, 1) := by decide +kernel
theorem dX9_drift_0 : decode cX9_drift 0 = .ok (.iload_n 1, 1) := by decide +kernel
theorem dX9_drift_1 : decode cX9_drift 1 = .ok (.iconst 1, 1) := by decide +kernel
theorem dX9_drift_2 : decode cX9_drift 2 = .ok (.if_icmp .lt 9, 3) := by decide +kernel
theorem dX9_drift_5 : decode cX9_drift 5 = .ok (.iload_n 1, 1) := by decide +kernel
theorem dX9_drift_6 : decode cX9_drift 6 = .ok (.bipush 40, 2) := by decide +kernel
theorem dX9_drift_8 : decode cX9_drift 8 = .ok (.if_icmp .le 6, 3) := by decide +kernel
theorem dX9_drift_11 : decode cX9_drift 11 = .ok (.ldc 78, 2) := by decide +kernel
theorem dX9_drift_13 : decode cX9_drift 13 = .ok (.ireturn, 1) := by decide +kernel
theorem dX9_drift_14 : decode cX9_drift 14 = .ok (.aload_n 0, 1) := by decide +kernel
theorem dX9_drift_15 : decode cX9_drift 15 = .ok (.getfield 19, 3) := by decide +kernel
theorem dX9_drift_18 : decode cX9_drift 18 = .ok (.getfield 113, 3) := by decide +kernel
theorem dX9_drift_21 : decode cX9_drift 21 = .ok (.ifCond .ne 6, 3) := by decide +kernel
theorem dX9_drift_24 : decode cX9_drift 24 = .ok (.ldc 205, 2) := by decide +kernel
theorem dX9_drift_26 : decode cX9_drift 26 = .ok (.ireturn, 1) := by decide +kernel
theorem dX9_drift_27 : decode cX9_drift 27 = .ok (.aload_n 0, 1) := by decide +kernel
theorem dX9_drift_28 : decode cX9_drift 28 = .ok (.getfield 36, 3) := by decide +kernel
theorem dX9_drift_31 : decode cX9_drift 31 = .ok (.aload_n 0, 1) := by decide +kernel
theorem dX9_drift_32 : decode cX9_drift 32 = .ok (.getfield 29, 3) := by decide +kernel
theorem dX9_drift_35 : decode cX9_drift 35 = .ok (.invokevirtual 207, 3) := by decide +kernel
theorem dX9_drift_38 : decode cX9_drift 38 = .ok (.iconst 0, 1) := by decide +kernel
theorem dX9_drift_39 : decode cX9_drift 39 = .ok (.istore_n 2, 1) := by decide +kernel
theorem dX9_drift_40 : decode cX9_drift 40 = .ok (.iload_n 2, 1) := by decide +kernel
theorem dX9_drift_41 : decode cX9_drift 41 = .ok (.iload_n 1, 1) := by decide +kernel
theorem dX9_drift_42 : decode cX9_drift 42 = .ok (.if_icmp .ge 13, 3) := by decide +kernel
theorem dX9_drift_45 : decode cX9_drift 45 = .ok (.aload_n 0, 1) := by decide +kernel
theorem dX9_drift_46 : decode cX9_drift 46 = .ok (.invokevirtual 229, 3) := by decide +kernel
theorem dX9_drift_49 : decode cX9_drift 49 = .ok (.iinc 2 1, 3) := by decide +kernel
theorem dX9_drift_52 : decode cX9_drift 52 = .ok (.goto (-12), 3) := by decide +kernel
theorem dX9_drift_55 : decode cX9_drift 55 = .ok (.aload_n 0, 1) := by decide +kernel
theorem dX9_drift_56 : decode cX9_drift 56 = .ok (.getfield 29, 3) := by decide +kernel
theorem dX9_drift_59 : decode cX9_drift 59 = .ok (.getfield 128, 3) := by decide +kernel
theorem dX9_drift_62 : decode cX9_drift 62 = .ok (.ireturn, 1) := by decide +kernel
theorem dX9_passEvening_0 : decode cX9_passEvening 0 = .ok (.aload_n 0, 1) := by decide +kernel
theorem dX9_passEvening_1 : decode cX9_passEvening 1 = .ok (.getfield 74, 3) := by decide +kernel
theorem dX9_passEvening_4 : decode cX9_passEvening 4 = .ok (.iconst 3, 1) := by decide +kernel
theorem dX9_passEvening_5 : decode cX9_passEvening 5 = .ok (.invokevirtual 232, 3) := by decide +kernel
theorem dX9_passEvening_8 : decode cX9_passEvening 8 = .ok (.istore_n 1, 1) := by decide +kernel
theorem dX9_passEvening_9 : decode cX9_passEvening 9 = .ok (.iload_n 1, 1) := by decide +kernel
theorem dX9_passEvening_10 : decode cX9_passEvening 10 = .ok (.ifCond .ne 38, 3) := by decide +kernel
theorem dX9_passEvening_13 : decode cX9_passEvening 13 = .ok (.aload_n 0, 1) := by decide +kernel
theorem dX9_passEvening_14 : decode cX9_passEvening 14 = .ok (.getfield 29, 3) := by decide +kernel
theorem dX9_passEvening_17 : decode cX9_passEvening 17 = .ok (.aload_n 0, 1) := by decide +kernel
theorem dX9_passEvening_18 : decode cX9_passEvening 18 = .ok (.getfield 29, 3) := by decide +kernel
theorem dX9_passEvening_21 : decode cX9_passEvening 21 = .ok (.getfield 134, 3) := by decide +kernel
theorem dX9_passEvening_24 : decode cX9_passEvening 24 = .ok (.aload_n 0, 1) := by decide +kernel
theorem dX9_passEvening_25 : decode cX9_passEvening 25 = .ok (.getfield 74, 3) := by decide +kernel
theorem dX9_passEvening_28 : decode cX9_passEvening 28 = .ok (.aload_n 0, 1) := by decide +kernel
theorem dX9_passEvening_29 : decode cX9_passEvening 29 = .ok (.getfield 19, 3) := by decide +kernel
theorem dX9_passEvening_32 : decode cX9_passEvening 32 = .ok (.getfield 113, 3) := by decide +kernel
theorem dX9_passEvening_35 : decode cX9_passEvening 35 = .ok (.invokevirtual 232, 3) := by decide +kernel
theorem dX9_passEvening_38 : decode cX9_passEvening 38 = .ok (.iconst 1, 1) := by decide +kernel
theorem dX9_passEvening_39 : decode cX9_passEvening 39 = .ok (.invokestatic 221, 3) := by decide +kernel
theorem dX9_passEvening_42 : decode cX9_passEvening 42 = .ok (.putfield 134, 3) := by decide +kernel
theorem dX9_passEvening_45 : decode cX9_passEvening 45 = .ok (.goto 115, 3) := by decide +kernel
theorem dX9_passEvening_48 : decode cX9_passEvening 48 = .ok (.iload_n 1, 1) := by decide +kernel
theorem dX9_passEvening_49 : decode cX9_passEvening 49 = .ok (.iconst 1, 1) := by decide +kernel
theorem dX9_passEvening_50 : decode cX9_passEvening 50 = .ok (.if_icmp .ne 56, 3) := by decide +kernel
theorem dX9_passEvening_53 : decode cX9_passEvening 53 = .ok (.aload_n 0, 1) := by decide +kernel
theorem dX9_passEvening_54 : decode cX9_passEvening 54 = .ok (.getfield 19, 3) := by decide +kernel
theorem dX9_passEvening_57 : decode cX9_passEvening 57 = .ok (.getfield 119, 3) := by decide +kernel
theorem dX9_passEvening_60 : decode cX9_passEvening 60 = .ok (.ifCond .le 46, 3) := by decide +kernel
theorem dX9_passEvening_63 : decode cX9_passEvening 63 = .ok (.aload_n 0, 1) := by decide +kernel
theorem dX9_passEvening_64 : decode cX9_passEvening 64 = .ok (.getfield 74, 3) := by decide +kernel
theorem dX9_passEvening_67 : decode cX9_passEvening 67 = .ok (.aload_n 0, 1) := by decide +kernel
theorem dX9_passEvening_68 : decode cX9_passEvening 68 = .ok (.getfield 19, 3) := by decide +kernel
theorem dX9_passEvening_71 : decode cX9_passEvening 71 = .ok (.getfield 119, 3) := by decide +kernel
theorem dX9_passEvening_74 : decode cX9_passEvening 74 = .ok (.invokevirtual 232, 3) := by decide +kernel
theorem dX9_passEvening_77 : decode cX9_passEvening 77 = .ok (.istore_n 2, 1) := by decide +kernel
theorem dX9_passEvening_78 : decode cX9_passEvening 78 = .ok (.aload_n 0, 1) := by decide +kernel
theorem dX9_passEvening_79 : decode cX9_passEvening 79 = .ok (.getfield 29, 3) := by decide +kernel
theorem dX9_passEvening_82 : decode cX9_passEvening 82 = .ok (.getfield 185, 3) := by decide +kernel
theorem dX9_passEvening_85 : decode cX9_passEvening 85 = .ok (.iload_n 2, 1) := by decide +kernel
theorem dX9_passEvening_86 : decode cX9_passEvening 86 = .ok (.aload_n 0, 1) := by decide +kernel
theorem dX9_passEvening_87 : decode cX9_passEvening 87 = .ok (.getfield 74, 3) := by decide +kernel
theorem dX9_passEvening_90 : decode cX9_passEvening 90 = .ok (.aload_n 0, 1) := by decide +kernel
theorem dX9_passEvening_91 : decode cX9_passEvening 91 = .ok (.getfield 19, 3) := by decide +kernel
theorem dX9_passEvening_94 : decode cX9_passEvening 94 = .ok (.getfield 113, 3) := by decide +kernel
theorem dX9_passEvening_97 : decode cX9_passEvening 97 = .ok (.invokevirtual 232, 3) := by decide +kernel
theorem dX9_passEvening_100 : decode cX9_passEvening 100 = .ok (.invokestatic 225, 3) := by decide +kernel
theorem dX9_passEvening_103 : decode cX9_passEvening 103 = .ok (.goto 57, 3) := by decide +kernel
theorem dX9_passEvening_106 : decode cX9_passEvening 106 = .ok (.iload_n 1, 1) := by decide +kernel
theorem dX9_passEvening_107 : decode cX9_passEvening 107 = .ok (.iconst 2, 1) := by decide +kernel
theorem dX9_passEvening_108 : decode cX9_passEvening 108 = .ok (.if_icmp .ne 52, 3) := by decide +kernel
theorem dX9_passEvening_111 : decode cX9_passEvening 111 = .ok (.aload_n 0, 1) := by decide +kernel
theorem dX9_passEvening_112 : decode cX9_passEvening 112 = .ok (.getfield 19, 3) := by decide +kernel
theorem dX9_passEvening_115 : decode cX9_passEvening 115 = .ok (.getfield 107, 3) := by decide +kernel
theorem dX9_passEvening_118 : decode cX9_passEvening 118 = .ok (.ifCond .le 42, 3) := by decide +kernel
theorem dX9_passEvening_121 : decode cX9_passEvening 121 = .ok (.aload_n 0, 1) := by decide +kernel
theorem dX9_passEvening_122 : decode cX9_passEvening 122 = .ok (.getfield 74, 3) := by decide +kernel
theorem dX9_passEvening_125 : decode cX9_passEvening 125 = .ok (.aload_n 0, 1) := by decide +kernel
theorem dX9_passEvening_126 : decode cX9_passEvening 126 = .ok (.getfield 19, 3) := by decide +kernel
theorem dX9_passEvening_129 : decode cX9_passEvening 129 = .ok (.getfield 107, 3) := by decide +kernel
theorem dX9_passEvening_132 : decode cX9_passEvening 132 = .ok (.invokevirtual 232, 3) := by decide +kernel
theorem dX9_passEvening_135 : decode cX9_passEvening 135 = .ok (.istore_n 2, 1) := by decide +kernel
theorem dX9_passEvening_136 : decode cX9_passEvening 136 = .ok (.aload_n 0, 1) := by decide +kernel
theorem dX9_passEvening_137 : decode cX9_passEvening 137 = .ok (.getfield 29, 3) := by decide +kernel
theorem dX9_passEvening_140 : decode cX9_passEvening 140 = .ok (.aload_n 0, 1) := by decide +kernel
theorem dX9_passEvening_141 : decode cX9_passEvening 141 = .ok (.getfield 19, 3) := by decide +kernel
theorem dX9_passEvening_144 : decode cX9_passEvening 144 = .ok (.iload_n 2, 1) := by decide +kernel
theorem dX9_passEvening_145 : decode cX9_passEvening 145 = .ok (.aload_n 0, 1) := by decide +kernel
theorem dX9_passEvening_146 : decode cX9_passEvening 146 = .ok (.getfield 29, 3) := by decide +kernel
theorem dX9_passEvening_149 : decode cX9_passEvening 149 = .ok (.getfield 161, 3) := by decide +kernel
theorem dX9_passEvening_152 : decode cX9_passEvening 152 = .ok (.iload_n 2, 1) := by decide +kernel
theorem dX9_passEvening_153 : decode cX9_passEvening 153 = .ok (.invokestatic 157, 3) := by decide +kernel
theorem dX9_passEvening_156 : decode cX9_passEvening 156 = .ok (.invokevirtual 217, 3) := by decide +kernel
theorem dX9_passEvening_159 : decode cX9_passEvening 159 = .ok (.pop, 1) := by decide +kernel
theorem dX9_passEvening_160 : decode cX9_passEvening 160 = .ok (.return_, 1) := by decide +kernel
theorem dX9_undo_0 : decode cX9_undo 0 = .ok (.aload_n 0, 1) := by decide +kernel
theorem dX9_undo_1 : decode cX9_undo 1 = .ok (.getfield 36, 3) := by decide +kernel
theorem dX9_undo_4 : decode cX9_undo 4 = .ok (.getfield 147, 3) := by decide +kernel
theorem dX9_undo_7 : decode cX9_undo 7 = .ok (.ifCond .ne 8, 3) := by decide +kernel
theorem dX9_undo_10 : decode cX9_undo 10 = .ok (.ldc 205, 2) := by decide +kernel
theorem dX9_undo_12 : decode cX9_undo 12 = .ok (.goto 14, 3) := by decide +kernel
theorem dX9_undo_15 : decode cX9_undo 15 = .ok (.aload_n 0, 1) := by decide +kernel
theorem dX9_undo_16 : decode cX9_undo 16 = .ok (.getfield 36, 3) := by decide +kernel
theorem dX9_undo_19 : decode cX9_undo 19 = .ok (.aload_n 0, 1) := by decide +kernel
theorem dX9_undo_20 : decode cX9_undo 20 = .ok (.getfield 29, 3) := by decide +kernel
theorem dX9_undo_23 : decode cX9_undo 23 = .ok (.invokevirtual 235, 3) := by decide +kernel
theorem dX9_undo_26 : decode cX9_undo 26 = .ok (.ireturn, 1) := by decide +kernel
theorem dX9_round_0 : decode cX9_round 0 = .ok (.iload_n 1, 1) := by decide +kernel
theorem dX9_round_1 : decode cX9_round 1 = .ok (.aload_n 0, 1) := by decide +kernel
theorem dX9_round_2 : decode cX9_round 2 = .ok (.getfield 19, 3) := by decide +kernel
theorem dX9_round_5 : decode cX9_round 5 = .ok (.invokevirtual 239, 3) := by decide +kernel
theorem dX9_round_8 : decode cX9_round 8 = .ok (.iconst (-1), 1) := by decide +kernel
theorem dX9_round_9 : decode cX9_round 9 = .ok (.ixor, 1) := by decide +kernel
theorem dX9_round_10 : decode cX9_round 10 = .ok (.iand, 1) := by decide +kernel
theorem dX9_round_11 : decode cX9_round 11 = .ok (.ifCond .eq 6, 3) := by decide +kernel
theorem dX9_round_14 : decode cX9_round 14 = .ok (.ldc 152, 2) := by decide +kernel
theorem dX9_round_16 : decode cX9_round 16 = .ok (.ireturn, 1) := by decide +kernel
theorem dX9_round_17 : decode cX9_round 17 = .ok (.aload_n 0, 1) := by decide +kernel
theorem dX9_round_18 : decode cX9_round 18 = .ok (.getfield 53, 3) := by decide +kernel
theorem dX9_round_21 : decode cX9_round 21 = .ok (.aload_n 0, 1) := by decide +kernel
theorem dX9_round_22 : decode cX9_round 22 = .ok (.getfield 19, 3) := by decide +kernel
theorem dX9_round_25 : decode cX9_round 25 = .ok (.aload_n 0, 1) := by decide +kernel
theorem dX9_round_26 : decode cX9_round 26 = .ok (.getfield 29, 3) := by decide +kernel
theorem dX9_round_29 : decode cX9_round 29 = .ok (.iload_n 1, 1) := by decide +kernel
theorem dX9_round_30 : decode cX9_round 30 = .ok (.aload_n 0, 1) := by decide +kernel
theorem dX9_round_31 : decode cX9_round 31 = .ok (.getfield 29, 3) := by decide +kernel
theorem dX9_round_34 : decode cX9_round 34 = .ok (.getfield 128, 3) := by decide +kernel
theorem dX9_round_37 : decode cX9_round 37 = .ok (.iconst (-1), 1) := by decide +kernel
theorem dX9_round_38 : decode cX9_round 38 = .ok (.ixor, 1) := by decide +kernel
theorem dX9_round_39 : decode cX9_round 39 = .ok (.iand, 1) := by decide +kernel
theorem dX9_round_40 : decode cX9_round 40 = .ok (.invokevirtual 243, 3) := by decide +kernel
theorem dX9_round_43 : decode cX9_round 43 = .ok (.istore_n 3, 1) := by decide +kernel
theorem dX9_round_44 : decode cX9_round 44 = .ok (.iload_n 3, 1) := by decide +kernel
theorem dX9_round_45 : decode cX9_round 45 = .ok (.ifCond .eq 8, 3) := by decide +kernel
theorem dX9_round_48 : decode cX9_round 48 = .ok (.iload_n 2, 1) := by decide +kernel
theorem dX9_round_49 : decode cX9_round 49 = .ok (.iconst (-1), 1) := by decide +kernel
theorem dX9_round_50 : decode cX9_round 50 = .ok (.if_icmp .ge 5, 3) := by decide +kernel
theorem dX9_round_53 : decode cX9_round 53 = .ok (.iconst (-1), 1) := by decide +kernel
theorem dX9_round_54 : decode cX9_round 54 = .ok (.ireturn, 1) := by decide +kernel
theorem dX9_round_55 : decode cX9_round 55 = .ok (.iload_n 2, 1) := by decide +kernel
theorem dX9_round_56 : decode cX9_round 56 = .ok (.iconst (-1), 1) := by decide +kernel
theorem dX9_round_57 : decode cX9_round 57 = .ok (.if_icmp .ne 21, 3) := by decide +kernel
theorem dX9_round_60 : decode cX9_round 60 = .ok (.aload_n 0, 1) := by decide +kernel
theorem dX9_round_61 : decode cX9_round 61 = .ok (.getfield 53, 3) := by decide +kernel
theorem dX9_round_64 : decode cX9_round 64 = .ok (.aload_n 0, 1) := by decide +kernel
theorem dX9_round_65 : decode cX9_round 65 = .ok (.getfield 19, 3) := by decide +kernel
theorem dX9_round_68 : decode cX9_round 68 = .ok (.aload_n 0, 1) := by decide +kernel
theorem dX9_round_69 : decode cX9_round 69 = .ok (.getfield 29, 3) := by decide +kernel
theorem dX9_round_72 : decode cX9_round 72 = .ok (.invokevirtual 247, 3) := by decide +kernel
theorem dX9_round_75 : decode cX9_round 75 = .ok (.goto 15, 3) := by decide +kernel
theorem dX9_round_78 : decode cX9_round 78 = .ok (.aload_n 0, 1) := by decide +kernel
theorem dX9_round_79 : decode cX9_round 79 = .ok (.getfield 53, 3) := by decide +kernel
theorem dX9_round_82 : decode cX9_round 82 = .ok (.aload_n 0, 1) := by decide +kernel
theorem dX9_round_83 : decode cX9_round 83 = .ok (.getfield 19, 3) := by decide +kernel
theorem dX9_round_86 : decode cX9_round 86 = .ok (.iload_n 2, 1) := by decide +kernel
theorem dX9_round_87 : decode cX9_round 87 = .ok (.invokevirtual 250, 3) := by decide +kernel
theorem dX9_round_90 : decode cX9_round 90 = .ok (.ireturn, 1) := by decide +kernel
theorem dX9_cannot_0 : decode cX9_cannot 0 = .ok (.aload_n 0, 1) := by decide +kernel
theorem dX9_cannot_1 : decode cX9_cannot 1 = .ok (.getfield 53, 3) := by decide +kernel
theorem dX9_cannot_4 : decode cX9_cannot 4 = .ok (.aload_n 0, 1) := by decide +kernel
theorem dX9_cannot_5 : decode cX9_cannot 5 = .ok (.getfield 19, 3) := by decide +kernel
theorem dX9_cannot_8 : decode cX9_cannot 8 = .ok (.aload_n 0, 1) := by decide +kernel
theorem dX9_cannot_9 : decode cX9_cannot 9 = .ok (.getfield 29, 3) := by decide +kernel
theorem dX9_cannot_12 : decode cX9_cannot 12 = .ok (.invokevirtual 253, 3) := by decide +kernel
theorem dX9_cannot_15 : decode cX9_cannot 15 = .ok (.iconst 0, 1) := by decide +kernel
theorem dX9_cannot_16 : decode cX9_cannot 16 = .ok (.istore_n 1, 1) := by decide +kernel
theorem dX9_cannot_17 : decode cX9_cannot 17 = .ok (.iconst 0, 1) := by decide +kernel
theorem dX9_cannot_18 : decode cX9_cannot 18 = .ok (.istore_n 2, 1) := by decide +kernel
theorem dX9_cannot_19 : decode cX9_cannot 19 = .ok (.iload_n 2, 1) := by decide +kernel
theorem dX9_cannot_20 : decode cX9_cannot 20 = .ok (.aload_n 0, 1) := by decide +kernel
theorem dX9_cannot_21 : decode cX9_cannot 21 = .ok (.getfield 19, 3) := by decide +kernel
theorem dX9_cannot_24 : decode cX9_cannot 24 = .ok (.getfield 107, 3) := by decide +kernel
theorem dX9_cannot_27 : decode cX9_cannot 27 = .ok (.if_icmp .ge 38, 3) := by decide +kernel
theorem dX9_cannot_30 : decode cX9_cannot 30 = .ok (.aload_n 0, 1) := by decide +kernel
theorem dX9_cannot_31 : decode cX9_cannot 31 = .ok (.getfield 29, 3) := by decide +kernel
theorem dX9_cannot_34 : decode cX9_cannot 34 = .ok (.getfield 128, 3) := by decide +kernel
theorem dX9_cannot_37 : decode cX9_cannot 37 = .ok (.iload_n 2, 1) := by decide +kernel
theorem dX9_cannot_38 : decode cX9_cannot 38 = .ok (.invokestatic 191, 3) := by decide +kernel
theorem dX9_cannot_41 : decode cX9_cannot 41 = .ok (.ifCond .ne 18, 3) := by decide +kernel
theorem dX9_cannot_44 : decode cX9_cannot 44 = .ok (.aload_n 0, 1) := by decide +kernel
theorem dX9_cannot_45 : decode cX9_cannot 45 = .ok (.iload_n 2, 1) := by decide +kernel
theorem dX9_cannot_46 : decode cX9_cannot 46 = .ok (.invokevirtual 257, 3) := by decide +kernel
theorem dX9_cannot_49 : decode cX9_cannot 49 = .ok (.ifCond .ne 10, 3) := by decide +kernel
theorem dX9_cannot_52 : decode cX9_cannot 52 = .ok (.iload_n 1, 1) := by decide +kernel
theorem dX9_cannot_53 : decode cX9_cannot 53 = .ok (.iload_n 2, 1) := by decide +kernel
theorem dX9_cannot_54 : decode cX9_cannot 54 = .ok (.iconst 1, 1) := by decide +kernel
theorem dX9_cannot_55 : decode cX9_cannot 55 = .ok (.invokestatic 221, 3) := by decide +kernel
theorem dX9_cannot_58 : decode cX9_cannot 58 = .ok (.istore_n 1, 1) := by decide +kernel
theorem dX9_cannot_59 : decode cX9_cannot 59 = .ok (.iinc 2 1, 3) := by decide +kernel
theorem dX9_cannot_62 : decode cX9_cannot 62 = .ok (.goto (-43), 3) := by decide +kernel
theorem dX9_cannot_65 : decode cX9_cannot 65 = .ok (.iload_n 1, 1) := by decide +kernel
theorem dX9_cannot_66 : decode cX9_cannot 66 = .ok (.ireturn, 1) := by decide +kernel
theorem dX9_canLightAlone_0 : decode cX9_canLightAlone 0 = .ok (.aload_n 0, 1) := by decide +kernel
theorem dX9_canLightAlone_1 : decode cX9_canLightAlone 1 = .ok (.getfield 19, 3) := by decide +kernel
theorem dX9_canLightAlone_4 : decode cX9_canLightAlone 4 = .ok (.iload_n 1, 1) := by decide +kernel
theorem dX9_canLightAlone_5 : decode cX9_canLightAlone 5 = .ok (.invokevirtual 260, 3) := by decide +kernel
theorem dX9_canLightAlone_8 : decode cX9_canLightAlone 8 = .ok (.istore_n 2, 1) := by decide +kernel
theorem dX9_canLightAlone_9 : decode cX9_canLightAlone 9 = .ok (.aload_n 0, 1) := by decide +kernel
theorem dX9_canLightAlone_10 : decode cX9_canLightAlone 10 = .ok (.getfield 53, 3) := by decide +kernel
theorem dX9_canLightAlone_13 : decode cX9_canLightAlone 13 = .ok (.aload_n 0, 1) := by decide +kernel
theorem dX9_canLightAlone_14 : decode cX9_canLightAlone 14 = .ok (.getfield 29, 3) := by decide +kernel
theorem dX9_canLightAlone_17 : decode cX9_canLightAlone 17 = .ok (.iload_n 1, 1) := by decide +kernel
theorem dX9_canLightAlone_18 : decode cX9_canLightAlone 18 = .ok (.invokevirtual 263, 3) := by decide +kernel
theorem dX9_canLightAlone_21 : decode cX9_canLightAlone 21 = .ok (.ifCond .eq 26, 3) := by decide +kernel
theorem dX9_canLightAlone_24 : decode cX9_canLightAlone 24 = .ok (.iload_n 2, 1) := by decide +kernel
theorem dX9_canLightAlone_25 : decode cX9_canLightAlone 25 = .ok (.iconst (-1), 1) := by decide +kernel
theorem dX9_canLightAlone_26 : decode cX9_canLightAlone 26 = .ok (.if_icmp .eq 17, 3) := by decide +kernel
theorem dX9_canLightAlone_29 : decode cX9_canLightAlone 29 = .ok (.aload_n 0, 1) := by decide +kernel
theorem dX9_canLightAlone_30 : decode cX9_canLightAlone 30 = .ok (.getfield 29, 3) := by decide +kernel
theorem dX9_canLightAlone_33 : decode cX9_canLightAlone 33 = .ok (.getfield 128, 3) := by decide +kernel
theorem dX9_canLightAlone_36 : decode cX9_canLightAlone 36 = .ok (.iload_n 2, 1) := by decide +kernel
theorem dX9_canLightAlone_37 : decode cX9_canLightAlone 37 = .ok (.invokestatic 191, 3) := by decide +kernel
theorem dX9_canLightAlone_40 : decode cX9_canLightAlone 40 = .ok (.ifCond .eq 7, 3) := by decide +kernel
theorem dX9_canLightAlone_43 : decode cX9_canLightAlone 43 = .ok (.iconst 1, 1) := by decide +kernel
theorem dX9_canLightAlone_44 : decode cX9_canLightAlone 44 = .ok (.goto 4, 3) := by decide +kernel
theorem dX9_canLightAlone_47 : decode cX9_canLightAlone 47 = .ok (.iconst 0, 1) := by decide +kernel
theorem dX9_canLightAlone_48 : decode cX9_canLightAlone 48 = .ok (.ireturn, 1) := by decide +kernel
theorem dX9_steps_0 : decode cX9_steps 0 = .ok (.aload_n 0, 1) := by decide +kernel
theorem dX9_steps_1 : decode cX9_steps 1 = .ok (.getfield 19, 3) := by decide +kernel
theorem dX9_steps_4 : decode cX9_steps 4 = .ok (.iload_n 1, 1) := by decide +kernel
theorem dX9_steps_5 : decode cX9_steps 5 = .ok (.invokevirtual 199, 3) := by decide +kernel
theorem dX9_steps_8 : decode cX9_steps 8 = .ok (.ifCond .ne 6, 3) := by decide +kernel
theorem dX9_steps_11 : decode cX9_steps 11 = .ok (.ldc 152, 2) := by decide +kernel
theorem dX9_steps_13 : decode cX9_steps 13 = .ok (.ireturn, 1) := by decide +kernel
theorem dX9_steps_14 : decode cX9_steps 14 = .ok (.aload_n 0, 1) := by decide +kernel
theorem dX9_steps_15 : decode cX9_steps 15 = .ok (.getfield 53, 3) := by decide +kernel
theorem dX9_steps_18 : decode cX9_steps 18 = .ok (.aload_n 0, 1) := by decide +kernel
theorem dX9_steps_19 : decode cX9_steps 19 = .ok (.getfield 19, 3) := by decide +kernel
theorem dX9_steps_22 : decode cX9_steps 22 = .ok (.aload_n 0, 1) := by decide +kernel
theorem dX9_steps_23 : decode cX9_steps 23 = .ok (.getfield 29, 3) := by decide +kernel
theorem dX9_steps_26 : decode cX9_steps 26 = .ok (.invokevirtual 253, 3) := by decide +kernel
theorem dX9_steps_29 : decode cX9_steps 29 = .ok (.aload_n 0, 1) := by decide +kernel
theorem dX9_steps_30 : decode cX9_steps 30 = .ok (.getfield 53, 3) := by decide +kernel
theorem dX9_steps_33 : decode cX9_steps 33 = .ok (.iload_n 1, 1) := by decide +kernel
theorem dX9_steps_34 : decode cX9_steps 34 = .ok (.invokevirtual 267, 3) := by decide +kernel
theorem dX9_steps_37 : decode cX9_steps 37 = .ok (.ireturn, 1) := by decide +kernel
theorem dX9_mostSeen_0 : decode cX9_mostSeen 0 = .ok (.iload_n 1, 1) := by decide +kernel
theorem dX9_mostSeen_1 : decode cX9_mostSeen 1 = .ok (.ifCond .eq 11, 3) := by decide +kernel
theorem dX9_mostSeen_4 : decode cX9_mostSeen 4 = .ok (.iload_n 1, 1) := by decide +kernel
theorem dX9_mostSeen_5 : decode cX9_mostSeen 5 = .ok (.iconst 1, 1) := by decide +kernel
theorem dX9_mostSeen_6 : decode cX9_mostSeen 6 = .ok (.if_icmp .eq 6, 3) := by decide +kernel
theorem dX9_mostSeen_9 : decode cX9_mostSeen 9 = .ok (.ldc 78, 2) := by decide +kernel
theorem dX9_mostSeen_11 : decode cX9_mostSeen 11 = .ok (.ireturn, 1) := by decide +kernel
theorem dX9_mostSeen_12 : decode cX9_mostSeen 12 = .ok (.iconst (-1), 1) := by decide +kernel
theorem dX9_mostSeen_13 : decode cX9_mostSeen 13 = .ok (.istore_n 2, 1) := by decide +kernel
theorem dX9_mostSeen_14 : decode cX9_mostSeen 14 = .ok (.iconst (-1), 1) := by decide +kernel
theorem dX9_mostSeen_15 : decode cX9_mostSeen 15 = .ok (.istore_n 3, 1) := by decide +kernel
theorem dX9_mostSeen_16 : decode cX9_mostSeen 16 = .ok (.iconst 0, 1) := by decide +kernel
theorem dX9_mostSeen_17 : decode cX9_mostSeen 17 = .ok (.istore 4, 2) := by decide +kernel
theorem dX9_mostSeen_19 : decode cX9_mostSeen 19 = .ok (.iload 4, 2) := by decide +kernel
theorem dX9_mostSeen_21 : decode cX9_mostSeen 21 = .ok (.aload_n 0, 1) := by decide +kernel
theorem dX9_mostSeen_22 : decode cX9_mostSeen 22 = .ok (.getfield 19, 3) := by decide +kernel
theorem dX9_mostSeen_25 : decode cX9_mostSeen 25 = .ok (.getfield 113, 3) := by decide +kernel
theorem dX9_mostSeen_28 : decode cX9_mostSeen 28 = .ok (.if_icmp .ge 74, 3) := by decide +kernel
theorem dX9_mostSeen_31 : decode cX9_mostSeen 31 = .ok (.aload_n 0, 1) := by decide +kernel
theorem dX9_mostSeen_32 : decode cX9_mostSeen 32 = .ok (.getfield 19, 3) := by decide +kernel
theorem dX9_mostSeen_35 : decode cX9_mostSeen 35 = .ok (.iload 4, 2) := by decide +kernel
theorem dX9_mostSeen_37 : decode cX9_mostSeen 37 = .ok (.invokevirtual 188, 3) := by decide +kernel
theorem dX9_mostSeen_40 : decode cX9_mostSeen 40 = .ok (.ifCond .eq 56, 3) := by decide +kernel
theorem dX9_mostSeen_43 : decode cX9_mostSeen 43 = .ok (.aload_n 0, 1) := by decide +kernel
theorem dX9_mostSeen_44 : decode cX9_mostSeen 44 = .ok (.getfield 29, 3) := by decide +kernel
theorem dX9_mostSeen_47 : decode cX9_mostSeen 47 = .ok (.getfield 134, 3) := by decide +kernel
theorem dX9_mostSeen_50 : decode cX9_mostSeen 50 = .ok (.iload 4, 2) := by decide +kernel
theorem dX9_mostSeen_52 : decode cX9_mostSeen 52 = .ok (.invokestatic 191, 3) := by decide +kernel
theorem dX9_mostSeen_55 : decode cX9_mostSeen 55 = .ok (.ifCond .ne 41, 3) := by decide +kernel
theorem dX9_mostSeen_58 : decode cX9_mostSeen 58 = .ok (.aload_n 0, 1) := by decide +kernel
theorem dX9_mostSeen_59 : decode cX9_mostSeen 59 = .ok (.getfield 29, 3) := by decide +kernel
theorem dX9_mostSeen_62 : decode cX9_mostSeen 62 = .ok (.aload_n 0, 1) := by decide +kernel
theorem dX9_mostSeen_63 : decode cX9_mostSeen 63 = .ok (.getfield 19, 3) := by decide +kernel
theorem dX9_mostSeen_66 : decode cX9_mostSeen 66 = .ok (.aload_n 0, 1) := by decide +kernel
theorem dX9_mostSeen_67 : decode cX9_mostSeen 67 = .ok (.getfield 29, 3) := by decide +kernel
theorem dX9_mostSeen_70 : decode cX9_mostSeen 70 = .ok (.aload_n 0, 1) := by decide +kernel
theorem dX9_mostSeen_71 : decode cX9_mostSeen 71 = .ok (.getfield 19, 3) := by decide +kernel
theorem dX9_mostSeen_74 : decode cX9_mostSeen 74 = .ok (.iload 4, 2) := by decide +kernel
theorem dX9_mostSeen_76 : decode cX9_mostSeen 76 = .ok (.invokevirtual 195, 3) := by decide +kernel
theorem dX9_mostSeen_79 : decode cX9_mostSeen 79 = .ok (.invokevirtual 270, 3) := by decide +kernel
theorem dX9_mostSeen_82 : decode cX9_mostSeen 82 = .ok (.istore 5, 2) := by decide +kernel
theorem dX9_mostSeen_84 : decode cX9_mostSeen 84 = .ok (.iload 5, 2) := by decide +kernel
theorem dX9_mostSeen_86 : decode cX9_mostSeen 86 = .ok (.iload_n 3, 1) := by decide +kernel
theorem dX9_mostSeen_87 : decode cX9_mostSeen 87 = .ok (.if_icmp .le 9, 3) := by decide +kernel
theorem dX9_mostSeen_90 : decode cX9_mostSeen 90 = .ok (.iload 5, 2) := by decide +kernel
theorem dX9_mostSeen_92 : decode cX9_mostSeen 92 = .ok (.istore_n 3, 1) := by decide +kernel
theorem dX9_mostSeen_93 : decode cX9_mostSeen 93 = .ok (.iload 4, 2) := by decide +kernel
theorem dX9_mostSeen_95 : decode cX9_mostSeen 95 = .ok (.istore_n 2, 1) := by decide +kernel
theorem dX9_mostSeen_96 : decode cX9_mostSeen 96 = .ok (.iinc 4 1, 3) := by decide +kernel
theorem dX9_mostSeen_99 : decode cX9_mostSeen 99 = .ok (.goto (-80), 3) := by decide +kernel
theorem dX9_mostSeen_102 : decode cX9_mostSeen 102 = .ok (.iload_n 1, 1) := by decide +kernel
theorem dX9_mostSeen_103 : decode cX9_mostSeen 103 = .ok (.ifCond .ne 7, 3) := by decide +kernel
theorem dX9_mostSeen_106 : decode cX9_mostSeen 106 = .ok (.iload_n 2, 1) := by decide +kernel
theorem dX9_mostSeen_107 : decode cX9_mostSeen 107 = .ok (.goto 4, 3) := by decide +kernel
theorem dX9_mostSeen_110 : decode cX9_mostSeen 110 = .ok (.iload_n 3, 1) := by decide +kernel
theorem dX9_mostSeen_111 : decode cX9_mostSeen 111 = .ok (.ireturn, 1) := by decide +kernel
theorem dX9_learn_0 : decode cX9_learn 0 = .ok (.iconst 0, 1) := by decide +kernel
theorem dX9_learn_1 : decode cX9_learn 1 = .ok (.istore_n 1, 1) := by decide +kernel
theorem dX9_learn_2 : decode cX9_learn 2 = .ok (.iconst 0, 1) := by decide +kernel
theorem dX9_learn_3 : decode cX9_learn 3 = .ok (.istore_n 2, 1) := by decide +kernel
theorem dX9_learn_4 : decode cX9_learn 4 = .ok (.iload_n 2, 1) := by decide +kernel
theorem dX9_learn_5 : decode cX9_learn 5 = .ok (.aload_n 0, 1) := by decide +kernel
theorem dX9_learn_6 : decode cX9_learn 6 = .ok (.getfield 19, 3) := by decide +kernel
theorem dX9_learn_9 : decode cX9_learn 9 = .ok (.getfield 107, 3) := by decide +kernel
theorem dX9_learn_12 : decode cX9_learn 12 = .ok (.if_icmp .ge 40, 3) := by decide +kernel
theorem dX9_learn_15 : decode cX9_learn 15 = .ok (.aload_n 0, 1) := by decide +kernel
theorem dX9_learn_16 : decode cX9_learn 16 = .ok (.getfield 29, 3) := by decide +kernel
theorem dX9_learn_19 : decode cX9_learn 19 = .ok (.getfield 128, 3) := by decide +kernel
theorem dX9_learn_22 : decode cX9_learn 22 = .ok (.iload_n 2, 1) := by decide +kernel
theorem dX9_learn_23 : decode cX9_learn 23 = .ok (.invokestatic 191, 3) := by decide +kernel
theorem dX9_learn_26 : decode cX9_learn 26 = .ok (.ifCond .ne 20, 3) := by decide +kernel
theorem dX9_learn_29 : decode cX9_learn 29 = .ok (.iload_n 1, 1) := by decide +kernel
theorem dX9_learn_30 : decode cX9_learn 30 = .ok (.aload_n 0, 1) := by decide +kernel
theorem dX9_learn_31 : decode cX9_learn 31 = .ok (.getfield 29, 3) := by decide +kernel
theorem dX9_learn_34 : decode cX9_learn 34 = .ok (.getfield 161, 3) := by decide +kernel
theorem dX9_learn_37 : decode cX9_learn 37 = .ok (.iload_n 2, 1) := by decide +kernel
theorem dX9_learn_38 : decode cX9_learn 38 = .ok (.invokestatic 157, 3) := by decide +kernel
theorem dX9_learn_41 : decode cX9_learn 41 = .ok (.iconst 1, 1) := by decide +kernel
theorem dX9_learn_42 : decode cX9_learn 42 = .ok (.invokestatic 221, 3) := by decide +kernel
theorem dX9_learn_45 : decode cX9_learn 45 = .ok (.istore_n 1, 1) := by decide +kernel
theorem dX9_learn_46 : decode cX9_learn 46 = .ok (.iinc 2 1, 3) := by decide +kernel
theorem dX9_learn_49 : decode cX9_learn 49 = .ok (.goto (-45), 3) := by decide +kernel
theorem dX9_learn_52 : decode cX9_learn 52 = .ok (.iload_n 1, 1) := by decide +kernel
theorem dX9_learn_53 : decode cX9_learn 53 = .ok (.aload_n 0, 1) := by decide +kernel
theorem dX9_learn_54 : decode cX9_learn 54 = .ok (.getfield 29, 3) := by decide +kernel
theorem dX9_learn_57 : decode cX9_learn 57 = .ok (.getfield 125, 3) := by decide +kernel
theorem dX9_learn_60 : decode cX9_learn 60 = .ok (.iconst (-1), 1) := by decide +kernel
theorem dX9_learn_61 : decode cX9_learn 61 = .ok (.ixor, 1) := by decide +kernel
theorem dX9_learn_62 : decode cX9_learn 62 = .ok (.iand, 1) := by decide +kernel
theorem dX9_learn_63 : decode cX9_learn 63 = .ok (.ireturn, 1) := by decide +kernel
theorem dX9_steamed_0 : decode cX9_steamed 0 = .ok (.iload_n 1, 1) := by decide +kernel
theorem dX9_steamed_1 : decode cX9_steamed 1 = .ok (.ifCond .lt 19, 3) := by decide +kernel
theorem dX9_steamed_4 : decode cX9_steamed 4 = .ok (.iload_n 1, 1) := by decide +kernel
theorem dX9_steamed_5 : decode cX9_steamed 5 = .ok (.bipush 60, 2) := by decide +kernel
theorem dX9_steamed_7 : decode cX9_steamed 7 = .ok (.if_icmp .gt 13, 3) := by decide +kernel
theorem dX9_steamed_10 : decode cX9_steamed 10 = .ok (.iload_n 2, 1) := by decide +kernel
theorem dX9_steamed_11 : decode cX9_steamed 11 = .ok (.ifCond .lt 9, 3) := by decide +kernel
theorem dX9_steamed_14 : decode cX9_steamed 14 = .ok (.iload_n 2, 1) := by decide +kernel
theorem dX9_steamed_15 : decode cX9_steamed 15 = .ok (.bipush 100, 2) := by decide +kernel
theorem dX9_steamed_17 : decode cX9_steamed 17 = .ok (.if_icmp .le 6, 3) := by decide +kernel
theorem dX9_steamed_20 : decode cX9_steamed 20 = .ok (.ldc 78, 2) := by decide +kernel
theorem dX9_steamed_22 : decode cX9_steamed 22 = .ok (.ireturn, 1) := by decide +kernel
theorem dX9_steamed_23 : decode cX9_steamed 23 = .ok (.ldc2_w 273, 3) := by decide +kernel
theorem dX9_steamed_26 : decode cX9_steamed 26 = .ok (.lstore_n 3, 1) := by decide +kernel
theorem dX9_steamed_27 : decode cX9_steamed 27 = .ok (.iconst 0, 1) := by decide +kernel
theorem dX9_steamed_28 : decode cX9_steamed 28 = .ok (.istore 5, 2) := by decide +kernel
theorem dX9_steamed_30 : decode cX9_steamed 30 = .ok (.iload 5, 2) := by decide +kernel
theorem dX9_steamed_32 : decode cX9_steamed 32 = .ok (.iload_n 1, 1) := by decide +kernel
theorem dX9_steamed_33 : decode cX9_steamed 33 = .ok (.if_icmp .ge 21, 3) := by decide +kernel
theorem dX9_steamed_36 : decode cX9_steamed 36 = .ok (.lload_n 3, 1) := by decide +kernel
theorem dX9_steamed_37 : decode cX9_steamed 37 = .ok (.bipush 100, 2) := by decide +kernel
theorem dX9_steamed_39 : decode cX9_steamed 39 = .ok (.iload_n 2, 1) := by decide +kernel
theorem dX9_steamed_40 : decode cX9_steamed 40 = .ok (.isub, 1) := by decide +kernel
theorem dX9_steamed_41 : decode cX9_steamed 41 = .ok (.i2l, 1) := by decide +kernel
theorem dX9_steamed_42 : decode cX9_steamed 42 = .ok (.lmul, 1) := by decide +kernel
theorem dX9_steamed_43 : decode cX9_steamed 43 = .ok (.ldc2_w 275, 3) := by decide +kernel
theorem dX9_steamed_46 : decode cX9_steamed 46 = .ok (.ldiv, 1) := by decide +kernel
theorem dX9_steamed_47 : decode cX9_steamed 47 = .ok (.lstore_n 3, 1) := by decide +kernel
theorem dX9_steamed_48 : decode cX9_steamed 48 = .ok (.iinc 5 1, 3) := by decide +kernel
theorem dX9_steamed_51 : decode cX9_steamed 51 = .ok (.goto (-21), 3) := by decide +kernel
theorem dX9_steamed_54 : decode cX9_steamed 54 = .ok (.lload_n 3, 1) := by decide +kernel
theorem dX9_steamed_55 : decode cX9_steamed 55 = .ok (.l2i, 1) := by decide +kernel
theorem dX9_steamed_56 : decode cX9_steamed 56 = .ok (.ireturn, 1) := by decide +kernel
theorem dX9_ask_0 : decode cX9_ask 0 = .ok (.aload_n 0, 1) := by decide +kernel
theorem dX9_ask_1 : decode cX9_ask 1 = .ok (.getfield 19, 3) := by decide +kernel
theorem dX9_ask_4 : decode cX9_ask 4 = .ok (.iload_n 1, 1) := by decide +kernel
theorem dX9_ask_5 : decode cX9_ask 5 = .ok (.invokevirtual 148, 3) := by decide +kernel
theorem dX9_ask_8 : decode cX9_ask 8 = .ok (.ifCond .eq 10, 3) := by decide +kernel
theorem dX9_ask_11 : decode cX9_ask 11 = .ok (.iload_n 2, 1) := by decide +kernel
theorem dX9_ask_12 : decode cX9_ask 12 = .ok (.invokestatic 211, 3) := by decide +kernel
theorem dX9_ask_15 : decode cX9_ask 15 = .ok (.ifCond .ne 6, 3) := by decide +kernel
theorem dX9_ask_18 : decode cX9_ask 18 = .ok (.ldc 152, 2) := by decide +kernel
theorem dX9_ask_20 : decode cX9_ask 20 = .ok (.ireturn, 1) := by decide +kernel
theorem dX9_ask_21 : decode cX9_ask 21 = .ok (.aload_n 0, 1) := by decide +kernel
theorem dX9_ask_22 : decode cX9_ask 22 = .ok (.getfield 60, 3) := by decide +kernel
theorem dX9_ask_25 : decode cX9_ask 25 = .ok (.getfield 146, 3) := by decide +kernel
theorem dX9_ask_28 : decode cX9_ask 28 = .ok (.bipush 8, 2) := by decide +kernel
theorem dX9_ask_30 : decode cX9_ask 30 = .ok (.if_icmp .lt 8, 3) := by decide +kernel
theorem dX9_ask_33 : decode cX9_ask 33 = .ok (.ldc 83, 2) := by decide +kernel
theorem dX9_ask_35 : decode cX9_ask 35 = .ok (.goto 13, 3) := by decide +kernel
theorem dX9_ask_38 : decode cX9_ask 38 = .ok (.aload_n 0, 1) := by decide +kernel
theorem dX9_ask_39 : decode cX9_ask 39 = .ok (.getfield 60, 3) := by decide +kernel
theorem dX9_ask_42 : decode cX9_ask 42 = .ok (.iload_n 1, 1) := by decide +kernel
theorem dX9_ask_43 : decode cX9_ask 43 = .ok (.iload_n 2, 1) := by decide +kernel
theorem dX9_ask_44 : decode cX9_ask 44 = .ok (.iload_n 3, 1) := by decide +kernel
theorem dX9_ask_45 : decode cX9_ask 45 = .ok (.invokevirtual 277, 3) := by decide +kernel
theorem dX9_ask_48 : decode cX9_ask 48 = .ok (.ireturn, 1) := by decide +kernel
theorem dX9_changed_0 : decode cX9_changed 0 = .ok (.iload_n 1, 1) := by decide +kernel
theorem dX9_changed_1 : decode cX9_changed 1 = .ok (.bipush (-2), 2) := by decide +kernel
theorem dX9_changed_3 : decode cX9_changed 3 = .ok (.if_icmp .ne 24, 3) := by decide +kernel
theorem dX9_changed_6 : decode cX9_changed 6 = .ok (.aload_n 0, 1) := by decide +kernel
theorem dX9_changed_7 : decode cX9_changed 7 = .ok (.getfield 60, 3) := by decide +kernel
theorem dX9_changed_10 : decode cX9_changed 10 = .ok (.aload_n 0, 1) := by decide +kernel
theorem dX9_changed_11 : decode cX9_changed 11 = .ok (.getfield 19, 3) := by decide +kernel
theorem dX9_changed_14 : decode cX9_changed 14 = .ok (.iconst 0, 1) := by decide +kernel
theorem dX9_changed_15 : decode cX9_changed 15 = .ok (.invokevirtual 280, 3) := by decide +kernel
theorem dX9_changed_18 : decode cX9_changed 18 = .ok (.ifCond .eq 7, 3) := by decide +kernel
theorem dX9_changed_21 : decode cX9_changed 21 = .ok (.iconst 1, 1) := by decide +kernel
theorem dX9_changed_22 : decode cX9_changed 22 = .ok (.goto 4, 3) := by decide +kernel
theorem dX9_changed_25 : decode cX9_changed 25 = .ok (.iconst 0, 1) := by decide +kernel
theorem dX9_changed_26 : decode cX9_changed 26 = .ok (.ireturn, 1) := by decide +kernel
theorem dX9_changed_27 : decode cX9_changed 27 = .ok (.aload_n 0, 1) := by decide +kernel
theorem dX9_changed_28 : decode cX9_changed 28 = .ok (.getfield 60, 3) := by decide +kernel
theorem dX9_changed_31 : decode cX9_changed 31 = .ok (.aload_n 0, 1) := by decide +kernel
theorem dX9_changed_32 : decode cX9_changed 32 = .ok (.getfield 19, 3) := by decide +kernel
theorem dX9_changed_35 : decode cX9_changed 35 = .ok (.invokevirtual 284, 3) := by decide +kernel
theorem dX9_changed_38 : decode cX9_changed 38 = .ok (.istore_n 2, 1) := by decide +kernel
theorem dX9_changed_39 : decode cX9_changed 39 = .ok (.iload_n 1, 1) := by decide +kernel
theorem dX9_changed_40 : decode cX9_changed 40 = .ok (.iconst (-1), 1) := by decide +kernel
theorem dX9_changed_41 : decode cX9_changed 41 = .ok (.if_icmp .ne 5, 3) := by decide +kernel
theorem dX9_changed_44 : decode cX9_changed 44 = .ok (.iload_n 2, 1) := by decide +kernel
theorem dX9_changed_45 : decode cX9_changed 45 = .ok (.ireturn, 1) := by decide +kernel
theorem dX9_changed_46 : decode cX9_changed 46 = .ok (.iload_n 1, 1) := by decide +kernel
theorem dX9_changed_47 : decode cX9_changed 47 = .ok (.ifCond .lt 22, 3) := by decide +kernel
theorem dX9_changed_50 : decode cX9_changed 50 = .ok (.iload_n 1, 1) := by decide +kernel
theorem dX9_changed_51 : decode cX9_changed 51 = .ok (.iload_n 2, 1) := by decide +kernel
theorem dX9_changed_52 : decode cX9_changed 52 = .ok (.if_icmp .ge 17, 3) := by decide +kernel
theorem dX9_changed_55 : decode cX9_changed 55 = .ok (.aload_n 0, 1) := by decide +kernel
theorem dX9_changed_56 : decode cX9_changed 56 = .ok (.getfield 60, 3) := by decide +kernel
theorem dX9_changed_59 : decode cX9_changed 59 = .ok (.getfield 287, 3) := by decide +kernel
theorem dX9_changed_62 : decode cX9_changed 62 = .ok (.iload_n 1, 1) := by decide +kernel
theorem dX9_changed_63 : decode cX9_changed 63 = .ok (.invokestatic 157, 3) := by decide +kernel
theorem dX9_changed_66 : decode cX9_changed 66 = .ok (.goto 4, 3) := by decide +kernel
theorem dX9_changed_69 : decode cX9_changed 69 = .ok (.iconst (-1), 1) := by decide +kernel
theorem dX9_changed_70 : decode cX9_changed 70 = .ok (.ireturn, 1) := by decide +kernel
theorem dX9_askNext_0 : decode cX9_askNext 0 = .ok (.aload_n 0, 1) := by decide +kernel
theorem dX9_askNext_1 : decode cX9_askNext 1 = .ok (.getfield 60, 3) := by decide +kernel
theorem dX9_askNext_4 : decode cX9_askNext 4 = .ok (.aload_n 0, 1) := by decide +kernel
theorem dX9_askNext_5 : decode cX9_askNext 5 = .ok (.getfield 19, 3) := by decide +kernel
theorem dX9_askNext_8 : decode cX9_askNext 8 = .ok (.invokevirtual 290, 3) := by decide +kernel
theorem dX9_askNext_11 : decode cX9_askNext 11 = .ok (.ireturn, 1) := by decide +kernel
theorem dX9_called_0 : decode cX9_called 0 = .ok (.aload_n 0, 1) := by decide +kernel
theorem dX9_called_1 : decode cX9_called 1 = .ok (.getfield 19, 3) := by decide +kernel
theorem dX9_called_4 : decode cX9_called 4 = .ok (.iload_n 1, 1) := by decide +kernel
theorem dX9_called_5 : decode cX9_called 5 = .ok (.invokevirtual 148, 3) := by decide +kernel
theorem dX9_called_8 : decode cX9_called 8 = .ok (.ifCond .eq 14, 3) := by decide +kernel
theorem dX9_called_11 : decode cX9_called 11 = .ok (.aload_n 0, 1) := by decide +kernel
theorem dX9_called_12 : decode cX9_called 12 = .ok (.getfield 60, 3) := by decide +kernel
theorem dX9_called_15 : decode cX9_called 15 = .ok (.iload_n 1, 1) := by decide +kernel
theorem dX9_called_16 : decode cX9_called 16 = .ok (.invokevirtual 293, 3) := by decide +kernel
theorem dX9_called_19 : decode cX9_called 19 = .ok (.goto 5, 3) := by decide +kernel
theorem dX9_called_22 : decode cX9_called 22 = .ok (.ldc 152, 2) := by decide +kernel
theorem dX9_called_24 : decode cX9_called 24 = .ok (.ireturn, 1) := by decide +kernel
theorem dX9_write_0 : decode cX9_write 0 = .ok (.aload_n 0, 1) := by decide +kernel
theorem dX9_write_1 : decode cX9_write 1 = .ok (.getfield 19, 3) := by decide +kernel
theorem dX9_write_4 : decode cX9_write 4 = .ok (.iload_n 1, 1) := by decide +kernel
theorem dX9_write_5 : decode cX9_write 5 = .ok (.invokevirtual 148, 3) := by decide +kernel
theorem dX9_write_8 : decode cX9_write 8 = .ok (.ifCond .eq 10, 3) := by decide +kernel
theorem dX9_write_11 : decode cX9_write 11 = .ok (.iload_n 2, 1) := by decide +kernel
theorem dX9_write_12 : decode cX9_write 12 = .ok (.invokestatic 211, 3) := by decide +kernel
theorem dX9_write_15 : decode cX9_write 15 = .ok (.ifCond .ne 6, 3) := by decide +kernel
theorem dX9_write_18 : decode cX9_write 18 = .ok (.ldc 152, 2) := by decide +kernel
theorem dX9_write_20 : decode cX9_write 20 = .ok (.ireturn, 1) := by decide +kernel
theorem dX9_write_21 : decode cX9_write 21 = .ok (.aload_n 0, 1) := by decide +kernel
theorem dX9_write_22 : decode cX9_write 22 = .ok (.getfield 67, 3) := by decide +kernel
theorem dX9_write_25 : decode cX9_write 25 = .ok (.getfield 104, 3) := by decide +kernel
theorem dX9_write_28 : decode cX9_write 28 = .ok (.bipush 15, 2) := by decide +kernel
theorem dX9_write_30 : decode cX9_write 30 = .ok (.if_icmp .lt 8, 3) := by decide +kernel
theorem dX9_write_33 : decode cX9_write 33 = .ok (.ldc 83, 2) := by decide +kernel
theorem dX9_write_35 : decode cX9_write 35 = .ok (.goto 12, 3) := by decide +kernel
theorem dX9_write_38 : decode cX9_write 38 = .ok (.aload_n 0, 1) := by decide +kernel
theorem dX9_write_39 : decode cX9_write 39 = .ok (.getfield 67, 3) := by decide +kernel
theorem dX9_write_42 : decode cX9_write 42 = .ok (.iload_n 1, 1) := by decide +kernel
theorem dX9_write_43 : decode cX9_write 43 = .ok (.iload_n 2, 1) := by decide +kernel
theorem dX9_write_44 : decode cX9_write 44 = .ok (.invokevirtual 296, 3) := by decide +kernel
theorem dX9_write_47 : decode cX9_write 47 = .ok (.ireturn, 1) := by decide +kernel
theorem dX9_tear_0 : decode cX9_tear 0 = .ok (.aload_n 0, 1) := by decide +kernel
theorem dX9_tear_1 : decode cX9_tear 1 = .ok (.getfield 60, 3) := by decide +kernel
theorem dX9_tear_4 : decode cX9_tear 4 = .ok (.getfield 146, 3) := by decide +kernel
theorem dX9_tear_7 : decode cX9_tear 7 = .ok (.aload_n 0, 1) := by decide +kernel
theorem dX9_tear_8 : decode cX9_tear 8 = .ok (.getfield 67, 3) := by decide +kernel
theorem dX9_tear_11 : decode cX9_tear 11 = .ok (.getfield 104, 3) := by decide +kernel
theorem dX9_tear_14 : decode cX9_tear 14 = .ok (.iadd, 1) := by decide +kernel
theorem dX9_tear_15 : decode cX9_tear 15 = .ok (.istore_n 1, 1) := by decide +kernel
theorem dX9_tear_16 : decode cX9_tear 16 = .ok (.aload_n 0, 1) := by decide +kernel
theorem dX9_tear_17 : decode cX9_tear 17 = .ok (.getfield 60, 3) := by decide +kernel
theorem dX9_tear_20 : decode cX9_tear 20 = .ok (.invokevirtual 103, 3) := by decide +kernel
theorem dX9_tear_23 : decode cX9_tear 23 = .ok (.aload_n 0, 1) := by decide +kernel
theorem dX9_tear_24 : decode cX9_tear 24 = .ok (.getfield 67, 3) := by decide +kernel
theorem dX9_tear_27 : decode cX9_tear 27 = .ok (.iconst 0, 1) := by decide +kernel
theorem dX9_tear_28 : decode cX9_tear 28 = .ok (.putfield 104, 3) := by decide +kernel
theorem dX9_tear_31 : decode cX9_tear 31 = .ok (.iload_n 1, 1) := by decide +kernel
theorem dX9_tear_32 : decode cX9_tear 32 = .ok (.ireturn, 1) := by decide +kernel
theorem dX9_judge_0 : decode cX9_judge 0 = .ok (.aload_n 0, 1) := by decide +kernel
theorem dX9_judge_1 : decode cX9_judge 1 = .ok (.getfield 67, 3) := by decide +kernel
theorem dX9_judge_4 : decode cX9_judge 4 = .ok (.aload_n 0, 1) := by decide +kernel
theorem dX9_judge_5 : decode cX9_judge 5 = .ok (.getfield 29, 3) := by decide +kernel
theorem dX9_judge_8 : decode cX9_judge 8 = .ok (.invokevirtual 300, 3) := by decide +kernel
theorem dX9_judge_11 : decode cX9_judge 11 = .ok (.ireturn, 1) := by decide +kernel
theorem dX9_seed_0 : decode cX9_seed 0 = .ok (.iload_n 1, 1) := by decide +kernel
theorem dX9_seed_1 : decode cX9_seed 1 = .ok (.ifCond .ge 6, 3) := by decide +kernel
theorem dX9_seed_4 : decode cX9_seed 4 = .ok (.ldc 78, 2) := by decide +kernel
theorem dX9_seed_6 : decode cX9_seed 6 = .ok (.ireturn, 1) := by decide +kernel
theorem dX9_seed_7 : decode cX9_seed 7 = .ok (.aload_n 0, 1) := by decide +kernel
theorem dX9_seed_8 : decode cX9_seed 8 = .ok (.getfield 74, 3) := by decide +kernel
theorem dX9_seed_11 : decode cX9_seed 11 = .ok (.getfield 303, 3) := by decide +kernel
theorem dX9_seed_14 : decode cX9_seed 14 = .ok (.l2i, 1) := by decide +kernel
theorem dX9_seed_15 : decode cX9_seed 15 = .ok (.istore_n 2, 1) := by decide +kernel
theorem dX9_seed_16 : decode cX9_seed 16 = .ok (.aload_n 0, 1) := by decide +kernel
theorem dX9_seed_17 : decode cX9_seed 17 = .ok (.getfield 74, 3) := by decide +kernel
theorem dX9_seed_20 : decode cX9_seed 20 = .ok (.iload_n 1, 1) := by decide +kernel
theorem dX9_seed_21 : decode cX9_seed 21 = .ok (.i2l, 1) := by decide +kernel
theorem dX9_seed_22 : decode cX9_seed 22 = .ok (.putfield 303, 3) := by decide +kernel
theorem dX9_seed_25 : decode cX9_seed 25 = .ok (.iload_n 2, 1) := by decide +kernel
theorem dX9_seed_26 : decode cX9_seed 26 = .ok (.ireturn, 1) := by decide +kernel
theorem dX9_keep_0 : decode cX9_keep 0 = .ok (.aload_n 0, 1) := by decide +kernel
theorem dX9_keep_1 : decode cX9_keep 1 = .ok (.iload_n 1, 1) := by decide +kernel
theorem dX9_keep_2 : decode cX9_keep 2 = .ok (.invokevirtual 307, 3) := by decide +kernel
theorem dX9_keep_5 : decode cX9_keep 5 = .ok (.astore_n 2, 1) := by decide +kernel
theorem dX9_keep_6 : decode cX9_keep 6 = .ok (.aload_n 2, 1) := by decide +kernel
theorem dX9_keep_7 : decode cX9_keep 7 = .ok (.ifnonnull 6, 3) := by decide +kernel
theorem dX9_keep_10 : decode cX9_keep 10 = .ok (.ldc 152, 2) := by decide +kernel
theorem dX9_keep_12 : decode cX9_keep 12 = .ok (.ireturn, 1) := by decide +kernel
theorem dX9_keep_13 : decode cX9_keep 13 = .ok (.aload_n 2, 1) := by decide +kernel
theorem dX9_keep_14 : decode cX9_keep 14 = .ok (.getfield 311, 3) := by decide +kernel
theorem dX9_keep_17 : decode cX9_keep 17 = .ok (.aload_n 0, 1) := by decide +kernel
theorem dX9_keep_18 : decode cX9_keep 18 = .ok (.getfield 29, 3) := by decide +kernel
theorem dX9_keep_21 : decode cX9_keep 21 = .ok (.invokevirtual 314, 3) := by decide +kernel
theorem dX9_keep_24 : decode cX9_keep 24 = .ok (.aload_n 2, 1) := by decide +kernel
theorem dX9_keep_25 : decode cX9_keep 25 = .ok (.aload_n 0, 1) := by decide +kernel
theorem dX9_keep_26 : decode cX9_keep 26 = .ok (.getfield 74, 3) := by decide +kernel
theorem dX9_keep_29 : decode cX9_keep 29 = .ok (.getfield 303, 3) := by decide +kernel
theorem dX9_keep_32 : decode cX9_keep 32 = .ok (.putfield 317, 3) := by decide +kernel
theorem dX9_keep_35 : decode cX9_keep 35 = .ok (.aload_n 2, 1) := by decide +kernel
theorem dX9_keep_36 : decode cX9_keep 36 = .ok (.iconst 1, 1) := by decide +kernel
theorem dX9_keep_37 : decode cX9_keep 37 = .ok (.putfield 99, 3) := by decide +kernel
theorem dX9_keep_40 : decode cX9_keep 40 = .ok (.aload_n 0, 1) := by decide +kernel
theorem dX9_keep_41 : decode cX9_keep 41 = .ok (.getfield 36, 3) := by decide +kernel
theorem dX9_keep_44 : decode cX9_keep 44 = .ok (.invokevirtual 96, 3) := by decide +kernel
theorem dX9_keep_47 : decode cX9_keep 47 = .ok (.iconst 1, 1) := by decide +kernel
theorem dX9_keep_48 : decode cX9_keep 48 = .ok (.ireturn, 1) := by decide +kernel
theorem dX9_goBack_0 : decode cX9_goBack 0 = .ok (.aload_n 0, 1) := by decide +kernel
theorem dX9_goBack_1 : decode cX9_goBack 1 = .ok (.iload_n 1, 1) := by decide +kernel
theorem dX9_goBack_2 : decode cX9_goBack 2 = .ok (.invokevirtual 307, 3) := by decide +kernel
theorem dX9_goBack_5 : decode cX9_goBack 5 = .ok (.astore_n 2, 1) := by decide +kernel
theorem dX9_goBack_6 : decode cX9_goBack 6 = .ok (.aload_n 2, 1) := by decide +kernel
theorem dX9_goBack_7 : decode cX9_goBack 7 = .ok (.ifnonnull 6, 3) := by decide +kernel
theorem dX9_goBack_10 : decode cX9_goBack 10 = .ok (.ldc 152, 2) := by decide +kernel
theorem dX9_goBack_12 : decode cX9_goBack 12 = .ok (.ireturn, 1) := by decide +kernel
theorem dX9_goBack_13 : decode cX9_goBack 13 = .ok (.aload_n 2, 1) := by decide +kernel
theorem dX9_goBack_14 : decode cX9_goBack 14 = .ok (.getfield 99, 3) := by decide +kernel
theorem dX9_goBack_17 : decode cX9_goBack 17 = .ok (.ifCond .ne 6, 3) := by decide +kernel
theorem dX9_goBack_20 : decode cX9_goBack 20 = .ok (.ldc 205, 2) := by decide +kernel
theorem dX9_goBack_22 : decode cX9_goBack 22 = .ok (.ireturn, 1) := by decide +kernel
theorem dX9_goBack_23 : decode cX9_goBack 23 = .ok (.aload_n 0, 1) := by decide +kernel
theorem dX9_goBack_24 : decode cX9_goBack 24 = .ok (.getfield 29, 3) := by decide +kernel
theorem dX9_goBack_27 : decode cX9_goBack 27 = .ok (.aload_n 2, 1) := by decide +kernel
theorem dX9_goBack_28 : decode cX9_goBack 28 = .ok (.getfield 311, 3) := by decide +kernel
theorem dX9_goBack_31 : decode cX9_goBack 31 = .ok (.invokevirtual 314, 3) := by decide +kernel
theorem dX9_goBack_34 : decode cX9_goBack 34 = .ok (.aload_n 0, 1) := by decide +kernel
theorem dX9_goBack_35 : decode cX9_goBack 35 = .ok (.getfield 74, 3) := by decide +kernel
theorem dX9_goBack_38 : decode cX9_goBack 38 = .ok (.aload_n 2, 1) := by decide +kernel
theorem dX9_goBack_39 : decode cX9_goBack 39 = .ok (.getfield 317, 3) := by decide +kernel
theorem dX9_goBack_42 : decode cX9_goBack 42 = .ok (.putfield 303, 3) := by decide +kernel
theorem dX9_goBack_45 : decode cX9_goBack 45 = .ok (.aload_n 0, 1) := by decide +kernel
theorem dX9_goBack_46 : decode cX9_goBack 46 = .ok (.getfield 36, 3) := by decide +kernel
theorem dX9_goBack_49 : decode cX9_goBack 49 = .ok (.invokevirtual 96, 3) := by decide +kernel
theorem dX9_goBack_52 : decode cX9_goBack 52 = .ok (.iconst 1, 1) := by decide +kernel
theorem dX9_goBack_53 : decode cX9_goBack 53 = .ok (.ireturn, 1) := by decide +kernel
theorem dX9_imageOf_0 : decode cX9_imageOf 0 = .ok (.iload_n 1, 1) := by decide +kernel
theorem dX9_imageOf_1 : decode cX9_imageOf 1 = .ok (.ifCond .ne 8, 3) := by decide +kernel
theorem dX9_imageOf_4 : decode cX9_imageOf 4 = .ok (.aload_n 0, 1) := by decide +kernel
theorem dX9_imageOf_5 : decode cX9_imageOf 5 = .ok (.getfield 43, 3) := by decide +kernel
theorem dX9_imageOf_8 : decode cX9_imageOf 8 = .ok (.areturn, 1) := by decide +kernel
theorem dX9_imageOf_9 : decode cX9_imageOf 9 = .ok (.iload_n 1, 1) := by decide +kernel
theorem dX9_imageOf_10 : decode cX9_imageOf 10 = .ok (.iconst 1, 1) := by decide +kernel
theorem dX9_imageOf_11 : decode cX9_imageOf 11 = .ok (.if_icmp .ne 10, 3) := by decide +kernel
theorem dX9_imageOf_14 : decode cX9_imageOf 14 = .ok (.aload_n 0, 1) := by decide +kernel
theorem dX9_imageOf_15 : decode cX9_imageOf 15 = .ok (.getfield 47, 3) := by decide +kernel
theorem dX9_imageOf_18 : decode cX9_imageOf 18 = .ok (.goto 4, 3) := by decide +kernel
theorem dX9_imageOf_21 : decode cX9_imageOf 21 = .ok (.aconst_null, 1) := by decide +kernel
theorem dX9_imageOf_22 : decode cX9_imageOf 22 = .ok (.areturn, 1) := by decide +kernel
theorem dX9_at_0 : decode cX9_at 0 = .ok (.iload_n 1, 1) := by decide +kernel
theorem dX9_at_1 : decode cX9_at 1 = .ok (.ifCond .lt 15, 3) := by decide +kernel
theorem dX9_at_4 : decode cX9_at 4 = .ok (.iload_n 1, 1) := by decide +kernel
theorem dX9_at_5 : decode cX9_at 5 = .ok (.aload_n 0, 1) := by decide +kernel
theorem dX9_at_6 : decode cX9_at 6 = .ok (.arraylength, 1) := by decide +kernel
theorem dX9_at_7 : decode cX9_at 7 = .ok (.if_icmp .ge 9, 3) := by decide +kernel
theorem dX9_at_10 : decode cX9_at 10 = .ok (.aload_n 0, 1) := by decide +kernel
theorem dX9_at_11 : decode cX9_at 11 = .ok (.iload_n 1, 1) := by decide +kernel
theorem dX9_at_12 : decode cX9_at 12 = .ok (.iaload, 1) := by decide +kernel
theorem dX9_at_13 : decode cX9_at 13 = .ok (.goto 4, 3) := by decide +kernel
theorem dX9_at_16 : decode cX9_at 16 = .ok (.iconst 0, 1) := by decide +kernel
theorem dX9_at_17 : decode cX9_at 17 = .ok (.ireturn, 1) := by decide +kernel
theorem dX9_put_0 : decode cX9_put 0 = .ok (.iload_n 1, 1) := by decide +kernel
theorem dX9_put_1 : decode cX9_put 1 = .ok (.ifCond .lt 13, 3) := by decide +kernel
theorem dX9_put_4 : decode cX9_put 4 = .ok (.iload_n 1, 1) := by decide +kernel
theorem dX9_put_5 : decode cX9_put 5 = .ok (.aload_n 0, 1) := by decide +kernel
theorem dX9_put_6 : decode cX9_put 6 = .ok (.arraylength, 1) := by decide +kernel
theorem dX9_put_7 : decode cX9_put 7 = .ok (.if_icmp .ge 7, 3) := by decide +kernel
theorem dX9_put_10 : decode cX9_put 10 = .ok (.aload_n 0, 1) := by decide +kernel
theorem dX9_put_11 : decode cX9_put 11 = .ok (.iload_n 1, 1) := by decide +kernel
theorem dX9_put_12 : decode cX9_put 12 = .ok (.iload_n 2, 1) := by decide +kernel
theorem dX9_put_13 : decode cX9_put 13 = .ok (.iastore, 1) := by decide +kernel
theorem dX9_put_14 : decode cX9_put 14 = .ok (.return_, 1) := by decide +kernel
theorem dX9_copy_0 : decode cX9_copy 0 = .ok (.iconst 0, 1) := by decide +kernel
theorem dX9_copy_1 : decode cX9_copy 1 = .ok (.istore_n 2, 1) := by decide +kernel
theorem dX9_copy_2 : decode cX9_copy 2 = .ok (.iload_n 2, 1) := by decide +kernel
theorem dX9_copy_3 : decode cX9_copy 3 = .ok (.aload_n 0, 1) := by decide +kernel
theorem dX9_copy_4 : decode cX9_copy 4 = .ok (.arraylength, 1) := by decide +kernel
theorem dX9_copy_5 : decode cX9_copy 5 = .ok (.if_icmp .ge 21, 3) := by decide +kernel
theorem dX9_copy_8 : decode cX9_copy 8 = .ok (.iload_n 2, 1) := by decide +kernel
theorem dX9_copy_9 : decode cX9_copy 9 = .ok (.aload_n 1, 1) := by decide +kernel
theorem dX9_copy_10 : decode cX9_copy 10 = .ok (.arraylength, 1) := by decide +kernel
theorem dX9_copy_11 : decode cX9_copy 11 = .ok (.if_icmp .ge 15, 3) := by decide +kernel
theorem dX9_copy_14 : decode cX9_copy 14 = .ok (.aload_n 1, 1) := by decide +kernel
theorem dX9_copy_15 : decode cX9_copy 15 = .ok (.iload_n 2, 1) := by decide +kernel
theorem dX9_copy_16 : decode cX9_copy 16 = .ok (.aload_n 0, 1) := by decide +kernel
theorem dX9_copy_17 : decode cX9_copy 17 = .ok (.iload_n 2, 1) := by decide +kernel
theorem dX9_copy_18 : decode cX9_copy 18 = .ok (.iaload, 1) := by decide +kernel
theorem dX9_copy_19 : decode cX9_copy 19 = .ok (.iastore, 1) := by decide +kernel
theorem dX9_copy_20 : decode cX9_copy 20 = .ok (.iinc 2 1, 3) := by decide +kernel
theorem dX9_copy_23 : decode cX9_copy 23 = .ok (.goto (-21), 3) := by decide +kernel
theorem dX9_copy_26 : decode cX9_copy 26 = .ok (.return_, 1) := by decide +kernel
theorem dX9_fill_0 : decode cX9_fill 0 = .ok (.iconst 0, 1) := by decide +kernel
theorem dX9_fill_1 : decode cX9_fill 1 = .ok (.istore_n 2, 1) := by decide +kernel
theorem dX9_fill_2 : decode cX9_fill 2 = .ok (.iload_n 2, 1) := by decide +kernel
theorem dX9_fill_3 : decode cX9_fill 3 = .ok (.aload_n 0, 1) := by decide +kernel
theorem dX9_fill_4 : decode cX9_fill 4 = .ok (.arraylength, 1) := by decide +kernel
theorem dX9_fill_5 : decode cX9_fill 5 = .ok (.if_icmp .ge 13, 3) := by decide +kernel
theorem dX9_fill_8 : decode cX9_fill 8 = .ok (.aload_n 0, 1) := by decide +kernel
theorem dX9_fill_9 : decode cX9_fill 9 = .ok (.iload_n 2, 1) := by decide +kernel
theorem dX9_fill_10 : decode cX9_fill 10 = .ok (.iload_n 1, 1) := by decide +kernel
theorem dX9_fill_11 : decode cX9_fill 11 = .ok (.iastore, 1) := by decide +kernel
theorem dX9_fill_12 : decode cX9_fill 12 = .ok (.iinc 2 1, 3) := by decide +kernel
theorem dX9_fill_15 : decode cX9_fill 15 = .ok (.goto (-13), 3) := by decide +kernel
theorem dX9_fill_18 : decode cX9_fill 18 = .ok (.return_, 1) := by decide +kernel
theorem dX9_has_0 : decode cX9_has 0 = .ok (.iload_n 1, 1) := by decide +kernel
theorem dX9_has_1 : decode cX9_has 1 = .ok (.ifCond .lt 21, 3) := by decide +kernel
theorem dX9_has_4 : decode cX9_has 4 = .ok (.iload_n 1, 1) := by decide +kernel
theorem dX9_has_5 : decode cX9_has 5 = .ok (.bipush 31, 2) := by decide +kernel
theorem dX9_has_7 : decode cX9_has 7 = .ok (.if_icmp .ge 15, 3) := by decide +kernel
theorem dX9_has_10 : decode cX9_has 10 = .ok (.iload_n 0, 1) := by decide +kernel
theorem dX9_has_11 : decode cX9_has 11 = .ok (.iload_n 1, 1) := by decide +kernel
theorem dX9_has_12 : decode cX9_has 12 = .ok (.ishr, 1) := by decide +kernel
theorem dX9_has_13 : decode cX9_has 13 = .ok (.iconst 1, 1) := by decide +kernel
theorem dX9_has_14 : decode cX9_has 14 = .ok (.iand, 1) := by decide +kernel
theorem dX9_has_15 : decode cX9_has 15 = .ok (.ifCond .eq 7, 3) := by decide +kernel
theorem dX9_has_18 : decode cX9_has 18 = .ok (.iconst 1, 1) := by decide +kernel
theorem dX9_has_19 : decode cX9_has 19 = .ok (.goto 4, 3) := by decide +kernel
theorem dX9_has_22 : decode cX9_has 22 = .ok (.iconst 0, 1) := by decide +kernel
theorem dX9_has_23 : decode cX9_has 23 = .ok (.ireturn, 1) := by decide +kernel
theorem dX9_with_0 : decode cX9_with 0 = .ok (.iload_n 1, 1) := by decide +kernel
theorem dX9_with_1 : decode cX9_with 1 = .ok (.ifCond .lt 9, 3) := by decide +kernel
theorem dX9_with_4 : decode cX9_with 4 = .ok (.iload_n 1, 1) := by decide +kernel
theorem dX9_with_5 : decode cX9_with 5 = .ok (.bipush 31, 2) := by decide +kernel
theorem dX9_with_7 : decode cX9_with 7 = .ok (.if_icmp .lt 5, 3) := by decide +kernel
theorem dX9_with_10 : decode cX9_with 10 = .ok (.iload_n 0, 1) := by decide +kernel
theorem dX9_with_11 : decode cX9_with 11 = .ok (.ireturn, 1) := by decide +kernel
theorem dX9_with_12 : decode cX9_with 12 = .ok (.iload_n 2, 1) := by decide +kernel
theorem dX9_with_13 : decode cX9_with 13 = .ok (.ifCond .eq 11, 3) := by decide +kernel
theorem dX9_with_16 : decode cX9_with 16 = .ok (.iload_n 0, 1) := by decide +kernel
theorem dX9_with_17 : decode cX9_with 17 = .ok (.iconst 1, 1) := by decide +kernel
theorem dX9_with_18 : decode cX9_with 18 = .ok (.iload_n 1, 1) := by decide +kernel
theorem dX9_with_19 : decode cX9_with 19 = .ok (.ishl, 1) := by decide +kernel
theorem dX9_with_20 : decode cX9_with 20 = .ok (.ior, 1) := by decide +kernel
theorem dX9_with_21 : decode cX9_with 21 = .ok (.goto 10, 3) := by decide +kernel
theorem dX9_with_24 : decode cX9_with 24 = .ok (.iload_n 0, 1) := by decide +kernel
theorem dX9_with_25 : decode cX9_with 25 = .ok (.iconst 1, 1) := by decide +kernel
theorem dX9_with_26 : decode cX9_with 26 = .ok (.iload_n 1, 1) := by decide +kernel
theorem dX9_with_27 : decode cX9_with 27 = .ok (.ishl, 1) := by decide +kernel
theorem dX9_with_28 : decode cX9_with 28 = .ok (.iconst (-1), 1) := by decide +kernel
theorem dX9_with_29 : decode cX9_with 29 = .ok (.ixor, 1) := by decide +kernel
theorem dX9_with_30 : decode cX9_with 30 = .ok (.iand, 1) := by decide +kernel
theorem dX9_with_31 : decode cX9_with 31 = .ok (.ireturn, 1) := by decide +kernel
theorem dX9_isName_0 : decode cX9_isName 0 = .ok (.iload_n 0, 1) := by decide +kernel
theorem dX9_isName_1 : decode cX9_isName 1 = .ok (.ifCond .lt 13, 3) := by decide +kernel
theorem dX9_isName_4 : decode cX9_isName 4 = .ok (.iload_n 0, 1) := by decide +kernel
theorem dX9_isName_5 : decode cX9_isName 5 = .ok (.bipush 10, 2) := by decide +kernel
theorem dX9_isName_7 : decode cX9_isName 7 = .ok (.if_icmp .ge 7, 3) := by decide +kernel
theorem dX9_isName_10 : decode cX9_isName 10 = .ok (.iconst 1, 1) := by decide +kernel
theorem dX9_isName_11 : decode cX9_isName 11 = .ok (.goto 4, 3) := by decide +kernel
theorem dX9_isName_14 : decode cX9_isName 14 = .ok (.iconst 0, 1) := by decide +kernel
theorem dX9_isName_15 : decode cX9_isName 15 = .ok (.ireturn, 1) := by decide +kernel
theorem dX10_init_0 : decode cX10_init 0 = .ok (.aload_n 0, 1) := by decide +kernel
theorem dX10_init_1 : decode cX10_init 1 = .ok (.invokespecial 1, 3) := by decide +kernel
theorem dX10_init_4 : decode cX10_init 4 = .ok (.aload_n 0, 1) := by decide +kernel
theorem dX10_init_5 : decode cX10_init 5 = .ok (.sipush 805, 3) := by decide +kernel
theorem dX10_init_8 : decode cX10_init 8 = .ok (.newarray .int, 2) := by decide +kernel
theorem dX10_init_10 : decode cX10_init 10 = .ok (.putfield 7, 3) := by decide +kernel
theorem dX10_init_13 : decode cX10_init 13 = .ok (.aload_n 0, 1) := by decide +kernel
theorem dX10_init_14 : decode cX10_init 14 = .ok (.iconst 2, 1) := by decide +kernel
theorem dX10_init_15 : decode cX10_init 15 = .ok (.newarray .boolean, 2) := by decide +kernel
theorem dX10_init_17 : decode cX10_init 17 = .ok (.putfield 13, 3) := by decide +kernel
theorem dX10_init_20 : decode cX10_init 20 = .ok (.aload_n 0, 1) := by decide +kernel
theorem dX10_init_21 : decode cX10_init 21 = .ok (.bipush 8, 2) := by decide +kernel
theorem dX10_init_23 : decode cX10_init 23 = .ok (.newarray .int, 2) := by decide +kernel
theorem dX10_init_25 : decode cX10_init 25 = .ok (.putfield 17, 3) := by decide +kernel
theorem dX10_init_28 : decode cX10_init 28 = .ok (.aload_n 0, 1) := by decide +kernel
theorem dX10_init_29 : decode cX10_init 29 = .ok (.bipush 8, 2) := by decide +kernel
theorem dX10_init_31 : decode cX10_init 31 = .ok (.newarray .int, 2) := by decide +kernel
theorem dX10_init_33 : decode cX10_init 33 = .ok (.putfield 20, 3) := by decide +kernel
theorem dX10_init_36 : decode cX10_init 36 = .ok (.aload_n 0, 1) := by decide +kernel
theorem dX10_init_37 : decode cX10_init 37 = .ok (.bipush 7, 2) := by decide +kernel
theorem dX10_init_39 : decode cX10_init 39 = .ok (.newarray .int, 2) := by decide +kernel
theorem dX10_init_41 : decode cX10_init 41 = .ok (.putfield 23, 3) := by decide +kernel
theorem dX10_init_44 : decode cX10_init 44 = .ok (.aload_n 0, 1) := by decide +kernel
theorem dX10_init_45 : decode cX10_init 45 = .ok (.bipush 7, 2) := by decide +kernel
theorem dX10_init_47 : decode cX10_init 47 = .ok (.newarray .int, 2) := by decide +kernel
theorem dX10_init_49 : decode cX10_init 49 = .ok (.putfield 26, 3) := by decide +kernel
theorem dX10_init_52 : decode cX10_init 52 = .ok (.aload_n 0, 1) := by decide +kernel
theorem dX10_init_53 : decode cX10_init 53 = .ok (.bipush 7, 2) := by decide +kernel
theorem dX10_init_55 : decode cX10_init 55 = .ok (.newarray .int, 2) := by decide +kernel
theorem dX10_init_57 : decode cX10_init 57 = .ok (.putfield 29, 3) := by decide +kernel
theorem dX10_init_60 : decode cX10_init 60 = .ok (.aload_n 0, 1) := by decide +kernel
theorem dX10_init_61 : decode cX10_init 61 = .ok (.bipush 10, 2) := by decide +kernel
theorem dX10_init_63 : decode cX10_init 63 = .ok (.newarray .int, 2) := by decide +kernel
theorem dX10_init_65 : decode cX10_init 65 = .ok (.putfield 32, 3) := by decide +kernel
theorem dX10_init_68 : decode cX10_init 68 = .ok (.aload_n 0, 1) := by decide +kernel
theorem dX10_init_69 : decode cX10_init 69 = .ok (.sipush 240, 3) := by decide +kernel
theorem dX10_init_72 : decode cX10_init 72 = .ok (.newarray .int, 2) := by decide +kernel
theorem dX10_init_74 : decode cX10_init 74 = .ok (.putfield 35, 3) := by decide +kernel
theorem dX10_init_77 : decode cX10_init 77 = .ok (.aload_n 0, 1) := by decide +kernel
theorem dX10_init_78 : decode cX10_init 78 = .ok (.iconst (-1), 1) := by decide +kernel
theorem dX10_init_79 : decode cX10_init 79 = .ok (.putfield 38, 3) := by decide +kernel
theorem dX10_init_82 : decode cX10_init 82 = .ok (.aload_n 0, 1) := by decide +kernel
theorem dX10_init_83 : decode cX10_init 83 = .ok (.bipush 8, 2) := by decide +kernel
theorem dX10_init_85 : decode cX10_init 85 = .ok (.newarray .int, 2) := by decide +kernel
theorem dX10_init_87 : decode cX10_init 87 = .ok (.putfield 42, 3) := by decide +kernel
theorem dX10_init_90 : decode cX10_init 90 = .ok (.aload_n 0, 1) := by decide +kernel
theorem dX10_init_91 : decode cX10_init 91 = .ok (.bipush 8, 2) := by decide +kernel
theorem dX10_init_93 : decode cX10_init 93 = .ok (.newarray .int, 2) := by decide +kernel
theorem dX10_init_95 : decode cX10_init 95 = .ok (.putfield 45, 3) := by decide +kernel
theorem dX10_init_98 : decode cX10_init 98 = .ok (.aload_n 0, 1) := by decide +kernel
theorem dX10_init_99 : decode cX10_init 99 = .ok (.bipush 7, 2) := by decide +kernel
theorem dX10_init_101 : decode cX10_init 101 = .ok (.newarray .int, 2) := by decide +kernel
theorem dX10_init_103 : decode cX10_init 103 = .ok (.putfield 48, 3) := by decide +kernel
theorem dX10_init_106 : decode cX10_init 106 = .ok (.aload_n 0, 1) := by decide +kernel
theorem dX10_init_107 : decode cX10_init 107 = .ok (.bipush 7, 2) := by decide +kernel
theorem dX10_init_109 : decode cX10_init 109 = .ok (.newarray .int, 2) := by decide +kernel
theorem dX10_init_111 : decode cX10_init 111 = .ok (.putfield 51, 3) := by decide +kernel
theorem dX10_init_114 : decode cX10_init 114 = .ok (.aload_n 0, 1) := by decide +kernel
theorem dX10_init_115 : decode cX10_init 115 = .ok (.bipush 7, 2) := by decide +kernel
theorem dX10_init_117 : decode cX10_init 117 = .ok (.newarray .int, 2) := by decide +kernel
theorem dX10_init_119 : decode cX10_init 119 = .ok (.putfield 54, 3) := by decide +kernel
theorem dX10_init_122 : decode cX10_init 122 = .ok (.aload_n 0, 1) := by decide +kernel
theorem dX10_init_123 : decode cX10_init 123 = .ok (.bipush 10, 2) := by decide +kernel
theorem dX10_init_125 : decode cX10_init 125 = .ok (.newarray .int, 2) := by decide +kernel
theorem dX10_init_127 : decode cX10_init 127 = .ok (.putfield 57, 3) := by decide +kernel
theorem dX10_init_130 : decode cX10_init 130 = .ok (.aload_n 0, 1) := by decide +kernel
theorem dX10_init_131 : decode cX10_init 131 = .ok (.iconst 5, 1) := by decide +kernel
theorem dX10_init_132 : decode cX10_init 132 = .ok (.newarray .int, 2) := by decide +kernel
theorem dX10_init_134 : decode cX10_init 134 = .ok (.putfield 60, 3) := by decide +kernel
theorem dX10_init_137 : decode cX10_init 137 = .ok (.aload_n 0, 1) := by decide +kernel
theorem dX10_init_138 : decode cX10_init 138 = .ok (.bipush 49, 2) := by decide +kernel
theorem dX10_init_140 : decode cX10_init 140 = .ok (.newarray .int, 2) := by decide +kernel
theorem dX10_init_142 : decode cX10_init 142 = .ok (.putfield 63, 3) := by decide +kernel
theorem dX10_init_145 : decode cX10_init 145 = .ok (.aload_n 0, 1) := by decide +kernel
theorem dX10_init_146 : decode cX10_init 146 = .ok (.sipush 896, 3) := by decide +kernel
theorem dX10_init_149 : decode cX10_init 149 = .ok (.newarray .int, 2) := by decide +kernel
theorem dX10_init_151 : decode cX10_init 151 = .ok (.putfield 66, 3) := by decide +kernel
theorem dX10_init_154 : decode cX10_init 154 = .ok (.aload_n 0, 1) := by decide +kernel
theorem dX10_init_155 : decode cX10_init 155 = .ok (.bipush 8, 2) := by decide +kernel
theorem dX10_init_157 : decode cX10_init 157 = .ok (.newarray .int, 2) := by decide +kernel
theorem dX10_init_159 : decode cX10_init 159 = .ok (.putfield 69, 3) := by decide +kernel
theorem dX10_init_162 : decode cX10_init 162 = .ok (.aload_n 0, 1) := by decide +kernel
theorem dX10_init_163 : decode cX10_init 163 = .ok (.bipush 8, 2) := by decide +kernel
theorem dX10_init_165 : decode cX10_init 165 = .ok (.newarray .int, 2) := by decide +kernel
theorem dX10_init_167 : decode cX10_init 167 = .ok (.putfield 72, 3) := by decide +kernel
theorem dX10_init_170 : decode cX10_init 170 = .ok (.aload_n 0, 1) := by decide +kernel
theorem dX10_init_171 : decode cX10_init 171 = .ok (.bipush 8, 2) := by decide +kernel
theorem dX10_init_173 : decode cX10_init 173 = .ok (.newarray .boolean, 2) := by decide +kernel
theorem dX10_init_175 : decode cX10_init 175 = .ok (.putfield 75, 3) := by decide +kernel
theorem dX10_init_178 : decode cX10_init 178 = .ok (.aload_n 0, 1) := by decide +kernel
theorem dX10_init_179 : decode cX10_init 179 = .ok (.bipush 15, 2) := by decide +kernel
theorem dX10_init_181 : decode cX10_init 181 = .ok (.newarray .int, 2) := by decide +kernel
theorem dX10_init_183 : decode cX10_init 183 = .ok (.putfield 78, 3) := by decide +kernel
theorem dX10_init_186 : decode cX10_init 186 = .ok (.aload_n 0, 1) := by decide +kernel
theorem dX10_init_187 : decode cX10_init 187 = .ok (.bipush 15, 2) := by decide +kernel
theorem dX10_init_189 : decode cX10_init 189 = .ok (.newarray .int, 2) := by decide +kernel
theorem dX10_init_191 : decode cX10_init 191 = .ok (.putfield 81, 3) := by decide +kernel
theorem dX10_init_194 : decode cX10_init 194 = .ok (.iconst 0, 1) := by decide +kernel
theorem dX10_init_195 : decode cX10_init 195 = .ok (.istore_n 1, 1) := by decide +kernel
theorem dX10_init_196 : decode cX10_init 196 = .ok (.iload_n 1, 1) := by decide +kernel
theorem dX10_init_197 : decode cX10_init 197 = .ok (.bipush 7, 2) := by decide +kernel
theorem dX10_init_199 : decode cX10_init 199 = .ok (.if_icmp .ge 19, 3) := by decide +kernel
theorem dX10_init_202 : decode cX10_init 202 = .ok (.aload_n 0, 1) := by decide +kernel
theorem dX10_init_203 : decode cX10_init 203 = .ok (.getfield 7, 3) := by decide +kernel
theorem dX10_init_206 : decode cX10_init 206 = .ok (.bipush 15, 2) := by decide +kernel
theorem dX10_init_208 : decode cX10_init 208 = .ok (.iload_n 1, 1) := by decide +kernel
theorem dX10_init_209 : decode cX10_init 209 = .ok (.iadd, 1) := by decide +kernel
theorem dX10_init_210 : decode cX10_init 210 = .ok (.iconst (-1), 1) := by decide +kernel
theorem dX10_init_211 : decode cX10_init 211 = .ok (.iastore, 1) := by decide +kernel
theorem dX10_init_212 : decode cX10_init 212 = .ok (.iinc 1 1, 3) := by decide +kernel
theorem dX10_init_215 : decode cX10_init 215 = .ok (.goto (-19), 3) := by decide +kernel
theorem dX10_init_218 : decode cX10_init 218 = .ok (.return_, 1) := by decide +kernel
theorem dX10_in_0 : decode cX10_in 0 = .ok (.lload_n 0, 1) := by decide +kernel
theorem dX10_in_1 : decode cX10_in 1 = .ok (.lload_n 2, 1) := by decide +kernel
theorem dX10_in_2 : decode cX10_in 2 = .ok (.lcmp, 1) := by decide +kernel
theorem dX10_in_3 : decode cX10_in 3 = .ok (.ifCond .lt 14, 3) := by decide +kernel
theorem dX10_in_6 : decode cX10_in 6 = .ok (.lload_n 0, 1) := by decide +kernel
theorem dX10_in_7 : decode cX10_in 7 = .ok (.lload 4, 2) := by decide +kernel
theorem dX10_in_9 : decode cX10_in 9 = .ok (.lcmp, 1) := by decide +kernel
theorem dX10_in_10 : decode cX10_in 10 = .ok (.ifCond .gt 7, 3) := by decide +kernel
theorem dX10_in_13 : decode cX10_in 13 = .ok (.iconst 1, 1) := by decide +kernel
theorem dX10_in_14 : decode cX10_in 14 = .ok (.goto 4, 3) := by decide +kernel
theorem dX10_in_17 : decode cX10_in 17 = .ok (.iconst 0, 1) := by decide +kernel
theorem dX10_in_18 : decode cX10_in 18 = .ok (.ireturn, 1) := by decide +kernel
theorem dX10_has_0 : decode cX10_has 0 = .ok (.iload_n 0, 1) := by decide +kernel
theorem dX10_has_1 : decode cX10_has 1 = .ok (.iload_n 1, 1) := by decide +kernel
theorem dX10_has_2 : decode cX10_has 2 = .ok (.ishr, 1) := by decide +kernel
theorem dX10_has_3 : decode cX10_has 3 = .ok (.iconst 1, 1) := by decide +kernel
theorem dX10_has_4 : decode cX10_has 4 = .ok (.iand, 1) := by decide +kernel
theorem dX10_has_5 : decode cX10_has 5 = .ok (.iconst 1, 1) := by decide +kernel
theorem dX10_has_6 : decode cX10_has 6 = .ok (.if_icmp .ne 7, 3) := by decide +kernel
theorem dX10_has_9 : decode cX10_has 9 = .ok (.iconst 1, 1) := by decide +kernel
theorem dX10_has_10 : decode cX10_has 10 = .ok (.goto 4, 3) := by decide +kernel
theorem dX10_has_13 : decode cX10_has 13 = .ok (.iconst 0, 1) := by decide +kernel
theorem dX10_has_14 : decode cX10_has 14 = .ok (.ireturn, 1) := by decide +kernel
theorem dX10_copy_0 : decode cX10_copy 0 = .ok (.iconst 0, 1) := by decide +kernel
theorem dX10_copy_1 : decode cX10_copy 1 = .ok (.istore_n 3, 1) := by decide +kernel
theorem dX10_copy_2 : decode cX10_copy 2 = .ok (.iload_n 3, 1) := by decide +kernel
theorem dX10_copy_3 : decode cX10_copy 3 = .ok (.bipush 35, 2) := by decide +kernel
theorem dX10_copy_5 : decode cX10_copy 5 = .ok (.if_icmp .ge 25, 3) := by decide +kernel
theorem dX10_copy_8 : decode cX10_copy 8 = .ok (.aload_n 0, 1) := by decide +kernel
theorem dX10_copy_9 : decode cX10_copy 9 = .ok (.getfield 7, 3) := by decide +kernel
theorem dX10_copy_12 : decode cX10_copy 12 = .ok (.iload_n 2, 1) := by decide +kernel
theorem dX10_copy_13 : decode cX10_copy 13 = .ok (.iload_n 3, 1) := by decide +kernel
theorem dX10_copy_14 : decode cX10_copy 14 = .ok (.iadd, 1) := by decide +kernel
theorem dX10_copy_15 : decode cX10_copy 15 = .ok (.aload_n 0, 1) := by decide +kernel
theorem dX10_copy_16 : decode cX10_copy 16 = .ok (.getfield 7, 3) := by decide +kernel
theorem dX10_copy_19 : decode cX10_copy 19 = .ok (.iload_n 1, 1) := by decide +kernel
theorem dX10_copy_20 : decode cX10_copy 20 = .ok (.iload_n 3, 1) := by decide +kernel
theorem dX10_copy_21 : decode cX10_copy 21 = .ok (.iadd, 1) := by decide +kernel
theorem dX10_copy_22 : decode cX10_copy 22 = .ok (.iaload, 1) := by decide +kernel
theorem dX10_copy_23 : decode cX10_copy 23 = .ok (.iastore, 1) := by decide +kernel
theorem dX10_copy_24 : decode cX10_copy 24 = .ok (.iinc 3 1, 3) := by decide +kernel
theorem dX10_copy_27 : decode cX10_copy 27 = .ok (.goto (-25), 3) := by decide +kernel
theorem dX10_copy_30 : decode cX10_copy 30 = .ok (.return_, 1) := by decide +kernel
theorem dX10_isRoom_0 : decode cX10_isRoom 0 = .ok (.iload_n 1, 1) := by decide +kernel
theorem dX10_isRoom_1 : decode cX10_isRoom 1 = .ok (.i2l, 1) := by decide +kernel
theorem dX10_isRoom_2 : decode cX10_isRoom 2 = .ok (.lconst 0, 1) := by decide +kernel
theorem dX10_isRoom_3 : decode cX10_isRoom 3 = .ok (.aload_n 0, 1) := by decide +kernel
theorem dX10_isRoom_4 : decode cX10_isRoom 4 = .ok (.getfield 84, 3) := by decide +kernel
theorem dX10_isRoom_7 : decode cX10_isRoom 7 = .ok (.iconst 1, 1) := by decide +kernel
theorem dX10_isRoom_8 : decode cX10_isRoom 8 = .ok (.isub, 1) := by decide +kernel
theorem dX10_isRoom_9 : decode cX10_isRoom 9 = .ok (.i2l, 1) := by decide +kernel
theorem dX10_isRoom_10 : decode cX10_isRoom 10 = .ok (.invokestatic 87, 3) := by decide +kernel
theorem dX10_isRoom_13 : decode cX10_isRoom 13 = .ok (.ireturn, 1) := by decide +kernel
theorem dX10_isDoor_0 : decode cX10_isDoor 0 = .ok (.iload_n 1, 1) := by decide +kernel
theorem dX10_isDoor_1 : decode cX10_isDoor 1 = .ok (.i2l, 1) := by decide +kernel
theorem dX10_isDoor_2 : decode cX10_isDoor 2 = .ok (.lconst 0, 1) := by decide +kernel
theorem dX10_isDoor_3 : decode cX10_isDoor 3 = .ok (.aload_n 0, 1) := by decide +kernel
theorem dX10_isDoor_4 : decode cX10_isDoor 4 = .ok (.getfield 91, 3) := by decide +kernel
theorem dX10_isDoor_7 : decode cX10_isDoor 7 = .ok (.iconst 1, 1) := by decide +kernel
theorem dX10_isDoor_8 : decode cX10_isDoor 8 = .ok (.isub, 1) := by decide +kernel
theorem dX10_isDoor_9 : decode cX10_isDoor 9 = .ok (.i2l, 1) := by decide +kernel
theorem dX10_isDoor_10 : decode cX10_isDoor 10 = .ok (.invokestatic 87, 3) := by decide +kernel
theorem dX10_isDoor_13 : decode cX10_isDoor 13 = .ok (.ireturn, 1) := by decide +kernel
theorem dX10_isMirror_0 : decode cX10_isMirror 0 = .ok (.iload_n 1, 1) := by decide +kernel
theorem dX10_isMirror_1 : decode cX10_isMirror 1 = .ok (.i2l, 1) := by decide +kernel
theorem dX10_isMirror_2 : decode cX10_isMirror 2 = .ok (.lconst 0, 1) := by decide +kernel
theorem dX10_isMirror_3 : decode cX10_isMirror 3 = .ok (.aload_n 0, 1) := by decide +kernel
theorem dX10_isMirror_4 : decode cX10_isMirror 4 = .ok (.getfield 94, 3) := by decide +kernel
theorem dX10_isMirror_7 : decode cX10_isMirror 7 = .ok (.iconst 1, 1) := by decide +kernel
theorem dX10_isMirror_8 : decode cX10_isMirror 8 = .ok (.isub, 1) := by decide +kernel
theorem dX10_isMirror_9 : decode cX10_isMirror 9 = .ok (.i2l, 1) := by decide +kernel
theorem dX10_isMirror_10 : decode cX10_isMirror 10 = .ok (.invokestatic 87, 3) := by decide +kernel
theorem dX10_isMirror_13 : decode cX10_isMirror 13 = .ok (.ireturn, 1) := by decide +kernel
theorem dX10_isPerson_0 : decode cX10_isPerson 0 = .ok (.iload_n 1, 1) := by decide +kernel
theorem dX10_isPerson_1 : decode cX10_isPerson 1 = .ok (.i2l, 1) := by decide +kernel
theorem dX10_isPerson_2 : decode cX10_isPerson 2 = .ok (.lconst 0, 1) := by decide +kernel
theorem dX10_isPerson_3 : decode cX10_isPerson 3 = .ok (.aload_n 0, 1) := by decide +kernel
theorem dX10_isPerson_4 : decode cX10_isPerson 4 = .ok (.getfield 97, 3) := by decide +kernel
theorem dX10_isPerson_7 : decode cX10_isPerson 7 = .ok (.iconst 1, 1) := by decide +kernel
theorem dX10_isPerson_8 : decode cX10_isPerson 8 = .ok (.isub, 1) := by decide +kernel
theorem dX10_isPerson_9 : decode cX10_isPerson 9 = .ok (.i2l, 1) := by decide +kernel
theorem dX10_isPerson_10 : decode cX10_isPerson 10 = .ok (.invokestatic 87, 3) := by decide +kernel
theorem dX10_isPerson_13 : decode cX10_isPerson 13 = .ok (.ireturn, 1) := by decide +kernel
theorem dX10_isName_0 : decode cX10_isName 0 = .ok (.iload_n 0, 1) := by decide +kernel
theorem dX10_isName_1 : decode cX10_isName 1 = .ok (.i2l, 1) := by decide +kernel
theorem dX10_isName_2 : decode cX10_isName 2 = .ok (.lconst 0, 1) := by decide +kernel
theorem dX10_isName_3 : decode cX10_isName 3 = .ok (.ldc2_w 100, 3) := by decide +kernel
theorem dX10_isName_6 : decode cX10_isName 6 = .ok (.invokestatic 87, 3) := by decide +kernel
theorem dX10_isName_9 : decode cX10_isName 9 = .ok (.ireturn, 1) := by decide +kernel
theorem dX10_feed_0 : decode cX10_feed 0 = .ok (.iload_n 1, 1) := by decide +kernel
theorem dX10_feed_1 : decode cX10_feed 1 = .ok (.i2l, 1) := by decide +kernel
theorem dX10_feed_2 : decode cX10_feed 2 = .ok (.lconst 0, 1) := by decide +kernel
theorem dX10_feed_3 : decode cX10_feed 3 = .ok (.ldc2_w 102, 3) := by decide +kernel
theorem dX10_feed_6 : decode cX10_feed 6 = .ok (.invokestatic 87, 3) := by decide +kernel
theorem dX10_feed_9 : decode cX10_feed 9 = .ok (.ifCond .ne 6, 3) := by decide +kernel
theorem dX10_feed_12 : decode cX10_feed 12 = .ok (.ldc 104, 2) := by decide +kernel
theorem dX10_feed_14 : decode cX10_feed 14 = .ok (.ireturn, 1) := by decide +kernel
theorem dX10_feed_15 : decode cX10_feed 15 = .ok (.aload_n 0, 1) := by decide +kernel
theorem dX10_feed_16 : decode cX10_feed 16 = .ok (.getfield 105, 3) := by decide +kernel
theorem dX10_feed_19 : decode cX10_feed 19 = .ok (.sipush 240, 3) := by decide +kernel
theorem dX10_feed_22 : decode cX10_feed 22 = .ok (.if_icmp .ne 6, 3) := by decide +kernel
theorem dX10_feed_25 : decode cX10_feed 25 = .ok (.ldc 108, 2) := by decide +kernel
theorem dX10_feed_27 : decode cX10_feed 27 = .ok (.ireturn, 1) := by decide +kernel
theorem dX10_feed_28 : decode cX10_feed 28 = .ok (.aload_n 0, 1) := by decide +kernel
theorem dX10_feed_29 : decode cX10_feed 29 = .ok (.getfield 35, 3) := by decide +kernel
theorem dX10_feed_32 : decode cX10_feed 32 = .ok (.aload_n 0, 1) := by decide +kernel
theorem dX10_feed_33 : decode cX10_feed 33 = .ok (.getfield 105, 3) := by decide +kernel
theorem dX10_feed_36 : decode cX10_feed 36 = .ok (.iload_n 1, 1) := by decide +kernel
theorem dX10_feed_37 : decode cX10_feed 37 = .ok (.iastore, 1) := by decide +kernel
theorem dX10_feed_38 : decode cX10_feed 38 = .ok (.aload_n 0, 1) := by decide +kernel
theorem dX10_feed_39 : decode cX10_feed 39 = .ok (.dup, 1) := by decide +kernel
theorem dX10_feed_40 : decode cX10_feed 40 = .ok (.getfield 105, 3) := by decide +kernel
theorem dX10_feed_43 : decode cX10_feed 43 = .ok (.iconst 1, 1) := by decide +kernel
theorem dX10_feed_44 : decode cX10_feed 44 = .ok (.iadd, 1) := by decide +kernel
theorem dX10_feed_45 : decode cX10_feed 45 = .ok (.putfield 105, 3) := by decide +kernel
theorem dX10_feed_48 : decode cX10_feed 48 = .ok (.aload_n 0, 1) := by decide +kernel
theorem dX10_feed_49 : decode cX10_feed 49 = .ok (.getfield 105, 3) := by decide +kernel
theorem dX10_feed_52 : decode cX10_feed 52 = .ok (.ireturn, 1) := by decide +kernel
theorem dX10_letterAt_0 : decode cX10_letterAt 0 = .ok (.iload_n 1, 1) := by decide +kernel
theorem dX10_letterAt_1 : decode cX10_letterAt 1 = .ok (.aload_n 0, 1) := by decide +kernel
theorem dX10_letterAt_2 : decode cX10_letterAt 2 = .ok (.getfield 105, 3) := by decide +kernel
theorem dX10_letterAt_5 : decode cX10_letterAt 5 = .ok (.if_icmp .ge 12, 3) := by decide +kernel
theorem dX10_letterAt_8 : decode cX10_letterAt 8 = .ok (.aload_n 0, 1) := by decide +kernel
theorem dX10_letterAt_9 : decode cX10_letterAt 9 = .ok (.getfield 35, 3) := by decide +kernel
theorem dX10_letterAt_12 : decode cX10_letterAt 12 = .ok (.iload_n 1, 1) := by decide +kernel
theorem dX10_letterAt_13 : decode cX10_letterAt 13 = .ok (.iaload, 1) := by decide +kernel
theorem dX10_letterAt_14 : decode cX10_letterAt 14 = .ok (.goto 4, 3) := by decide +kernel
theorem dX10_letterAt_17 : decode cX10_letterAt 17 = .ok (.iconst (-1), 1) := by decide +kernel
theorem dX10_letterAt_18 : decode cX10_letterAt 18 = .ok (.ireturn, 1) := by decide +kernel
theorem dX10_here_0 : decode cX10_here 0 = .ok (.aload_n 0, 1) := by decide +kernel
theorem dX10_here_1 : decode cX10_here 1 = .ok (.aload_n 0, 1) := by decide +kernel
theorem dX10_here_2 : decode cX10_here 2 = .ok (.getfield 109, 3) := by decide +kernel
theorem dX10_here_5 : decode cX10_here 5 = .ok (.invokevirtual 112, 3) := by decide +kernel
theorem dX10_here_8 : decode cX10_here 8 = .ok (.bipush 32, 2) := by decide +kernel
theorem dX10_here_10 : decode cX10_here 10 = .ok (.if_icmp .ne 16, 3) := by decide +kernel
theorem dX10_here_13 : decode cX10_here 13 = .ok (.aload_n 0, 1) := by decide +kernel
theorem dX10_here_14 : decode cX10_here 14 = .ok (.dup, 1) := by decide +kernel
theorem dX10_here_15 : decode cX10_here 15 = .ok (.getfield 109, 3) := by decide +kernel
theorem dX10_here_18 : decode cX10_here 18 = .ok (.iconst 1, 1) := by decide +kernel
theorem dX10_here_19 : decode cX10_here 19 = .ok (.iadd, 1) := by decide +kernel
theorem dX10_here_20 : decode cX10_here 20 = .ok (.putfield 109, 3) := by decide +kernel
theorem dX10_here_23 : decode cX10_here 23 = .ok (.goto (-23), 3) := by decide +kernel
theorem dX10_here_26 : decode cX10_here 26 = .ok (.aload_n 0, 1) := by decide +kernel
theorem dX10_here_27 : decode cX10_here 27 = .ok (.aload_n 0, 1) := by decide +kernel
theorem dX10_here_28 : decode cX10_here 28 = .ok (.getfield 109, 3) := by decide +kernel
theorem dX10_here_31 : decode cX10_here 31 = .ok (.putfield 116, 3) := by decide +kernel
theorem dX10_here_34 : decode cX10_here 34 = .ok (.aload_n 0, 1) := by decide +kernel
theorem dX10_here_35 : decode cX10_here 35 = .ok (.aload_n 0, 1) := by decide +kernel
theorem dX10_here_36 : decode cX10_here 36 = .ok (.getfield 109, 3) := by decide +kernel
theorem dX10_here_39 : decode cX10_here 39 = .ok (.invokevirtual 112, 3) := by decide +kernel
theorem dX10_here_42 : decode cX10_here 42 = .ok (.ireturn, 1) := by decide +kernel
theorem dX10_fails_0 : decode cX10_fails 0 = .ok (.aload_n 0, 1) := by decide +kernel
theorem dX10_fails_1 : decode cX10_fails 1 = .ok (.iload_n 1, 1) := by decide +kernel
theorem dX10_fails_2 : decode cX10_fails 2 = .ok (.putfield 119, 3) := by decide +kernel
theorem dX10_fails_5 : decode cX10_fails 5 = .ok (.aload_n 0, 1) := by decide +kernel
theorem dX10_fails_6 : decode cX10_fails 6 = .ok (.iload_n 2, 1) := by decide +kernel
theorem dX10_fails_7 : decode cX10_fails 7 = .ok (.putfield 38, 3) := by decide +kernel
theorem dX10_fails_10 : decode cX10_fails 10 = .ok (.iconst 0, 1) := by decide +kernel
theorem dX10_fails_11 : decode cX10_fails 11 = .ok (.ireturn, 1) := by decide +kernel
theorem dX10_takes_0 : decode cX10_takes 0 = .ok (.aload_n 0, 1) := by decide +kernel
theorem dX10_takes_1 : decode cX10_takes 1 = .ok (.invokevirtual 122, 3) := by decide +kernel
theorem dX10_takes_4 : decode cX10_takes 4 = .ok (.iload_n 1, 1) := by decide +kernel
theorem dX10_takes_5 : decode cX10_takes 5 = .ok (.if_icmp .eq 13, 3) := by decide +kernel
theorem dX10_takes_8 : decode cX10_takes 8 = .ok (.aload_n 0, 1) := by decide +kernel
theorem dX10_takes_9 : decode cX10_takes 9 = .ok (.iconst 1, 1) := by decide +kernel
theorem dX10_takes_10 : decode cX10_takes 10 = .ok (.aload_n 0, 1) := by decide +kernel
theorem dX10_takes_11 : decode cX10_takes 11 = .ok (.getfield 116, 3) := by decide +kernel
theorem dX10_takes_14 : decode cX10_takes 14 = .ok (.invokevirtual 126, 3) := by decide +kernel
theorem dX10_takes_17 : decode cX10_takes 17 = .ok (.ireturn, 1) := by decide +kernel
theorem dX10_takes_18 : decode cX10_takes 18 = .ok (.aload_n 0, 1) := by decide +kernel
theorem dX10_takes_19 : decode cX10_takes 19 = .ok (.dup, 1) := by decide +kernel
theorem dX10_takes_20 : decode cX10_takes 20 = .ok (.getfield 109, 3) := by decide +kernel
theorem dX10_takes_23 : decode cX10_takes 23 = .ok (.iconst 1, 1) := by decide +kernel
theorem dX10_takes_24 : decode cX10_takes 24 = .ok (.iadd, 1) := by decide +kernel
theorem dX10_takes_25 : decode cX10_takes 25 = .ok (.putfield 109, 3) := by decide +kernel
theorem dX10_takes_28 : decode cX10_takes 28 = .ok (.iconst 1, 1) := by decide +kernel
theorem dX10_takes_29 : decode cX10_takes 29 = .ok (.ireturn, 1) := by decide +kernel
theorem dX10_takesNumber_0 : decode cX10_takesNumber 0 = .ok (.aload_n 0, 1) := by decide +kernel
theorem dX10_takesNumber_1 : decode cX10_takesNumber 1 = .ok (.invokevirtual 122, 3) := by decide +kernel
theorem dX10_takesNumber_4 : decode cX10_takesNumber 4 = .ok (.i2l, 1) := by decide +kernel
theorem dX10_takesNumber_5 : decode cX10_takesNumber 5 = .ok (.ldc2_w 130, 3) := by decide +kernel
theorem dX10_takesNumber_8 : decode cX10_takesNumber 8 = .ok (.ldc2_w 132, 3) := by decide +kernel
theorem dX10_takesNumber_11 : decode cX10_takesNumber 11 = .ok (.invokestatic 87, 3) := by decide +kernel
theorem dX10_takesNumber_14 : decode cX10_takesNumber 14 = .ok (.ifCond .ne 13, 3) := by decide +kernel
theorem dX10_takesNumber_17 : decode cX10_takesNumber 17 = .ok (.aload_n 0, 1) := by decide +kernel
theorem dX10_takesNumber_18 : decode cX10_takesNumber 18 = .ok (.iconst 1, 1) := by decide +kernel
theorem dX10_takesNumber_19 : decode cX10_takesNumber 19 = .ok (.aload_n 0, 1) := by decide +kernel
theorem dX10_takesNumber_20 : decode cX10_takesNumber 20 = .ok (.getfield 116, 3) := by decide +kernel
theorem dX10_takesNumber_23 : decode cX10_takesNumber 23 = .ok (.invokevirtual 126, 3) := by decide +kernel
theorem dX10_takesNumber_26 : decode cX10_takesNumber 26 = .ok (.ireturn, 1) := by decide +kernel
theorem dX10_takesNumber_27 : decode cX10_takesNumber 27 = .ok (.aload_n 0, 1) := by decide +kernel
theorem dX10_takesNumber_28 : decode cX10_takesNumber 28 = .ok (.iconst 0, 1) := by decide +kernel
theorem dX10_takesNumber_29 : decode cX10_takesNumber 29 = .ok (.putfield 134, 3) := by decide +kernel
theorem dX10_takesNumber_32 : decode cX10_takesNumber 32 = .ok (.aload_n 0, 1) := by decide +kernel
theorem dX10_takesNumber_33 : decode cX10_takesNumber 33 = .ok (.aload_n 0, 1) := by decide +kernel
theorem dX10_takesNumber_34 : decode cX10_takesNumber 34 = .ok (.getfield 109, 3) := by decide +kernel
theorem dX10_takesNumber_37 : decode cX10_takesNumber 37 = .ok (.invokevirtual 112, 3) := by decide +kernel
theorem dX10_takesNumber_40 : decode cX10_takesNumber 40 = .ok (.i2l, 1) := by decide +kernel
theorem dX10_takesNumber_41 : decode cX10_takesNumber 41 = .ok (.ldc2_w 130, 3) := by decide +kernel
theorem dX10_takesNumber_44 : decode cX10_takesNumber 44 = .ok (.ldc2_w 132, 3) := by decide +kernel
theorem dX10_takesNumber_47 : decode cX10_takesNumber 47 = .ok (.invokestatic 87, 3) := by decide +kernel
theorem dX10_takesNumber_50 : decode cX10_takesNumber 50 = .ok (.ifCond .eq 59, 3) := by decide +kernel
theorem dX10_takesNumber_53 : decode cX10_takesNumber 53 = .ok (.aload_n 0, 1) := by decide +kernel
theorem dX10_takesNumber_54 : decode cX10_takesNumber 54 = .ok (.aload_n 0, 1) := by decide +kernel
theorem dX10_takesNumber_55 : decode cX10_takesNumber 55 = .ok (.getfield 109, 3) := by decide +kernel
theorem dX10_takesNumber_58 : decode cX10_takesNumber 58 = .ok (.aload_n 0, 1) := by decide +kernel
theorem dX10_takesNumber_59 : decode cX10_takesNumber 59 = .ok (.getfield 116, 3) := by decide +kernel
theorem dX10_takesNumber_62 : decode cX10_takesNumber 62 = .ok (.isub, 1) := by decide +kernel
theorem dX10_takesNumber_63 : decode cX10_takesNumber 63 = .ok (.iconst 4, 1) := by decide +kernel
theorem dX10_takesNumber_64 : decode cX10_takesNumber 64 = .ok (.if_icmp .ge 25, 3) := by decide +kernel
theorem dX10_takesNumber_67 : decode cX10_takesNumber 67 = .ok (.bipush 10, 2) := by decide +kernel
theorem dX10_takesNumber_69 : decode cX10_takesNumber 69 = .ok (.aload_n 0, 1) := by decide +kernel
theorem dX10_takesNumber_70 : decode cX10_takesNumber 70 = .ok (.getfield 134, 3) := by decide +kernel
theorem dX10_takesNumber_73 : decode cX10_takesNumber 73 = .ok (.imul, 1) := by decide +kernel
theorem dX10_takesNumber_74 : decode cX10_takesNumber 74 = .ok (.aload_n 0, 1) := by decide +kernel
theorem dX10_takesNumber_75 : decode cX10_takesNumber 75 = .ok (.aload_n 0, 1) := by decide +kernel
theorem dX10_takesNumber_76 : decode cX10_takesNumber 76 = .ok (.getfield 109, 3) := by decide +kernel
theorem dX10_takesNumber_79 : decode cX10_takesNumber 79 = .ok (.invokevirtual 112, 3) := by decide +kernel
theorem dX10_takesNumber_82 : decode cX10_takesNumber 82 = .ok (.iadd, 1) := by decide +kernel
theorem dX10_takesNumber_83 : decode cX10_takesNumber 83 = .ok (.bipush 48, 2) := by decide +kernel
theorem dX10_takesNumber_85 : decode cX10_takesNumber 85 = .ok (.isub, 1) := by decide +kernel
theorem dX10_takesNumber_86 : decode cX10_takesNumber 86 = .ok (.goto 7, 3) := by decide +kernel
theorem dX10_takesNumber_89 : decode cX10_takesNumber 89 = .ok (.aload_n 0, 1) := by decide +kernel
theorem dX10_takesNumber_90 : decode cX10_takesNumber 90 = .ok (.getfield 134, 3) := by decide +kernel
theorem dX10_takesNumber_93 : decode cX10_takesNumber 93 = .ok (.putfield 134, 3) := by decide +kernel
theorem dX10_takesNumber_96 : decode cX10_takesNumber 96 = .ok (.aload_n 0, 1) := by decide +kernel
theorem dX10_takesNumber_97 : decode cX10_takesNumber 97 = .ok (.dup, 1) := by decide +kernel
theorem dX10_takesNumber_98 : decode cX10_takesNumber 98 = .ok (.getfield 109, 3) := by decide +kernel
theorem dX10_takesNumber_101 : decode cX10_takesNumber 101 = .ok (.iconst 1, 1) := by decide +kernel
theorem dX10_takesNumber_102 : decode cX10_takesNumber 102 = .ok (.iadd, 1) := by decide +kernel
theorem dX10_takesNumber_103 : decode cX10_takesNumber 103 = .ok (.putfield 109, 3) := by decide +kernel
theorem dX10_takesNumber_106 : decode cX10_takesNumber 106 = .ok (.goto (-74), 3) := by decide +kernel
theorem dX10_takesNumber_109 : decode cX10_takesNumber 109 = .ok (.aload_n 0, 1) := by decide +kernel
theorem dX10_takesNumber_110 : decode cX10_takesNumber 110 = .ok (.getfield 109, 3) := by decide +kernel
theorem dX10_takesNumber_113 : decode cX10_takesNumber 113 = .ok (.aload_n 0, 1) := by decide +kernel
theorem dX10_takesNumber_114 : decode cX10_takesNumber 114 = .ok (.getfield 116, 3) := by decide +kernel
theorem dX10_takesNumber_117 : decode cX10_takesNumber 117 = .ok (.isub, 1) := by decide +kernel
theorem dX10_takesNumber_118 : decode cX10_takesNumber 118 = .ok (.iconst 5, 1) := by decide +kernel
theorem dX10_takesNumber_119 : decode cX10_takesNumber 119 = .ok (.if_icmp .ge 18, 3) := by decide +kernel
theorem dX10_takesNumber_122 : decode cX10_takesNumber 122 = .ok (.aload_n 0, 1) := by decide +kernel
theorem dX10_takesNumber_123 : decode cX10_takesNumber 123 = .ok (.getfield 134, 3) := by decide +kernel
theorem dX10_takesNumber_126 : decode cX10_takesNumber 126 = .ok (.i2l, 1) := by decide +kernel
theorem dX10_takesNumber_127 : decode cX10_takesNumber 127 = .ok (.iload_n 1, 1) := by decide +kernel
theorem dX10_takesNumber_128 : decode cX10_takesNumber 128 = .ok (.i2l, 1) := by decide +kernel
theorem dX10_takesNumber_129 : decode cX10_takesNumber 129 = .ok (.iload_n 2, 1) := by decide +kernel
theorem dX10_takesNumber_130 : decode cX10_takesNumber 130 = .ok (.i2l, 1) := by decide +kernel
theorem dX10_takesNumber_131 : decode cX10_takesNumber 131 = .ok (.invokestatic 87, 3) := by decide +kernel
theorem dX10_takesNumber_134 : decode cX10_takesNumber 134 = .ok (.ifCond .ne 15, 3) := by decide +kernel
theorem dX10_takesNumber_137 : decode cX10_takesNumber 137 = .ok (.aload_n 0, 1) := by decide +kernel
theorem dX10_takesNumber_138 : decode cX10_takesNumber 138 = .ok (.iconst 2, 1) := by decide +kernel
theorem dX10_takesNumber_139 : decode cX10_takesNumber 139 = .ok (.aload_n 0, 1) := by decide +kernel
theorem dX10_takesNumber_140 : decode cX10_takesNumber 140 = .ok (.getfield 116, 3) := by decide +kernel
theorem dX10_takesNumber_143 : decode cX10_takesNumber 143 = .ok (.invokevirtual 126, 3) := by decide +kernel
theorem dX10_takesNumber_146 : decode cX10_takesNumber 146 = .ok (.ifCond .eq 7, 3) := by decide +kernel
theorem dX10_takesNumber_149 : decode cX10_takesNumber 149 = .ok (.iconst 1, 1) := by decide +kernel
theorem dX10_takesNumber_150 : decode cX10_takesNumber 150 = .ok (.goto 4, 3) := by decide +kernel
theorem dX10_takesNumber_153 : decode cX10_takesNumber 153 = .ok (.iconst 0, 1) := by decide +kernel
theorem dX10_takesNumber_154 : decode cX10_takesNumber 154 = .ok (.ireturn, 1) := by decide +kernel
theorem dX10_takesHouse_0 : decode cX10_takesHouse 0 = .ok (.aload_n 0, 1) := by decide +kernel
theorem dX10_takesHouse_1 : decode cX10_takesHouse 1 = .ok (.iconst 1, 1) := by decide +kernel
theorem dX10_takesHouse_2 : decode cX10_takesHouse 2 = .ok (.bipush 7, 2) := by decide +kernel
theorem dX10_takesHouse_4 : decode cX10_takesHouse 4 = .ok (.invokevirtual 137, 3) := by decide +kernel
theorem dX10_takesHouse_7 : decode cX10_takesHouse 7 = .ok (.ifCond .ne 5, 3) := by decide +kernel
theorem dX10_takesHouse_10 : decode cX10_takesHouse 10 = .ok (.iconst 0, 1) := by decide +kernel
theorem dX10_takesHouse_11 : decode cX10_takesHouse 11 = .ok (.ireturn, 1) := by decide +kernel
theorem dX10_takesHouse_12 : decode cX10_takesHouse 12 = .ok (.aload_n 0, 1) := by decide +kernel
theorem dX10_takesHouse_13 : decode cX10_takesHouse 13 = .ok (.aload_n 0, 1) := by decide +kernel
theorem dX10_takesHouse_14 : decode cX10_takesHouse 14 = .ok (.getfield 134, 3) := by decide +kernel
theorem dX10_takesHouse_17 : decode cX10_takesHouse 17 = .ok (.putfield 140, 3) := by decide +kernel
theorem dX10_takesHouse_20 : decode cX10_takesHouse 20 = .ok (.aload_n 0, 1) := by decide +kernel
theorem dX10_takesHouse_21 : decode cX10_takesHouse 21 = .ok (.iconst 0, 1) := by decide +kernel
theorem dX10_takesHouse_22 : decode cX10_takesHouse 22 = .ok (.sipush 1023, 3) := by decide +kernel
theorem dX10_takesHouse_25 : decode cX10_takesHouse 25 = .ok (.invokevirtual 137, 3) := by decide +kernel
theorem dX10_takesHouse_28 : decode cX10_takesHouse 28 = .ok (.ifCond .ne 5, 3) := by decide +kernel
theorem dX10_takesHouse_31 : decode cX10_takesHouse 31 = .ok (.iconst 0, 1) := by decide +kernel
theorem dX10_takesHouse_32 : decode cX10_takesHouse 32 = .ok (.ireturn, 1) := by decide +kernel
theorem dX10_takesHouse_33 : decode cX10_takesHouse 33 = .ok (.aload_n 0, 1) := by decide +kernel
theorem dX10_takesHouse_34 : decode cX10_takesHouse 34 = .ok (.aload_n 0, 1) := by decide +kernel
theorem dX10_takesHouse_35 : decode cX10_takesHouse 35 = .ok (.getfield 134, 3) := by decide +kernel
theorem dX10_takesHouse_38 : decode cX10_takesHouse 38 = .ok (.putfield 143, 3) := by decide +kernel
theorem dX10_takesHouse_41 : decode cX10_takesHouse 41 = .ok (.iconst 1, 1) := by decide +kernel
theorem dX10_takesHouse_42 : decode cX10_takesHouse 42 = .ok (.ireturn, 1) := by decide +kernel
theorem dX10_takesDoor_0 : decode cX10_takesDoor 0 = .ok (.aload_n 0, 1) := by decide +kernel
theorem dX10_takesDoor_1 : decode cX10_takesDoor 1 = .ok (.iconst 0, 1) := by decide +kernel
theorem dX10_takesDoor_2 : decode cX10_takesDoor 2 = .ok (.aload_n 0, 1) := by decide +kernel
theorem dX10_takesDoor_3 : decode cX10_takesDoor 3 = .ok (.getfield 140, 3) := by decide +kernel
theorem dX10_takesDoor_6 : decode cX10_takesDoor 6 = .ok (.iconst 1, 1) := by decide +kernel
theorem dX10_takesDoor_7 : decode cX10_takesDoor 7 = .ok (.isub, 1) := by decide +kernel
theorem dX10_takesDoor_8 : decode cX10_takesDoor 8 = .ok (.invokevirtual 137, 3) := by decide +kernel
theorem dX10_takesDoor_11 : decode cX10_takesDoor 11 = .ok (.ifCond .ne 5, 3) := by decide +kernel
theorem dX10_takesDoor_14 : decode cX10_takesDoor 14 = .ok (.iconst 0, 1) := by decide +kernel
theorem dX10_takesDoor_15 : decode cX10_takesDoor 15 = .ok (.ireturn, 1) := by decide +kernel
theorem dX10_takesDoor_16 : decode cX10_takesDoor 16 = .ok (.aload_n 0, 1) := by decide +kernel
theorem dX10_takesDoor_17 : decode cX10_takesDoor 17 = .ok (.getfield 134, 3) := by decide +kernel
theorem dX10_takesDoor_20 : decode cX10_takesDoor 20 = .ok (.istore_n 1, 1) := by decide +kernel
theorem dX10_takesDoor_21 : decode cX10_takesDoor 21 = .ok (.aload_n 0, 1) := by decide +kernel
theorem dX10_takesDoor_22 : decode cX10_takesDoor 22 = .ok (.iconst 0, 1) := by decide +kernel
theorem dX10_takesDoor_23 : decode cX10_takesDoor 23 = .ok (.aload_n 0, 1) := by decide +kernel
theorem dX10_takesDoor_24 : decode cX10_takesDoor 24 = .ok (.getfield 140, 3) := by decide +kernel
theorem dX10_takesDoor_27 : decode cX10_takesDoor 27 = .ok (.iconst 1, 1) := by decide +kernel
theorem dX10_takesDoor_28 : decode cX10_takesDoor 28 = .ok (.isub, 1) := by decide +kernel
theorem dX10_takesDoor_29 : decode cX10_takesDoor 29 = .ok (.invokevirtual 137, 3) := by decide +kernel
theorem dX10_takesDoor_32 : decode cX10_takesDoor 32 = .ok (.ifCond .ne 5, 3) := by decide +kernel
theorem dX10_takesDoor_35 : decode cX10_takesDoor 35 = .ok (.iconst 0, 1) := by decide +kernel
theorem dX10_takesDoor_36 : decode cX10_takesDoor 36 = .ok (.ireturn, 1) := by decide +kernel
theorem dX10_takesDoor_37 : decode cX10_takesDoor 37 = .ok (.aload_n 0, 1) := by decide +kernel
theorem dX10_takesDoor_38 : decode cX10_takesDoor 38 = .ok (.getfield 134, 3) := by decide +kernel
theorem dX10_takesDoor_41 : decode cX10_takesDoor 41 = .ok (.iload_n 1, 1) := by decide +kernel
theorem dX10_takesDoor_42 : decode cX10_takesDoor 42 = .ok (.if_icmp .ne 7, 3) := by decide +kernel
theorem dX10_takesDoor_45 : decode cX10_takesDoor 45 = .ok (.iconst 1, 1) := by decide +kernel
theorem dX10_takesDoor_46 : decode cX10_takesDoor 46 = .ok (.goto 4, 3) := by decide +kernel
theorem dX10_takesDoor_49 : decode cX10_takesDoor 49 = .ok (.iconst 0, 1) := by decide +kernel
theorem dX10_takesDoor_50 : decode cX10_takesDoor 50 = .ok (.istore_n 2, 1) := by decide +kernel
theorem dX10_takesDoor_51 : decode cX10_takesDoor 51 = .ok (.iconst 0, 1) := by decide +kernel
theorem dX10_takesDoor_52 : decode cX10_takesDoor 52 = .ok (.istore_n 3, 1) := by decide +kernel
theorem dX10_takesDoor_53 : decode cX10_takesDoor 53 = .ok (.iload_n 3, 1) := by decide +kernel
theorem dX10_takesDoor_54 : decode cX10_takesDoor 54 = .ok (.aload_n 0, 1) := by decide +kernel
theorem dX10_takesDoor_55 : decode cX10_takesDoor 55 = .ok (.getfield 146, 3) := by decide +kernel
theorem dX10_takesDoor_58 : decode cX10_takesDoor 58 = .ok (.if_icmp .ge 65, 3) := by decide +kernel
theorem dX10_takesDoor_61 : decode cX10_takesDoor 61 = .ok (.iload_n 2, 1) := by decide +kernel
theorem dX10_takesDoor_62 : decode cX10_takesDoor 62 = .ok (.ifCond .ne 49, 3) := by decide +kernel
theorem dX10_takesDoor_65 : decode cX10_takesDoor 65 = .ok (.aload_n 0, 1) := by decide +kernel
theorem dX10_takesDoor_66 : decode cX10_takesDoor 66 = .ok (.getfield 42, 3) := by decide +kernel
theorem dX10_takesDoor_69 : decode cX10_takesDoor 69 = .ok (.iload_n 3, 1) := by decide +kernel
theorem dX10_takesDoor_70 : decode cX10_takesDoor 70 = .ok (.iaload, 1) := by decide +kernel
theorem dX10_takesDoor_71 : decode cX10_takesDoor 71 = .ok (.iload_n 1, 1) := by decide +kernel
theorem dX10_takesDoor_72 : decode cX10_takesDoor 72 = .ok (.if_icmp .ne 16, 3) := by decide +kernel
theorem dX10_takesDoor_75 : decode cX10_takesDoor 75 = .ok (.aload_n 0, 1) := by decide +kernel
theorem dX10_takesDoor_76 : decode cX10_takesDoor 76 = .ok (.getfield 45, 3) := by decide +kernel
theorem dX10_takesDoor_79 : decode cX10_takesDoor 79 = .ok (.iload_n 3, 1) := by decide +kernel
theorem dX10_takesDoor_80 : decode cX10_takesDoor 80 = .ok (.iaload, 1) := by decide +kernel
theorem dX10_takesDoor_81 : decode cX10_takesDoor 81 = .ok (.aload_n 0, 1) := by decide +kernel
theorem dX10_takesDoor_82 : decode cX10_takesDoor 82 = .ok (.getfield 134, 3) := by decide +kernel
theorem dX10_takesDoor_85 : decode cX10_takesDoor 85 = .ok (.if_icmp .eq 26, 3) := by decide +kernel
theorem dX10_takesDoor_88 : decode cX10_takesDoor 88 = .ok (.aload_n 0, 1) := by decide +kernel
theorem dX10_takesDoor_89 : decode cX10_takesDoor 89 = .ok (.getfield 42, 3) := by decide +kernel
theorem dX10_takesDoor_92 : decode cX10_takesDoor 92 = .ok (.iload_n 3, 1) := by decide +kernel
theorem dX10_takesDoor_93 : decode cX10_takesDoor 93 = .ok (.iaload, 1) := by decide +kernel
theorem dX10_takesDoor_94 : decode cX10_takesDoor 94 = .ok (.aload_n 0, 1) := by decide +kernel
theorem dX10_takesDoor_95 : decode cX10_takesDoor 95 = .ok (.getfield 134, 3) := by decide +kernel
theorem dX10_takesDoor_98 : decode cX10_takesDoor 98 = .ok (.if_icmp .ne 17, 3) := by decide +kernel
theorem dX10_takesDoor_101 : decode cX10_takesDoor 101 = .ok (.aload_n 0, 1) := by decide +kernel
theorem dX10_takesDoor_102 : decode cX10_takesDoor 102 = .ok (.getfield 45, 3) := by decide +kernel
theorem dX10_takesDoor_105 : decode cX10_takesDoor 105 = .ok (.iload_n 3, 1) := by decide +kernel
theorem dX10_takesDoor_106 : decode cX10_takesDoor 106 = .ok (.iaload, 1) := by decide +kernel
theorem dX10_takesDoor_107 : decode cX10_takesDoor 107 = .ok (.iload_n 1, 1) := by decide +kernel
theorem dX10_takesDoor_108 : decode cX10_takesDoor 108 = .ok (.if_icmp .ne 7, 3) := by decide +kernel
theorem dX10_takesDoor_111 : decode cX10_takesDoor 111 = .ok (.iconst 1, 1) := by decide +kernel
theorem dX10_takesDoor_112 : decode cX10_takesDoor 112 = .ok (.goto 4, 3) := by decide +kernel
theorem dX10_takesDoor_115 : decode cX10_takesDoor 115 = .ok (.iconst 0, 1) := by decide +kernel
theorem dX10_takesDoor_116 : decode cX10_takesDoor 116 = .ok (.istore_n 2, 1) := by decide +kernel
theorem dX10_takesDoor_117 : decode cX10_takesDoor 117 = .ok (.iinc 3 1, 3) := by decide +kernel
theorem dX10_takesDoor_120 : decode cX10_takesDoor 120 = .ok (.goto (-67), 3) := by decide +kernel
theorem dX10_takesDoor_123 : decode cX10_takesDoor 123 = .ok (.iload_n 2, 1) := by decide +kernel
theorem dX10_takesDoor_124 : decode cX10_takesDoor 124 = .ok (.ifCond .eq 13, 3) := by decide +kernel
theorem dX10_takesDoor_127 : decode cX10_takesDoor 127 = .ok (.aload_n 0, 1) := by decide +kernel
theorem dX10_takesDoor_128 : decode cX10_takesDoor 128 = .ok (.iconst 4, 1) := by decide +kernel
theorem dX10_takesDoor_129 : decode cX10_takesDoor 129 = .ok (.aload_n 0, 1) := by decide +kernel
theorem dX10_takesDoor_130 : decode cX10_takesDoor 130 = .ok (.getfield 116, 3) := by decide +kernel
theorem dX10_takesDoor_133 : decode cX10_takesDoor 133 = .ok (.invokevirtual 126, 3) := by decide +kernel
theorem dX10_takesDoor_136 : decode cX10_takesDoor 136 = .ok (.ireturn, 1) := by decide +kernel
theorem dX10_takesDoor_137 : decode cX10_takesDoor 137 = .ok (.aload_n 0, 1) := by decide +kernel
theorem dX10_takesDoor_138 : decode cX10_takesDoor 138 = .ok (.getfield 42, 3) := by decide +kernel
theorem dX10_takesDoor_141 : decode cX10_takesDoor 141 = .ok (.aload_n 0, 1) := by decide +kernel
theorem dX10_takesDoor_142 : decode cX10_takesDoor 142 = .ok (.getfield 146, 3) := by decide +kernel
theorem dX10_takesDoor_145 : decode cX10_takesDoor 145 = .ok (.iload_n 1, 1) := by decide +kernel
theorem dX10_takesDoor_146 : decode cX10_takesDoor 146 = .ok (.iastore, 1) := by decide +kernel
theorem dX10_takesDoor_147 : decode cX10_takesDoor 147 = .ok (.aload_n 0, 1) := by decide +kernel
theorem dX10_takesDoor_148 : decode cX10_takesDoor 148 = .ok (.getfield 45, 3) := by decide +kernel
theorem dX10_takesDoor_151 : decode cX10_takesDoor 151 = .ok (.aload_n 0, 1) := by decide +kernel
theorem dX10_takesDoor_152 : decode cX10_takesDoor 152 = .ok (.getfield 146, 3) := by decide +kernel
theorem dX10_takesDoor_155 : decode cX10_takesDoor 155 = .ok (.aload_n 0, 1) := by decide +kernel
theorem dX10_takesDoor_156 : decode cX10_takesDoor 156 = .ok (.getfield 134, 3) := by decide +kernel
theorem dX10_takesDoor_159 : decode cX10_takesDoor 159 = .ok (.iastore, 1) := by decide +kernel
theorem dX10_takesDoor_160 : decode cX10_takesDoor 160 = .ok (.aload_n 0, 1) := by decide +kernel
theorem dX10_takesDoor_161 : decode cX10_takesDoor 161 = .ok (.dup, 1) := by decide +kernel
theorem dX10_takesDoor_162 : decode cX10_takesDoor 162 = .ok (.getfield 146, 3) := by decide +kernel
theorem dX10_takesDoor_165 : decode cX10_takesDoor 165 = .ok (.iconst 1, 1) := by decide +kernel
theorem dX10_takesDoor_166 : decode cX10_takesDoor 166 = .ok (.iadd, 1) := by decide +kernel
theorem dX10_takesDoor_167 : decode cX10_takesDoor 167 = .ok (.putfield 146, 3) := by decide +kernel
theorem dX10_takesDoor_170 : decode cX10_takesDoor 170 = .ok (.iconst 1, 1) := by decide +kernel
theorem dX10_takesDoor_171 : decode cX10_takesDoor 171 = .ok (.ireturn, 1) := by decide +kernel
theorem dX10_takesMirror_0 : decode cX10_takesMirror 0 = .ok (.aload_n 0, 1) := by decide +kernel
theorem dX10_takesMirror_1 : decode cX10_takesMirror 1 = .ok (.iconst 0, 1) := by decide +kernel
theorem dX10_takesMirror_2 : decode cX10_takesMirror 2 = .ok (.aload_n 0, 1) := by decide +kernel
theorem dX10_takesMirror_3 : decode cX10_takesMirror 3 = .ok (.getfield 140, 3) := by decide +kernel
theorem dX10_takesMirror_6 : decode cX10_takesMirror 6 = .ok (.iconst 1, 1) := by decide +kernel
theorem dX10_takesMirror_7 : decode cX10_takesMirror 7 = .ok (.isub, 1) := by decide +kernel
theorem dX10_takesMirror_8 : decode cX10_takesMirror 8 = .ok (.invokevirtual 137, 3) := by decide +kernel
theorem dX10_takesMirror_11 : decode cX10_takesMirror 11 = .ok (.ifCond .ne 5, 3) := by decide +kernel
theorem dX10_takesMirror_14 : decode cX10_takesMirror 14 = .ok (.iconst 0, 1) := by decide +kernel
theorem dX10_takesMirror_15 : decode cX10_takesMirror 15 = .ok (.ireturn, 1) := by decide +kernel
theorem dX10_takesMirror_16 : decode cX10_takesMirror 16 = .ok (.aload_n 0, 1) := by decide +kernel
theorem dX10_takesMirror_17 : decode cX10_takesMirror 17 = .ok (.getfield 48, 3) := by decide +kernel
theorem dX10_takesMirror_20 : decode cX10_takesMirror 20 = .ok (.aload_n 0, 1) := by decide +kernel
theorem dX10_takesMirror_21 : decode cX10_takesMirror 21 = .ok (.getfield 149, 3) := by decide +kernel
theorem dX10_takesMirror_24 : decode cX10_takesMirror 24 = .ok (.aload_n 0, 1) := by decide +kernel
theorem dX10_takesMirror_25 : decode cX10_takesMirror 25 = .ok (.getfield 134, 3) := by decide +kernel
theorem dX10_takesMirror_28 : decode cX10_takesMirror 28 = .ok (.iastore, 1) := by decide +kernel
theorem dX10_takesMirror_29 : decode cX10_takesMirror 29 = .ok (.aload_n 0, 1) := by decide +kernel
theorem dX10_takesMirror_30 : decode cX10_takesMirror 30 = .ok (.iconst 0, 1) := by decide +kernel
theorem dX10_takesMirror_31 : decode cX10_takesMirror 31 = .ok (.bipush 9, 2) := by decide +kernel
theorem dX10_takesMirror_33 : decode cX10_takesMirror 33 = .ok (.invokevirtual 137, 3) := by decide +kernel
theorem dX10_takesMirror_36 : decode cX10_takesMirror 36 = .ok (.ifCond .ne 5, 3) := by decide +kernel
theorem dX10_takesMirror_39 : decode cX10_takesMirror 39 = .ok (.iconst 0, 1) := by decide +kernel
theorem dX10_takesMirror_40 : decode cX10_takesMirror 40 = .ok (.ireturn, 1) := by decide +kernel
theorem dX10_takesMirror_41 : decode cX10_takesMirror 41 = .ok (.aload_n 0, 1) := by decide +kernel
theorem dX10_takesMirror_42 : decode cX10_takesMirror 42 = .ok (.getfield 51, 3) := by decide +kernel
theorem dX10_takesMirror_45 : decode cX10_takesMirror 45 = .ok (.aload_n 0, 1) := by decide +kernel
theorem dX10_takesMirror_46 : decode cX10_takesMirror 46 = .ok (.getfield 149, 3) := by decide +kernel
theorem dX10_takesMirror_49 : decode cX10_takesMirror 49 = .ok (.aload_n 0, 1) := by decide +kernel
theorem dX10_takesMirror_50 : decode cX10_takesMirror 50 = .ok (.getfield 134, 3) := by decide +kernel
theorem dX10_takesMirror_53 : decode cX10_takesMirror 53 = .ok (.iastore, 1) := by decide +kernel
theorem dX10_takesMirror_54 : decode cX10_takesMirror 54 = .ok (.aload_n 0, 1) := by decide +kernel
theorem dX10_takesMirror_55 : decode cX10_takesMirror 55 = .ok (.getfield 54, 3) := by decide +kernel
theorem dX10_takesMirror_58 : decode cX10_takesMirror 58 = .ok (.aload_n 0, 1) := by decide +kernel
theorem dX10_takesMirror_59 : decode cX10_takesMirror 59 = .ok (.getfield 149, 3) := by decide +kernel
theorem dX10_takesMirror_62 : decode cX10_takesMirror 62 = .ok (.iconst (-1), 1) := by decide +kernel
theorem dX10_takesMirror_63 : decode cX10_takesMirror 63 = .ok (.iastore, 1) := by decide +kernel
theorem dX10_takesMirror_64 : decode cX10_takesMirror 64 = .ok (.aload_n 0, 1) := by decide +kernel
theorem dX10_takesMirror_65 : decode cX10_takesMirror 65 = .ok (.dup, 1) := by decide +kernel
theorem dX10_takesMirror_66 : decode cX10_takesMirror 66 = .ok (.getfield 149, 3) := by decide +kernel
theorem dX10_takesMirror_69 : decode cX10_takesMirror 69 = .ok (.iconst 1, 1) := by decide +kernel
theorem dX10_takesMirror_70 : decode cX10_takesMirror 70 = .ok (.iadd, 1) := by decide +kernel
theorem dX10_takesMirror_71 : decode cX10_takesMirror 71 = .ok (.putfield 149, 3) := by decide +kernel
theorem dX10_takesMirror_74 : decode cX10_takesMirror 74 = .ok (.iconst 1, 1) := by decide +kernel
theorem dX10_takesMirror_75 : decode cX10_takesMirror 75 = .ok (.ireturn, 1) := by decide +kernel
theorem dX10_takesOpposite_0 : decode cX10_takesOpposite 0 = .ok (.aload_n 0, 1) := by decide +kernel
theorem dX10_takesOpposite_1 : decode cX10_takesOpposite 1 = .ok (.iconst 0, 1) := by decide +kernel
theorem dX10_takesOpposite_2 : decode cX10_takesOpposite 2 = .ok (.aload_n 0, 1) := by decide +kernel
theorem dX10_takesOpposite_3 : decode cX10_takesOpposite 3 = .ok (.getfield 149, 3) := by decide +kernel
theorem dX10_takesOpposite_6 : decode cX10_takesOpposite 6 = .ok (.iconst 1, 1) := by decide +kernel
theorem dX10_takesOpposite_7 : decode cX10_takesOpposite 7 = .ok (.isub, 1) := by decide +kernel
theorem dX10_takesOpposite_8 : decode cX10_takesOpposite 8 = .ok (.invokevirtual 137, 3) := by decide +kernel
theorem dX10_takesOpposite_11 : decode cX10_takesOpposite 11 = .ok (.ifCond .ne 5, 3) := by decide +kernel
theorem dX10_takesOpposite_14 : decode cX10_takesOpposite 14 = .ok (.iconst 0, 1) := by decide +kernel
theorem dX10_takesOpposite_15 : decode cX10_takesOpposite 15 = .ok (.ireturn, 1) := by decide +kernel
theorem dX10_takesOpposite_16 : decode cX10_takesOpposite 16 = .ok (.aload_n 0, 1) := by decide +kernel
theorem dX10_takesOpposite_17 : decode cX10_takesOpposite 17 = .ok (.getfield 134, 3) := by decide +kernel
theorem dX10_takesOpposite_20 : decode cX10_takesOpposite 20 = .ok (.istore_n 1, 1) := by decide +kernel
theorem dX10_takesOpposite_21 : decode cX10_takesOpposite 21 = .ok (.aload_n 0, 1) := by decide +kernel
theorem dX10_takesOpposite_22 : decode cX10_takesOpposite 22 = .ok (.getfield 54, 3) := by decide +kernel
theorem dX10_takesOpposite_25 : decode cX10_takesOpposite 25 = .ok (.iload_n 1, 1) := by decide +kernel
theorem dX10_takesOpposite_26 : decode cX10_takesOpposite 26 = .ok (.iaload, 1) := by decide +kernel
theorem dX10_takesOpposite_27 : decode cX10_takesOpposite 27 = .ok (.iconst (-1), 1) := by decide +kernel
theorem dX10_takesOpposite_28 : decode cX10_takesOpposite 28 = .ok (.if_icmp .eq 13, 3) := by decide +kernel
theorem dX10_takesOpposite_31 : decode cX10_takesOpposite 31 = .ok (.aload_n 0, 1) := by decide +kernel
theorem dX10_takesOpposite_32 : decode cX10_takesOpposite 32 = .ok (.iconst 4, 1) := by decide +kernel
theorem dX10_takesOpposite_33 : decode cX10_takesOpposite 33 = .ok (.aload_n 0, 1) := by decide +kernel
theorem dX10_takesOpposite_34 : decode cX10_takesOpposite 34 = .ok (.getfield 116, 3) := by decide +kernel
theorem dX10_takesOpposite_37 : decode cX10_takesOpposite 37 = .ok (.invokevirtual 126, 3) := by decide +kernel
theorem dX10_takesOpposite_40 : decode cX10_takesOpposite 40 = .ok (.ireturn, 1) := by decide +kernel
theorem dX10_takesOpposite_41 : decode cX10_takesOpposite 41 = .ok (.aload_n 0, 1) := by decide +kernel
theorem dX10_takesOpposite_42 : decode cX10_takesOpposite 42 = .ok (.iconst 0, 1) := by decide +kernel
theorem dX10_takesOpposite_43 : decode cX10_takesOpposite 43 = .ok (.aload_n 0, 1) := by decide +kernel
theorem dX10_takesOpposite_44 : decode cX10_takesOpposite 44 = .ok (.getfield 149, 3) := by decide +kernel
theorem dX10_takesOpposite_47 : decode cX10_takesOpposite 47 = .ok (.iconst 1, 1) := by decide +kernel
theorem dX10_takesOpposite_48 : decode cX10_takesOpposite 48 = .ok (.isub, 1) := by decide +kernel
theorem dX10_takesOpposite_49 : decode cX10_takesOpposite 49 = .ok (.invokevirtual 137, 3) := by decide +kernel
theorem dX10_takesOpposite_52 : decode cX10_takesOpposite 52 = .ok (.ifCond .ne 5, 3) := by decide +kernel
theorem dX10_takesOpposite_55 : decode cX10_takesOpposite 55 = .ok (.iconst 0, 1) := by decide +kernel
theorem dX10_takesOpposite_56 : decode cX10_takesOpposite 56 = .ok (.ireturn, 1) := by decide +kernel
theorem dX10_takesOpposite_57 : decode cX10_takesOpposite 57 = .ok (.aload_n 0, 1) := by decide +kernel
theorem dX10_takesOpposite_58 : decode cX10_takesOpposite 58 = .ok (.getfield 54, 3) := by decide +kernel
theorem dX10_takesOpposite_61 : decode cX10_takesOpposite 61 = .ok (.aload_n 0, 1) := by decide +kernel
theorem dX10_takesOpposite_62 : decode cX10_takesOpposite 62 = .ok (.getfield 134, 3) := by decide +kernel
theorem dX10_takesOpposite_65 : decode cX10_takesOpposite 65 = .ok (.iaload, 1) := by decide +kernel
theorem dX10_takesOpposite_66 : decode cX10_takesOpposite 66 = .ok (.iconst (-1), 1) := by decide +kernel
theorem dX10_takesOpposite_67 : decode cX10_takesOpposite 67 = .ok (.if_icmp .ne 29, 3) := by decide +kernel
theorem dX10_takesOpposite_70 : decode cX10_takesOpposite 70 = .ok (.aload_n 0, 1) := by decide +kernel
theorem dX10_takesOpposite_71 : decode cX10_takesOpposite 71 = .ok (.getfield 134, 3) := by decide +kernel
theorem dX10_takesOpposite_74 : decode cX10_takesOpposite 74 = .ok (.iload_n 1, 1) := by decide +kernel
theorem dX10_takesOpposite_75 : decode cX10_takesOpposite 75 = .ok (.if_icmp .eq 21, 3) := by decide +kernel
theorem dX10_takesOpposite_78 : decode cX10_takesOpposite 78 = .ok (.aload_n 0, 1) := by decide +kernel
theorem dX10_takesOpposite_79 : decode cX10_takesOpposite 79 = .ok (.getfield 48, 3) := by decide +kernel
theorem dX10_takesOpposite_82 : decode cX10_takesOpposite 82 = .ok (.aload_n 0, 1) := by decide +kernel
theorem dX10_takesOpposite_83 : decode cX10_takesOpposite 83 = .ok (.getfield 134, 3) := by decide +kernel
theorem dX10_takesOpposite_86 : decode cX10_takesOpposite 86 = .ok (.iaload, 1) := by decide +kernel
theorem dX10_takesOpposite_87 : decode cX10_takesOpposite 87 = .ok (.aload_n 0, 1) := by decide +kernel
theorem dX10_takesOpposite_88 : decode cX10_takesOpposite 88 = .ok (.getfield 48, 3) := by decide +kernel
theorem dX10_takesOpposite_91 : decode cX10_takesOpposite 91 = .ok (.iload_n 1, 1) := by decide +kernel
theorem dX10_takesOpposite_92 : decode cX10_takesOpposite 92 = .ok (.iaload, 1) := by decide +kernel
theorem dX10_takesOpposite_93 : decode cX10_takesOpposite 93 = .ok (.if_icmp .eq 13, 3) := by decide +kernel
theorem dX10_takesOpposite_96 : decode cX10_takesOpposite 96 = .ok (.aload_n 0, 1) := by decide +kernel
theorem dX10_takesOpposite_97 : decode cX10_takesOpposite 97 = .ok (.iconst 4, 1) := by decide +kernel
theorem dX10_takesOpposite_98 : decode cX10_takesOpposite 98 = .ok (.aload_n 0, 1) := by decide +kernel
theorem dX10_takesOpposite_99 : decode cX10_takesOpposite 99 = .ok (.getfield 116, 3) := by decide +kernel
theorem dX10_takesOpposite_102 : decode cX10_takesOpposite 102 = .ok (.invokevirtual 126, 3) := by decide +kernel
theorem dX10_takesOpposite_105 : decode cX10_takesOpposite 105 = .ok (.ireturn, 1) := by decide +kernel
theorem dX10_takesOpposite_106 : decode cX10_takesOpposite 106 = .ok (.aload_n 0, 1) := by decide +kernel
theorem dX10_takesOpposite_107 : decode cX10_takesOpposite 107 = .ok (.getfield 54, 3) := by decide +kernel
theorem dX10_takesOpposite_110 : decode cX10_takesOpposite 110 = .ok (.iload_n 1, 1) := by decide +kernel
theorem dX10_takesOpposite_111 : decode cX10_takesOpposite 111 = .ok (.aload_n 0, 1) := by decide +kernel
theorem dX10_takesOpposite_112 : decode cX10_takesOpposite 112 = .ok (.getfield 134, 3) := by decide +kernel
theorem dX10_takesOpposite_115 : decode cX10_takesOpposite 115 = .ok (.iastore, 1) := by decide +kernel
theorem dX10_takesOpposite_116 : decode cX10_takesOpposite 116 = .ok (.aload_n 0, 1) := by decide +kernel
theorem dX10_takesOpposite_117 : decode cX10_takesOpposite 117 = .ok (.getfield 54, 3) := by decide +kernel
theorem dX10_takesOpposite_120 : decode cX10_takesOpposite 120 = .ok (.aload_n 0, 1) := by decide +kernel
theorem dX10_takesOpposite_121 : decode cX10_takesOpposite 121 = .ok (.getfield 134, 3) := by decide +kernel
theorem dX10_takesOpposite_124 : decode cX10_takesOpposite 124 = .ok (.iload_n 1, 1) := by decide +kernel
theorem dX10_takesOpposite_125 : decode cX10_takesOpposite 125 = .ok (.iastore, 1) := by decide +kernel
theorem dX10_takesOpposite_126 : decode cX10_takesOpposite 126 = .ok (.iconst 1, 1) := by decide +kernel
theorem dX10_takesOpposite_127 : decode cX10_takesOpposite 127 = .ok (.ireturn, 1) := by decide +kernel
theorem dX10_takesBreaths_0 : decode cX10_takesBreaths 0 = .ok (.aload_n 0, 1) := by decide +kernel
theorem dX10_takesBreaths_1 : decode cX10_takesBreaths 1 = .ok (.iconst 0, 1) := by decide +kernel
theorem dX10_takesBreaths_2 : decode cX10_takesBreaths 2 = .ok (.bipush 9, 2) := by decide +kernel
theorem dX10_takesBreaths_4 : decode cX10_takesBreaths 4 = .ok (.invokevirtual 137, 3) := by decide +kernel
theorem dX10_takesBreaths_7 : decode cX10_takesBreaths 7 = .ok (.ifCond .ne 5, 3) := by decide +kernel
theorem dX10_takesBreaths_10 : decode cX10_takesBreaths 10 = .ok (.iconst 0, 1) := by decide +kernel
theorem dX10_takesBreaths_11 : decode cX10_takesBreaths 11 = .ok (.ireturn, 1) := by decide +kernel
theorem dX10_takesBreaths_12 : decode cX10_takesBreaths 12 = .ok (.aload_n 0, 1) := by decide +kernel
theorem dX10_takesBreaths_13 : decode cX10_takesBreaths 13 = .ok (.getfield 134, 3) := by decide +kernel
theorem dX10_takesBreaths_16 : decode cX10_takesBreaths 16 = .ok (.istore_n 1, 1) := by decide +kernel
theorem dX10_takesBreaths_17 : decode cX10_takesBreaths 17 = .ok (.aload_n 0, 1) := by decide +kernel
theorem dX10_takesBreaths_18 : decode cX10_takesBreaths 18 = .ok (.getfield 57, 3) := by decide +kernel
theorem dX10_takesBreaths_21 : decode cX10_takesBreaths 21 = .ok (.iload_n 1, 1) := by decide +kernel
theorem dX10_takesBreaths_22 : decode cX10_takesBreaths 22 = .ok (.iaload, 1) := by decide +kernel
theorem dX10_takesBreaths_23 : decode cX10_takesBreaths 23 = .ok (.ifCond .eq 13, 3) := by decide +kernel
theorem dX10_takesBreaths_26 : decode cX10_takesBreaths 26 = .ok (.aload_n 0, 1) := by decide +kernel
theorem dX10_takesBreaths_27 : decode cX10_takesBreaths 27 = .ok (.iconst 4, 1) := by decide +kernel
theorem dX10_takesBreaths_28 : decode cX10_takesBreaths 28 = .ok (.aload_n 0, 1) := by decide +kernel
theorem dX10_takesBreaths_29 : decode cX10_takesBreaths 29 = .ok (.getfield 116, 3) := by decide +kernel
theorem dX10_takesBreaths_32 : decode cX10_takesBreaths 32 = .ok (.invokevirtual 126, 3) := by decide +kernel
theorem dX10_takesBreaths_35 : decode cX10_takesBreaths 35 = .ok (.ireturn, 1) := by decide +kernel
theorem dX10_takesBreaths_36 : decode cX10_takesBreaths 36 = .ok (.aload_n 0, 1) := by decide +kernel
theorem dX10_takesBreaths_37 : decode cX10_takesBreaths 37 = .ok (.iconst 1, 1) := by decide +kernel
theorem dX10_takesBreaths_38 : decode cX10_takesBreaths 38 = .ok (.bipush 9, 2) := by decide +kernel
theorem dX10_takesBreaths_40 : decode cX10_takesBreaths 40 = .ok (.invokevirtual 137, 3) := by decide +kernel
theorem dX10_takesBreaths_43 : decode cX10_takesBreaths 43 = .ok (.ifCond .ne 5, 3) := by decide +kernel
theorem dX10_takesBreaths_46 : decode cX10_takesBreaths 46 = .ok (.iconst 0, 1) := by decide +kernel
theorem dX10_takesBreaths_47 : decode cX10_takesBreaths 47 = .ok (.ireturn, 1) := by decide +kernel
theorem dX10_takesBreaths_48 : decode cX10_takesBreaths 48 = .ok (.aload_n 0, 1) := by decide +kernel
theorem dX10_takesBreaths_49 : decode cX10_takesBreaths 49 = .ok (.getfield 57, 3) := by decide +kernel
theorem dX10_takesBreaths_52 : decode cX10_takesBreaths 52 = .ok (.iload_n 1, 1) := by decide +kernel
theorem dX10_takesBreaths_53 : decode cX10_takesBreaths 53 = .ok (.aload_n 0, 1) := by decide +kernel
theorem dX10_takesBreaths_54 : decode cX10_takesBreaths 54 = .ok (.getfield 134, 3) := by decide +kernel
theorem dX10_takesBreaths_57 : decode cX10_takesBreaths 57 = .ok (.iastore, 1) := by decide +kernel
theorem dX10_takesBreaths_58 : decode cX10_takesBreaths 58 = .ok (.iconst 1, 1) := by decide +kernel
theorem dX10_takesBreaths_59 : decode cX10_takesBreaths 59 = .ok (.ireturn, 1) := by decide +kernel
theorem dX10_takesPerson_0 : decode cX10_takesPerson 0 = .ok (.aload_n 0, 1) := by decide +kernel
theorem dX10_takesPerson_1 : decode cX10_takesPerson 1 = .ok (.iconst 0, 1) := by decide +kernel
theorem dX10_takesPerson_2 : decode cX10_takesPerson 2 = .ok (.aload_n 0, 1) := by decide +kernel
theorem dX10_takesPerson_3 : decode cX10_takesPerson 3 = .ok (.getfield 140, 3) := by decide +kernel
theorem dX10_takesPerson_6 : decode cX10_takesPerson 6 = .ok (.iconst 1, 1) := by decide +kernel
theorem dX10_takesPerson_7 : decode cX10_takesPerson 7 = .ok (.isub, 1) := by decide +kernel
theorem dX10_takesPerson_8 : decode cX10_takesPerson 8 = .ok (.invokevirtual 137, 3) := by decide +kernel
theorem dX10_takesPerson_11 : decode cX10_takesPerson 11 = .ok (.ifCond .ne 5, 3) := by decide +kernel
theorem dX10_takesPerson_14 : decode cX10_takesPerson 14 = .ok (.iconst 0, 1) := by decide +kernel
theorem dX10_takesPerson_15 : decode cX10_takesPerson 15 = .ok (.ireturn, 1) := by decide +kernel
theorem dX10_takesPerson_16 : decode cX10_takesPerson 16 = .ok (.aload_n 0, 1) := by decide +kernel
theorem dX10_takesPerson_17 : decode cX10_takesPerson 17 = .ok (.getfield 60, 3) := by decide +kernel
theorem dX10_takesPerson_20 : decode cX10_takesPerson 20 = .ok (.aload_n 0, 1) := by decide +kernel
theorem dX10_takesPerson_21 : decode cX10_takesPerson 21 = .ok (.getfield 152, 3) := by decide +kernel
theorem dX10_takesPerson_24 : decode cX10_takesPerson 24 = .ok (.aload_n 0, 1) := by decide +kernel
theorem dX10_takesPerson_25 : decode cX10_takesPerson 25 = .ok (.getfield 134, 3) := by decide +kernel
theorem dX10_takesPerson_28 : decode cX10_takesPerson 28 = .ok (.iastore, 1) := by decide +kernel
theorem dX10_takesPerson_29 : decode cX10_takesPerson 29 = .ok (.aload_n 0, 1) := by decide +kernel
theorem dX10_takesPerson_30 : decode cX10_takesPerson 30 = .ok (.dup, 1) := by decide +kernel
theorem dX10_takesPerson_31 : decode cX10_takesPerson 31 = .ok (.getfield 152, 3) := by decide +kernel
theorem dX10_takesPerson_34 : decode cX10_takesPerson 34 = .ok (.iconst 1, 1) := by decide +kernel
theorem dX10_takesPerson_35 : decode cX10_takesPerson 35 = .ok (.iadd, 1) := by decide +kernel
theorem dX10_takesPerson_36 : decode cX10_takesPerson 36 = .ok (.putfield 152, 3) := by decide +kernel
theorem dX10_takesPerson_39 : decode cX10_takesPerson 39 = .ok (.iconst 1, 1) := by decide +kernel
theorem dX10_takesPerson_40 : decode cX10_takesPerson 40 = .ok (.ireturn, 1) := by decide +kernel
theorem dX10_takesWords_0 : decode cX10_takesWords 0 = .ok (.iload_n 1, 1) := by decide +kernel
theorem dX10_takesWords_1 : decode cX10_takesWords 1 = .ok (.tableswitch 96 98 111 #[91, 96, 76, 96, 96, 96, 71, 96, 96, 96, 96, 81, 96, 86], 71) := by decide +kernel
theorem dX10_takesWords_72 : decode cX10_takesWords 72 = .ok (.aload_n 0, 1) := by decide +kernel
theorem dX10_takesWords_73 : decode cX10_takesWords 73 = .ok (.invokevirtual 155, 3) := by decide +kernel
theorem dX10_takesWords_76 : decode cX10_takesWords 76 = .ok (.ireturn, 1) := by decide +kernel
theorem dX10_takesWords_77 : decode cX10_takesWords 77 = .ok (.aload_n 0, 1) := by decide +kernel
theorem dX10_takesWords_78 : decode cX10_takesWords 78 = .ok (.invokevirtual 159, 3) := by decide +kernel
theorem dX10_takesWords_81 : decode cX10_takesWords 81 = .ok (.ireturn, 1) := by decide +kernel
theorem dX10_takesWords_82 : decode cX10_takesWords 82 = .ok (.aload_n 0, 1) := by decide +kernel
theorem dX10_takesWords_83 : decode cX10_takesWords 83 = .ok (.invokevirtual 162, 3) := by decide +kernel
theorem dX10_takesWords_86 : decode cX10_takesWords 86 = .ok (.ireturn, 1) := by decide +kernel
theorem dX10_takesWords_87 : decode cX10_takesWords 87 = .ok (.aload_n 0, 1) := by decide +kernel
theorem dX10_takesWords_88 : decode cX10_takesWords 88 = .ok (.invokevirtual 165, 3) := by decide +kernel
theorem dX10_takesWords_91 : decode cX10_takesWords 91 = .ok (.ireturn, 1) := by decide +kernel
theorem dX10_takesWords_92 : decode cX10_takesWords 92 = .ok (.aload_n 0, 1) := by decide +kernel
theorem dX10_takesWords_93 : decode cX10_takesWords 93 = .ok (.invokevirtual 168, 3) := by decide +kernel
theorem dX10_takesWords_96 : decode cX10_takesWords 96 = .ok (.ireturn, 1) := by decide +kernel
theorem dX10_takesWords_97 : decode cX10_takesWords 97 = .ok (.aload_n 0, 1) := by decide +kernel
theorem dX10_takesWords_98 : decode cX10_takesWords 98 = .ok (.invokevirtual 171, 3) := by decide +kernel
theorem dX10_takesWords_101 : decode cX10_takesWords 101 = .ok (.ireturn, 1) := by decide +kernel
theorem dX10_takesClause_0 : decode cX10_takesClause 0 = .ok (.aload_n 0, 1) := by decide +kernel
theorem dX10_takesClause_1 : decode cX10_takesClause 1 = .ok (.invokevirtual 122, 3) := by decide +kernel
theorem dX10_takesClause_4 : decode cX10_takesClause 4 = .ok (.istore_n 1, 1) := by decide +kernel
theorem dX10_takesClause_5 : decode cX10_takesClause 5 = .ok (.iload_n 1, 1) := by decide +kernel
theorem dX10_takesClause_6 : decode cX10_takesClause 6 = .ok (.bipush 104, 2) := by decide +kernel
theorem dX10_takesClause_8 : decode cX10_takesClause 8 = .ok (.if_icmp .eq 40, 3) := by decide +kernel
theorem dX10_takesClause_11 : decode cX10_takesClause 11 = .ok (.aload_n 0, 1) := by decide +kernel
theorem dX10_takesClause_12 : decode cX10_takesClause 12 = .ok (.getfield 140, 3) := by decide +kernel
theorem dX10_takesClause_15 : decode cX10_takesClause 15 = .ok (.ifCond .le 37, 3) := by decide +kernel
theorem dX10_takesClause_18 : decode cX10_takesClause 18 = .ok (.iload_n 1, 1) := by decide +kernel
theorem dX10_takesClause_19 : decode cX10_takesClause 19 = .ok (.bipush 100, 2) := by decide +kernel
theorem dX10_takesClause_21 : decode cX10_takesClause 21 = .ok (.if_icmp .eq 27, 3) := by decide +kernel
theorem dX10_takesClause_24 : decode cX10_takesClause 24 = .ok (.iload_n 1, 1) := by decide +kernel
theorem dX10_takesClause_25 : decode cX10_takesClause 25 = .ok (.bipush 109, 2) := by decide +kernel
theorem dX10_takesClause_27 : decode cX10_takesClause 27 = .ok (.if_icmp .eq 21, 3) := by decide +kernel
theorem dX10_takesClause_30 : decode cX10_takesClause 30 = .ok (.iload_n 1, 1) := by decide +kernel
theorem dX10_takesClause_31 : decode cX10_takesClause 31 = .ok (.bipush 111, 2) := by decide +kernel
theorem dX10_takesClause_33 : decode cX10_takesClause 33 = .ok (.if_icmp .eq 15, 3) := by decide +kernel
theorem dX10_takesClause_36 : decode cX10_takesClause 36 = .ok (.iload_n 1, 1) := by decide +kernel
theorem dX10_takesClause_37 : decode cX10_takesClause 37 = .ok (.bipush 98, 2) := by decide +kernel
theorem dX10_takesClause_39 : decode cX10_takesClause 39 = .ok (.if_icmp .eq 9, 3) := by decide +kernel
theorem dX10_takesClause_42 : decode cX10_takesClause 42 = .ok (.iload_n 1, 1) := by decide +kernel
theorem dX10_takesClause_43 : decode cX10_takesClause 43 = .ok (.bipush 112, 2) := by decide +kernel
theorem dX10_takesClause_45 : decode cX10_takesClause 45 = .ok (.if_icmp .ne 7, 3) := by decide +kernel
theorem dX10_takesClause_48 : decode cX10_takesClause 48 = .ok (.iconst 1, 1) := by decide +kernel
theorem dX10_takesClause_49 : decode cX10_takesClause 49 = .ok (.goto 4, 3) := by decide +kernel
theorem dX10_takesClause_52 : decode cX10_takesClause 52 = .ok (.iconst 0, 1) := by decide +kernel
theorem dX10_takesClause_53 : decode cX10_takesClause 53 = .ok (.istore_n 2, 1) := by decide +kernel
theorem dX10_takesClause_54 : decode cX10_takesClause 54 = .ok (.iload_n 2, 1) := by decide +kernel
theorem dX10_takesClause_55 : decode cX10_takesClause 55 = .ok (.ifCond .ne 13, 3) := by decide +kernel
theorem dX10_takesClause_58 : decode cX10_takesClause 58 = .ok (.aload_n 0, 1) := by decide +kernel
theorem dX10_takesClause_59 : decode cX10_takesClause 59 = .ok (.iconst 1, 1) := by decide +kernel
theorem dX10_takesClause_60 : decode cX10_takesClause 60 = .ok (.aload_n 0, 1) := by decide +kernel
theorem dX10_takesClause_61 : decode cX10_takesClause 61 = .ok (.getfield 116, 3) := by decide +kernel
theorem dX10_takesClause_64 : decode cX10_takesClause 64 = .ok (.invokevirtual 126, 3) := by decide +kernel
theorem dX10_takesClause_67 : decode cX10_takesClause 67 = .ok (.ireturn, 1) := by decide +kernel
theorem dX10_takesClause_68 : decode cX10_takesClause 68 = .ok (.iload_n 1, 1) := by decide +kernel
theorem dX10_takesClause_69 : decode cX10_takesClause 69 = .ok (.bipush 104, 2) := by decide +kernel
theorem dX10_takesClause_71 : decode cX10_takesClause 71 = .ok (.if_icmp .ne 18, 3) := by decide +kernel
theorem dX10_takesClause_74 : decode cX10_takesClause 74 = .ok (.aload_n 0, 1) := by decide +kernel
theorem dX10_takesClause_75 : decode cX10_takesClause 75 = .ok (.getfield 140, 3) := by decide +kernel
theorem dX10_takesClause_78 : decode cX10_takesClause 78 = .ok (.ifCond .le 7, 3) := by decide +kernel
theorem dX10_takesClause_81 : decode cX10_takesClause 81 = .ok (.iconst 1, 1) := by decide +kernel
theorem dX10_takesClause_82 : decode cX10_takesClause 82 = .ok (.goto 72, 3) := by decide +kernel
theorem dX10_takesClause_85 : decode cX10_takesClause 85 = .ok (.iconst 0, 1) := by decide +kernel
theorem dX10_takesClause_86 : decode cX10_takesClause 86 = .ok (.goto 68, 3) := by decide +kernel
theorem dX10_takesClause_89 : decode cX10_takesClause 89 = .ok (.iload_n 1, 1) := by decide +kernel
theorem dX10_takesClause_90 : decode cX10_takesClause 90 = .ok (.bipush 100, 2) := by decide +kernel
theorem dX10_takesClause_92 : decode cX10_takesClause 92 = .ok (.if_icmp .ne 20, 3) := by decide +kernel
theorem dX10_takesClause_95 : decode cX10_takesClause 95 = .ok (.aload_n 0, 1) := by decide +kernel
theorem dX10_takesClause_96 : decode cX10_takesClause 96 = .ok (.getfield 146, 3) := by decide +kernel
theorem dX10_takesClause_99 : decode cX10_takesClause 99 = .ok (.bipush 8, 2) := by decide +kernel
theorem dX10_takesClause_101 : decode cX10_takesClause 101 = .ok (.if_icmp .ne 7, 3) := by decide +kernel
theorem dX10_takesClause_104 : decode cX10_takesClause 104 = .ok (.iconst 1, 1) := by decide +kernel
theorem dX10_takesClause_105 : decode cX10_takesClause 105 = .ok (.goto 49, 3) := by decide +kernel
theorem dX10_takesClause_108 : decode cX10_takesClause 108 = .ok (.iconst 0, 1) := by decide +kernel
theorem dX10_takesClause_109 : decode cX10_takesClause 109 = .ok (.goto 45, 3) := by decide +kernel
theorem dX10_takesClause_112 : decode cX10_takesClause 112 = .ok (.iload_n 1, 1) := by decide +kernel
theorem dX10_takesClause_113 : decode cX10_takesClause 113 = .ok (.bipush 109, 2) := by decide +kernel
theorem dX10_takesClause_115 : decode cX10_takesClause 115 = .ok (.if_icmp .ne 20, 3) := by decide +kernel
theorem dX10_takesClause_118 : decode cX10_takesClause 118 = .ok (.aload_n 0, 1) := by decide +kernel
theorem dX10_takesClause_119 : decode cX10_takesClause 119 = .ok (.getfield 149, 3) := by decide +kernel
theorem dX10_takesClause_122 : decode cX10_takesClause 122 = .ok (.bipush 7, 2) := by decide +kernel
theorem dX10_takesClause_124 : decode cX10_takesClause 124 = .ok (.if_icmp .ne 7, 3) := by decide +kernel
theorem dX10_takesClause_127 : decode cX10_takesClause 127 = .ok (.iconst 1, 1) := by decide +kernel
theorem dX10_takesClause_128 : decode cX10_takesClause 128 = .ok (.goto 26, 3) := by decide +kernel
theorem dX10_takesClause_131 : decode cX10_takesClause 131 = .ok (.iconst 0, 1) := by decide +kernel
theorem dX10_takesClause_132 : decode cX10_takesClause 132 = .ok (.goto 22, 3) := by decide +kernel
theorem dX10_takesClause_135 : decode cX10_takesClause 135 = .ok (.iload_n 1, 1) := by decide +kernel
theorem dX10_takesClause_136 : decode cX10_takesClause 136 = .ok (.bipush 112, 2) := by decide +kernel
theorem dX10_takesClause_138 : decode cX10_takesClause 138 = .ok (.if_icmp .ne 15, 3) := by decide +kernel
theorem dX10_takesClause_141 : decode cX10_takesClause 141 = .ok (.aload_n 0, 1) := by decide +kernel
theorem dX10_takesClause_142 : decode cX10_takesClause 142 = .ok (.getfield 152, 3) := by decide +kernel
theorem dX10_takesClause_145 : decode cX10_takesClause 145 = .ok (.iconst 5, 1) := by decide +kernel
theorem dX10_takesClause_146 : decode cX10_takesClause 146 = .ok (.if_icmp .ne 7, 3) := by decide +kernel
theorem dX10_takesClause_149 : decode cX10_takesClause 149 = .ok (.iconst 1, 1) := by decide +kernel
theorem dX10_takesClause_150 : decode cX10_takesClause 150 = .ok (.goto 4, 3) := by decide +kernel
theorem dX10_takesClause_153 : decode cX10_takesClause 153 = .ok (.iconst 0, 1) := by decide +kernel
theorem dX10_takesClause_154 : decode cX10_takesClause 154 = .ok (.istore_n 3, 1) := by decide +kernel
theorem dX10_takesClause_155 : decode cX10_takesClause 155 = .ok (.iload_n 3, 1) := by decide +kernel
theorem dX10_takesClause_156 : decode cX10_takesClause 156 = .ok (.ifCond .eq 13, 3) := by decide +kernel
theorem dX10_takesClause_159 : decode cX10_takesClause 159 = .ok (.aload_n 0, 1) := by decide +kernel
theorem dX10_takesClause_160 : decode cX10_takesClause 160 = .ok (.iconst 3, 1) := by decide +kernel
theorem dX10_takesClause_161 : decode cX10_takesClause 161 = .ok (.aload_n 0, 1) := by decide +kernel
theorem dX10_takesClause_162 : decode cX10_takesClause 162 = .ok (.getfield 116, 3) := by decide +kernel
theorem dX10_takesClause_165 : decode cX10_takesClause 165 = .ok (.invokevirtual 126, 3) := by decide +kernel
theorem dX10_takesClause_168 : decode cX10_takesClause 168 = .ok (.ireturn, 1) := by decide +kernel
theorem dX10_takesClause_169 : decode cX10_takesClause 169 = .ok (.aload_n 0, 1) := by decide +kernel
theorem dX10_takesClause_170 : decode cX10_takesClause 170 = .ok (.dup, 1) := by decide +kernel
theorem dX10_takesClause_171 : decode cX10_takesClause 171 = .ok (.getfield 109, 3) := by decide +kernel
theorem dX10_takesClause_174 : decode cX10_takesClause 174 = .ok (.iconst 1, 1) := by decide +kernel
theorem dX10_takesClause_175 : decode cX10_takesClause 175 = .ok (.iadd, 1) := by decide +kernel
theorem dX10_takesClause_176 : decode cX10_takesClause 176 = .ok (.putfield 109, 3) := by decide +kernel
theorem dX10_takesClause_179 : decode cX10_takesClause 179 = .ok (.aload_n 0, 1) := by decide +kernel
theorem dX10_takesClause_180 : decode cX10_takesClause 180 = .ok (.iload_n 1, 1) := by decide +kernel
theorem dX10_takesClause_181 : decode cX10_takesClause 181 = .ok (.invokevirtual 174, 3) := by decide +kernel
theorem dX10_takesClause_184 : decode cX10_takesClause 184 = .ok (.ifCond .eq 16, 3) := by decide +kernel
theorem dX10_takesClause_187 : decode cX10_takesClause 187 = .ok (.aload_n 0, 1) := by decide +kernel
theorem dX10_takesClause_188 : decode cX10_takesClause 188 = .ok (.bipush 59, 2) := by decide +kernel
theorem dX10_takesClause_190 : decode cX10_takesClause 190 = .ok (.invokevirtual 178, 3) := by decide +kernel
theorem dX10_takesClause_193 : decode cX10_takesClause 193 = .ok (.ifCond .eq 7, 3) := by decide +kernel
theorem dX10_takesClause_196 : decode cX10_takesClause 196 = .ok (.iconst 1, 1) := by decide +kernel
theorem dX10_takesClause_197 : decode cX10_takesClause 197 = .ok (.goto 4, 3) := by decide +kernel
theorem dX10_takesClause_200 : decode cX10_takesClause 200 = .ok (.iconst 0, 1) := by decide +kernel
theorem dX10_takesClause_201 : decode cX10_takesClause 201 = .ok (.ireturn, 1) := by decide +kernel
theorem dX10_house_0 : decode cX10_house 0 = .ok (.aload_n 0, 1) := by decide +kernel
theorem dX10_house_1 : decode cX10_house 1 = .ok (.iconst 0, 1) := by decide +kernel
theorem dX10_house_2 : decode cX10_house 2 = .ok (.putfield 109, 3) := by decide +kernel
theorem dX10_house_5 : decode cX10_house 5 = .ok (.aload_n 0, 1) := by decide +kernel
theorem dX10_house_6 : decode cX10_house 6 = .ok (.iconst 0, 1) := by decide +kernel
theorem dX10_house_7 : decode cX10_house 7 = .ok (.putfield 119, 3) := by decide +kernel
theorem dX10_house_10 : decode cX10_house 10 = .ok (.aload_n 0, 1) := by decide +kernel
theorem dX10_house_11 : decode cX10_house 11 = .ok (.iconst (-1), 1) := by decide +kernel
theorem dX10_house_12 : decode cX10_house 12 = .ok (.putfield 38, 3) := by decide +kernel
theorem dX10_house_15 : decode cX10_house 15 = .ok (.aload_n 0, 1) := by decide +kernel
theorem dX10_house_16 : decode cX10_house 16 = .ok (.iconst 0, 1) := by decide +kernel
theorem dX10_house_17 : decode cX10_house 17 = .ok (.putfield 140, 3) := by decide +kernel
theorem dX10_house_20 : decode cX10_house 20 = .ok (.aload_n 0, 1) := by decide +kernel
theorem dX10_house_21 : decode cX10_house 21 = .ok (.iconst 0, 1) := by decide +kernel
theorem dX10_house_22 : decode cX10_house 22 = .ok (.putfield 143, 3) := by decide +kernel
theorem dX10_house_25 : decode cX10_house 25 = .ok (.aload_n 0, 1) := by decide +kernel
theorem dX10_house_26 : decode cX10_house 26 = .ok (.iconst 0, 1) := by decide +kernel
theorem dX10_house_27 : decode cX10_house 27 = .ok (.putfield 146, 3) := by decide +kernel
theorem dX10_house_30 : decode cX10_house 30 = .ok (.aload_n 0, 1) := by decide +kernel
theorem dX10_house_31 : decode cX10_house 31 = .ok (.iconst 0, 1) := by decide +kernel
theorem dX10_house_32 : decode cX10_house 32 = .ok (.putfield 149, 3) := by decide +kernel
theorem dX10_house_35 : decode cX10_house 35 = .ok (.aload_n 0, 1) := by decide +kernel
theorem dX10_house_36 : decode cX10_house 36 = .ok (.iconst 0, 1) := by decide +kernel
theorem dX10_house_37 : decode cX10_house 37 = .ok (.putfield 152, 3) := by decide +kernel
theorem dX10_house_40 : decode cX10_house 40 = .ok (.iconst 0, 1) := by decide +kernel
theorem dX10_house_41 : decode cX10_house 41 = .ok (.istore_n 1, 1) := by decide +kernel
theorem dX10_house_42 : decode cX10_house 42 = .ok (.iload_n 1, 1) := by decide +kernel
theorem dX10_house_43 : decode cX10_house 43 = .ok (.bipush 10, 2) := by decide +kernel
theorem dX10_house_45 : decode cX10_house 45 = .ok (.if_icmp .ge 16, 3) := by decide +kernel
theorem dX10_house_48 : decode cX10_house 48 = .ok (.aload_n 0, 1) := by decide +kernel
theorem dX10_house_49 : decode cX10_house 49 = .ok (.getfield 57, 3) := by decide +kernel
theorem dX10_house_52 : decode cX10_house 52 = .ok (.iload_n 1, 1) := by decide +kernel
theorem dX10_house_53 : decode cX10_house 53 = .ok (.iconst 0, 1) := by decide +kernel
theorem dX10_house_54 : decode cX10_house 54 = .ok (.iastore, 1) := by decide +kernel
theorem dX10_house_55 : decode cX10_house 55 = .ok (.iinc 1 1, 3) := by decide +kernel
theorem dX10_house_58 : decode cX10_house 58 = .ok (.goto (-16), 3) := by decide +kernel
theorem dX10_house_61 : decode cX10_house 61 = .ok (.iconst 1, 1) := by decide +kernel
theorem dX10_house_62 : decode cX10_house 62 = .ok (.istore_n 1, 1) := by decide +kernel
theorem dX10_house_63 : decode cX10_house 63 = .ok (.iload_n 1, 1) := by decide +kernel
theorem dX10_house_64 : decode cX10_house 64 = .ok (.ifCond .eq 19, 3) := by decide +kernel
theorem dX10_house_67 : decode cX10_house 67 = .ok (.aload_n 0, 1) := by decide +kernel
theorem dX10_house_68 : decode cX10_house 68 = .ok (.invokevirtual 122, 3) := by decide +kernel
theorem dX10_house_71 : decode cX10_house 71 = .ok (.iconst (-1), 1) := by decide +kernel
theorem dX10_house_72 : decode cX10_house 72 = .ok (.if_icmp .eq 11, 3) := by decide +kernel
theorem dX10_house_75 : decode cX10_house 75 = .ok (.aload_n 0, 1) := by decide +kernel
theorem dX10_house_76 : decode cX10_house 76 = .ok (.invokevirtual 181, 3) := by decide +kernel
theorem dX10_house_79 : decode cX10_house 79 = .ok (.istore_n 1, 1) := by decide +kernel
theorem dX10_house_80 : decode cX10_house 80 = .ok (.goto (-17), 3) := by decide +kernel
theorem dX10_house_83 : decode cX10_house 83 = .ok (.aload_n 0, 1) := by decide +kernel
theorem dX10_house_84 : decode cX10_house 84 = .ok (.iconst 0, 1) := by decide +kernel
theorem dX10_house_85 : decode cX10_house 85 = .ok (.putfield 105, 3) := by decide +kernel
theorem dX10_house_88 : decode cX10_house 88 = .ok (.iload_n 1, 1) := by decide +kernel
theorem dX10_house_89 : decode cX10_house 89 = .ok (.ifCond .ne 11, 3) := by decide +kernel
theorem dX10_house_92 : decode cX10_house 92 = .ok (.bipush (-10), 2) := by decide +kernel
theorem dX10_house_94 : decode cX10_house 94 = .ok (.aload_n 0, 1) := by decide +kernel
theorem dX10_house_95 : decode cX10_house 95 = .ok (.getfield 119, 3) := by decide +kernel
theorem dX10_house_98 : decode cX10_house 98 = .ok (.isub, 1) := by decide +kernel
theorem dX10_house_99 : decode cX10_house 99 = .ok (.ireturn, 1) := by decide +kernel
theorem dX10_house_100 : decode cX10_house 100 = .ok (.aload_n 0, 1) := by decide +kernel
theorem dX10_house_101 : decode cX10_house 101 = .ok (.getfield 7, 3) := by decide +kernel
theorem dX10_house_104 : decode cX10_house 104 = .ok (.bipush 34, 2) := by decide +kernel
theorem dX10_house_106 : decode cX10_house 106 = .ok (.iaload, 1) := by decide +kernel
theorem dX10_house_107 : decode cX10_house 107 = .ok (.istore_n 2, 1) := by decide +kernel
theorem dX10_house_108 : decode cX10_house 108 = .ok (.iconst 0, 1) := by decide +kernel
theorem dX10_house_109 : decode cX10_house 109 = .ok (.istore_n 3, 1) := by decide +kernel
theorem dX10_house_110 : decode cX10_house 110 = .ok (.iload_n 3, 1) := by decide +kernel
theorem dX10_house_111 : decode cX10_house 111 = .ok (.bipush 35, 2) := by decide +kernel
theorem dX10_house_113 : decode cX10_house 113 = .ok (.if_icmp .ge 16, 3) := by decide +kernel
theorem dX10_house_116 : decode cX10_house 116 = .ok (.aload_n 0, 1) := by decide +kernel
theorem dX10_house_117 : decode cX10_house 117 = .ok (.getfield 7, 3) := by decide +kernel
theorem dX10_house_120 : decode cX10_house 120 = .ok (.iload_n 3, 1) := by decide +kernel
theorem dX10_house_121 : decode cX10_house 121 = .ok (.iconst 0, 1) := by decide +kernel
theorem dX10_house_122 : decode cX10_house 122 = .ok (.iastore, 1) := by decide +kernel
theorem dX10_house_123 : decode cX10_house 123 = .ok (.iinc 3 1, 3) := by decide +kernel
theorem dX10_house_126 : decode cX10_house 126 = .ok (.goto (-16), 3) := by decide +kernel
theorem dX10_house_129 : decode cX10_house 129 = .ok (.aload_n 0, 1) := by decide +kernel
theorem dX10_house_130 : decode cX10_house 130 = .ok (.aload_n 0, 1) := by decide +kernel
theorem dX10_house_131 : decode cX10_house 131 = .ok (.getfield 140, 3) := by decide +kernel
theorem dX10_house_134 : decode cX10_house 134 = .ok (.putfield 84, 3) := by decide +kernel
theorem dX10_house_137 : decode cX10_house 137 = .ok (.aload_n 0, 1) := by decide +kernel
theorem dX10_house_138 : decode cX10_house 138 = .ok (.aload_n 0, 1) := by decide +kernel
theorem dX10_house_139 : decode cX10_house 139 = .ok (.getfield 146, 3) := by decide +kernel
theorem dX10_house_142 : decode cX10_house 142 = .ok (.putfield 91, 3) := by decide +kernel
theorem dX10_house_145 : decode cX10_house 145 = .ok (.aload_n 0, 1) := by decide +kernel
theorem dX10_house_146 : decode cX10_house 146 = .ok (.aload_n 0, 1) := by decide +kernel
theorem dX10_house_147 : decode cX10_house 147 = .ok (.getfield 149, 3) := by decide +kernel
theorem dX10_house_150 : decode cX10_house 150 = .ok (.putfield 94, 3) := by decide +kernel
theorem dX10_house_153 : decode cX10_house 153 = .ok (.aload_n 0, 1) := by decide +kernel
theorem dX10_house_154 : decode cX10_house 154 = .ok (.aload_n 0, 1) := by decide +kernel
theorem dX10_house_155 : decode cX10_house 155 = .ok (.getfield 152, 3) := by decide +kernel
theorem dX10_house_158 : decode cX10_house 158 = .ok (.putfield 97, 3) := by decide +kernel
theorem dX10_house_161 : decode cX10_house 161 = .ok (.iconst 0, 1) := by decide +kernel
theorem dX10_house_162 : decode cX10_house 162 = .ok (.istore_n 3, 1) := by decide +kernel
theorem dX10_house_163 : decode cX10_house 163 = .ok (.iload_n 3, 1) := by decide +kernel
theorem dX10_house_164 : decode cX10_house 164 = .ok (.bipush 8, 2) := by decide +kernel
theorem dX10_house_166 : decode cX10_house 166 = .ok (.if_icmp .ge 33, 3) := by decide +kernel
theorem dX10_house_169 : decode cX10_house 169 = .ok (.aload_n 0, 1) := by decide +kernel
theorem dX10_house_170 : decode cX10_house 170 = .ok (.getfield 17, 3) := by decide +kernel
theorem dX10_house_173 : decode cX10_house 173 = .ok (.iload_n 3, 1) := by decide +kernel
theorem dX10_house_174 : decode cX10_house 174 = .ok (.aload_n 0, 1) := by decide +kernel
theorem dX10_house_175 : decode cX10_house 175 = .ok (.getfield 42, 3) := by decide +kernel
theorem dX10_house_178 : decode cX10_house 178 = .ok (.iload_n 3, 1) := by decide +kernel
theorem dX10_house_179 : decode cX10_house 179 = .ok (.iaload, 1) := by decide +kernel
theorem dX10_house_180 : decode cX10_house 180 = .ok (.iastore, 1) := by decide +kernel
theorem dX10_house_181 : decode cX10_house 181 = .ok (.aload_n 0, 1) := by decide +kernel
theorem dX10_house_182 : decode cX10_house 182 = .ok (.getfield 20, 3) := by decide +kernel
theorem dX10_house_185 : decode cX10_house 185 = .ok (.iload_n 3, 1) := by decide +kernel
theorem dX10_house_186 : decode cX10_house 186 = .ok (.aload_n 0, 1) := by decide +kernel
theorem dX10_house_187 : decode cX10_house 187 = .ok (.getfield 45, 3) := by decide +kernel
theorem dX10_house_190 : decode cX10_house 190 = .ok (.iload_n 3, 1) := by decide +kernel
theorem dX10_house_191 : decode cX10_house 191 = .ok (.iaload, 1) := by decide +kernel
theorem dX10_house_192 : decode cX10_house 192 = .ok (.iastore, 1) := by decide +kernel
theorem dX10_house_193 : decode cX10_house 193 = .ok (.iinc 3 1, 3) := by decide +kernel
theorem dX10_house_196 : decode cX10_house 196 = .ok (.goto (-33), 3) := by decide +kernel
theorem dX10_house_199 : decode cX10_house 199 = .ok (.iconst 0, 1) := by decide +kernel
theorem dX10_house_200 : decode cX10_house 200 = .ok (.istore_n 3, 1) := by decide +kernel
theorem dX10_house_201 : decode cX10_house 201 = .ok (.iload_n 3, 1) := by decide +kernel
theorem dX10_house_202 : decode cX10_house 202 = .ok (.bipush 7, 2) := by decide +kernel
theorem dX10_house_204 : decode cX10_house 204 = .ok (.if_icmp .ge 70, 3) := by decide +kernel
theorem dX10_house_207 : decode cX10_house 207 = .ok (.aload_n 0, 1) := by decide +kernel
theorem dX10_house_208 : decode cX10_house 208 = .ok (.getfield 23, 3) := by decide +kernel
theorem dX10_house_211 : decode cX10_house 211 = .ok (.iload_n 3, 1) := by decide +kernel
theorem dX10_house_212 : decode cX10_house 212 = .ok (.aload_n 0, 1) := by decide +kernel
theorem dX10_house_213 : decode cX10_house 213 = .ok (.getfield 48, 3) := by decide +kernel
theorem dX10_house_216 : decode cX10_house 216 = .ok (.iload_n 3, 1) := by decide +kernel
theorem dX10_house_217 : decode cX10_house 217 = .ok (.iaload, 1) := by decide +kernel
theorem dX10_house_218 : decode cX10_house 218 = .ok (.iastore, 1) := by decide +kernel
theorem dX10_house_219 : decode cX10_house 219 = .ok (.aload_n 0, 1) := by decide +kernel
theorem dX10_house_220 : decode cX10_house 220 = .ok (.getfield 26, 3) := by decide +kernel
theorem dX10_house_223 : decode cX10_house 223 = .ok (.iload_n 3, 1) := by decide +kernel
theorem dX10_house_224 : decode cX10_house 224 = .ok (.aload_n 0, 1) := by decide +kernel
theorem dX10_house_225 : decode cX10_house 225 = .ok (.getfield 51, 3) := by decide +kernel
theorem dX10_house_228 : decode cX10_house 228 = .ok (.iload_n 3, 1) := by decide +kernel
theorem dX10_house_229 : decode cX10_house 229 = .ok (.iaload, 1) := by decide +kernel
theorem dX10_house_230 : decode cX10_house 230 = .ok (.iastore, 1) := by decide +kernel
theorem dX10_house_231 : decode cX10_house 231 = .ok (.aload_n 0, 1) := by decide +kernel
theorem dX10_house_232 : decode cX10_house 232 = .ok (.getfield 29, 3) := by decide +kernel
theorem dX10_house_235 : decode cX10_house 235 = .ok (.iload_n 3, 1) := by decide +kernel
theorem dX10_house_236 : decode cX10_house 236 = .ok (.aload_n 0, 1) := by decide +kernel
theorem dX10_house_237 : decode cX10_house 237 = .ok (.getfield 54, 3) := by decide +kernel
theorem dX10_house_240 : decode cX10_house 240 = .ok (.iload_n 3, 1) := by decide +kernel
theorem dX10_house_241 : decode cX10_house 241 = .ok (.iaload, 1) := by decide +kernel
theorem dX10_house_242 : decode cX10_house 242 = .ok (.iastore, 1) := by decide +kernel
theorem dX10_house_243 : decode cX10_house 243 = .ok (.aload_n 0, 1) := by decide +kernel
theorem dX10_house_244 : decode cX10_house 244 = .ok (.getfield 7, 3) := by decide +kernel
theorem dX10_house_247 : decode cX10_house 247 = .ok (.bipush 8, 2) := by decide +kernel
theorem dX10_house_249 : decode cX10_house 249 = .ok (.iload_n 3, 1) := by decide +kernel
theorem dX10_house_250 : decode cX10_house 250 = .ok (.iadd, 1) := by decide +kernel
theorem dX10_house_251 : decode cX10_house 251 = .ok (.aload_n 0, 1) := by decide +kernel
theorem dX10_house_252 : decode cX10_house 252 = .ok (.getfield 51, 3) := by decide +kernel
theorem dX10_house_255 : decode cX10_house 255 = .ok (.iload_n 3, 1) := by decide +kernel
theorem dX10_house_256 : decode cX10_house 256 = .ok (.iaload, 1) := by decide +kernel
theorem dX10_house_257 : decode cX10_house 257 = .ok (.iastore, 1) := by decide +kernel
theorem dX10_house_258 : decode cX10_house 258 = .ok (.aload_n 0, 1) := by decide +kernel
theorem dX10_house_259 : decode cX10_house 259 = .ok (.getfield 7, 3) := by decide +kernel
theorem dX10_house_262 : decode cX10_house 262 = .ok (.bipush 15, 2) := by decide +kernel
theorem dX10_house_264 : decode cX10_house 264 = .ok (.iload_n 3, 1) := by decide +kernel
theorem dX10_house_265 : decode cX10_house 265 = .ok (.iadd, 1) := by decide +kernel
theorem dX10_house_266 : decode cX10_house 266 = .ok (.iconst (-1), 1) := by decide +kernel
theorem dX10_house_267 : decode cX10_house 267 = .ok (.iastore, 1) := by decide +kernel
theorem dX10_house_268 : decode cX10_house 268 = .ok (.iinc 3 1, 3) := by decide +kernel
theorem dX10_house_271 : decode cX10_house 271 = .ok (.goto (-70), 3) := by decide +kernel
theorem dX10_house_274 : decode cX10_house 274 = .ok (.iconst 0, 1) := by decide +kernel
theorem dX10_house_275 : decode cX10_house 275 = .ok (.istore_n 3, 1) := by decide +kernel
theorem dX10_house_276 : decode cX10_house 276 = .ok (.iload_n 3, 1) := by decide +kernel
theorem dX10_house_277 : decode cX10_house 277 = .ok (.bipush 10, 2) := by decide +kernel
theorem dX10_house_279 : decode cX10_house 279 = .ok (.if_icmp .ge 34, 3) := by decide +kernel
theorem dX10_house_282 : decode cX10_house 282 = .ok (.aload_n 0, 1) := by decide +kernel
theorem dX10_house_283 : decode cX10_house 283 = .ok (.getfield 32, 3) := by decide +kernel
theorem dX10_house_286 : decode cX10_house 286 = .ok (.iload_n 3, 1) := by decide +kernel
theorem dX10_house_287 : decode cX10_house 287 = .ok (.aload_n 0, 1) := by decide +kernel
theorem dX10_house_288 : decode cX10_house 288 = .ok (.getfield 57, 3) := by decide +kernel
theorem dX10_house_291 : decode cX10_house 291 = .ok (.iload_n 3, 1) := by decide +kernel
theorem dX10_house_292 : decode cX10_house 292 = .ok (.iaload, 1) := by decide +kernel
theorem dX10_house_293 : decode cX10_house 293 = .ok (.ifCond .ne 7, 3) := by decide +kernel
theorem dX10_house_296 : decode cX10_house 296 = .ok (.iconst 1, 1) := by decide +kernel
theorem dX10_house_297 : decode cX10_house 297 = .ok (.goto 9, 3) := by decide +kernel
theorem dX10_house_300 : decode cX10_house 300 = .ok (.aload_n 0, 1) := by decide +kernel
theorem dX10_house_301 : decode cX10_house 301 = .ok (.getfield 57, 3) := by decide +kernel
theorem dX10_house_304 : decode cX10_house 304 = .ok (.iload_n 3, 1) := by decide +kernel
theorem dX10_house_305 : decode cX10_house 305 = .ok (.iaload, 1) := by decide +kernel
theorem dX10_house_306 : decode cX10_house 306 = .ok (.iastore, 1) := by decide +kernel
theorem dX10_house_307 : decode cX10_house 307 = .ok (.iinc 3 1, 3) := by decide +kernel
theorem dX10_house_310 : decode cX10_house 310 = .ok (.goto (-34), 3) := by decide +kernel
theorem dX10_house_313 : decode cX10_house 313 = .ok (.iconst 0, 1) := by decide +kernel
theorem dX10_house_314 : decode cX10_house 314 = .ok (.istore_n 3, 1) := by decide +kernel
theorem dX10_house_315 : decode cX10_house 315 = .ok (.iload_n 3, 1) := by decide +kernel
theorem dX10_house_316 : decode cX10_house 316 = .ok (.aload_n 0, 1) := by decide +kernel
theorem dX10_house_317 : decode cX10_house 317 = .ok (.getfield 97, 3) := by decide +kernel
theorem dX10_house_320 : decode cX10_house 320 = .ok (.if_icmp .ge 24, 3) := by decide +kernel
theorem dX10_house_323 : decode cX10_house 323 = .ok (.aload_n 0, 1) := by decide +kernel
theorem dX10_house_324 : decode cX10_house 324 = .ok (.getfield 7, 3) := by decide +kernel
theorem dX10_house_327 : decode cX10_house 327 = .ok (.bipush 29, 2) := by decide +kernel
theorem dX10_house_329 : decode cX10_house 329 = .ok (.iload_n 3, 1) := by decide +kernel
theorem dX10_house_330 : decode cX10_house 330 = .ok (.iadd, 1) := by decide +kernel
theorem dX10_house_331 : decode cX10_house 331 = .ok (.aload_n 0, 1) := by decide +kernel
theorem dX10_house_332 : decode cX10_house 332 = .ok (.getfield 60, 3) := by decide +kernel
theorem dX10_house_335 : decode cX10_house 335 = .ok (.iload_n 3, 1) := by decide +kernel
theorem dX10_house_336 : decode cX10_house 336 = .ok (.iaload, 1) := by decide +kernel
theorem dX10_house_337 : decode cX10_house 337 = .ok (.iastore, 1) := by decide +kernel
theorem dX10_house_338 : decode cX10_house 338 = .ok (.iinc 3 1, 3) := by decide +kernel
theorem dX10_house_341 : decode cX10_house 341 = .ok (.goto (-26), 3) := by decide +kernel
theorem dX10_house_344 : decode cX10_house 344 = .ok (.aload_n 0, 1) := by decide +kernel
theorem dX10_house_345 : decode cX10_house 345 = .ok (.getfield 7, 3) := by decide +kernel
theorem dX10_house_348 : decode cX10_house 348 = .ok (.iconst 1, 1) := by decide +kernel
theorem dX10_house_349 : decode cX10_house 349 = .ok (.aload_n 0, 1) := by decide +kernel
theorem dX10_house_350 : decode cX10_house 350 = .ok (.getfield 143, 3) := by decide +kernel
theorem dX10_house_353 : decode cX10_house 353 = .ok (.iastore, 1) := by decide +kernel
theorem dX10_house_354 : decode cX10_house 354 = .ok (.aload_n 0, 1) := by decide +kernel
theorem dX10_house_355 : decode cX10_house 355 = .ok (.getfield 7, 3) := by decide +kernel
theorem dX10_house_358 : decode cX10_house 358 = .ok (.bipush 34, 2) := by decide +kernel
theorem dX10_house_360 : decode cX10_house 360 = .ok (.iload_n 2, 1) := by decide +kernel
theorem dX10_house_361 : decode cX10_house 361 = .ok (.iastore, 1) := by decide +kernel
theorem dX10_house_362 : decode cX10_house 362 = .ok (.aload_n 0, 1) := by decide +kernel
theorem dX10_house_363 : decode cX10_house 363 = .ok (.iconst 0, 1) := by decide +kernel
theorem dX10_house_364 : decode cX10_house 364 = .ok (.putfield 184, 3) := by decide +kernel
theorem dX10_house_367 : decode cX10_house 367 = .ok (.aload_n 0, 1) := by decide +kernel
theorem dX10_house_368 : decode cX10_house 368 = .ok (.iconst 0, 1) := by decide +kernel
theorem dX10_house_369 : decode cX10_house 369 = .ok (.putfield 187, 3) := by decide +kernel
theorem dX10_house_372 : decode cX10_house 372 = .ok (.aload_n 0, 1) := by decide +kernel
theorem dX10_house_373 : decode cX10_house 373 = .ok (.iconst 0, 1) := by decide +kernel
theorem dX10_house_374 : decode cX10_house 374 = .ok (.putfield 190, 3) := by decide +kernel
theorem dX10_house_377 : decode cX10_house 377 = .ok (.aload_n 0, 1) := by decide +kernel
theorem dX10_house_378 : decode cX10_house 378 = .ok (.getfield 13, 3) := by decide +kernel
theorem dX10_house_381 : decode cX10_house 381 = .ok (.iconst 0, 1) := by decide +kernel
theorem dX10_house_382 : decode cX10_house 382 = .ok (.iconst 0, 1) := by decide +kernel
theorem dX10_house_383 : decode cX10_house 383 = .ok (.bastore, 1) := by decide +kernel
theorem dX10_house_384 : decode cX10_house 384 = .ok (.aload_n 0, 1) := by decide +kernel
theorem dX10_house_385 : decode cX10_house 385 = .ok (.getfield 13, 3) := by decide +kernel
theorem dX10_house_388 : decode cX10_house 388 = .ok (.iconst 1, 1) := by decide +kernel
theorem dX10_house_389 : decode cX10_house 389 = .ok (.iconst 0, 1) := by decide +kernel
theorem dX10_house_390 : decode cX10_house 390 = .ok (.bastore, 1) := by decide +kernel
theorem dX10_house_391 : decode cX10_house 391 = .ok (.aload_n 0, 1) := by decide +kernel
theorem dX10_house_392 : decode cX10_house 392 = .ok (.getfield 94, 3) := by decide +kernel
theorem dX10_house_395 : decode cX10_house 395 = .ok (.ireturn, 1) := by decide +kernel
theorem dX10_fault_0 : decode cX10_fault 0 = .ok (.aload_n 0, 1) := by decide +kernel
theorem dX10_fault_1 : decode cX10_fault 1 = .ok (.getfield 38, 3) := by decide +kernel
theorem dX10_fault_4 : decode cX10_fault 4 = .ok (.ireturn, 1) := by decide +kernel
theorem dX10_told_0 : decode cX10_told 0 = .ok (.iload_n 1, 1) := by decide +kernel
theorem dX10_told_1 : decode cX10_told 1 = .ok (.tableswitch 119 0 15 #[79, 84, 89, 94, 99, 119, 119, 119, 119, 119, 119, 119, 119, 104, 109, 114], 79) := by decide +kernel
theorem dX10_told_80 : decode cX10_told 80 = .ok (.aload_n 0, 1) := by decide +kernel
theorem dX10_told_81 : decode cX10_told 81 = .ok (.getfield 84, 3) := by decide +kernel
theorem dX10_told_84 : decode cX10_told 84 = .ok (.ireturn, 1) := by decide +kernel
theorem dX10_told_85 : decode cX10_told 85 = .ok (.aload_n 0, 1) := by decide +kernel
theorem dX10_told_86 : decode cX10_told 86 = .ok (.getfield 91, 3) := by decide +kernel
theorem dX10_told_89 : decode cX10_told 89 = .ok (.ireturn, 1) := by decide +kernel
theorem dX10_told_90 : decode cX10_told 90 = .ok (.aload_n 0, 1) := by decide +kernel
theorem dX10_told_91 : decode cX10_told 91 = .ok (.getfield 94, 3) := by decide +kernel
theorem dX10_told_94 : decode cX10_told 94 = .ok (.ireturn, 1) := by decide +kernel
theorem dX10_told_95 : decode cX10_told 95 = .ok (.aload_n 0, 1) := by decide +kernel
theorem dX10_told_96 : decode cX10_told 96 = .ok (.getfield 97, 3) := by decide +kernel
theorem dX10_told_99 : decode cX10_told 99 = .ok (.ireturn, 1) := by decide +kernel
theorem dX10_told_100 : decode cX10_told 100 = .ok (.aload_n 0, 1) := by decide +kernel
theorem dX10_told_101 : decode cX10_told 101 = .ok (.getfield 105, 3) := by decide +kernel
theorem dX10_told_104 : decode cX10_told 104 = .ok (.ireturn, 1) := by decide +kernel
theorem dX10_told_105 : decode cX10_told 105 = .ok (.aload_n 0, 1) := by decide +kernel
theorem dX10_told_106 : decode cX10_told 106 = .ok (.getfield 184, 3) := by decide +kernel
theorem dX10_told_109 : decode cX10_told 109 = .ok (.ireturn, 1) := by decide +kernel
theorem dX10_told_110 : decode cX10_told 110 = .ok (.aload_n 0, 1) := by decide +kernel
theorem dX10_told_111 : decode cX10_told 111 = .ok (.getfield 187, 3) := by decide +kernel
theorem dX10_told_114 : decode cX10_told 114 = .ok (.ireturn, 1) := by decide +kernel
theorem dX10_told_115 : decode cX10_told 115 = .ok (.aload_n 0, 1) := by decide +kernel
theorem dX10_told_116 : decode cX10_told 116 = .ok (.getfield 190, 3) := by decide +kernel
theorem dX10_told_119 : decode cX10_told 119 = .ok (.ireturn, 1) := by decide +kernel
theorem dX10_told_120 : decode cX10_told 120 = .ok (.iload_n 1, 1) := by decide +kernel
theorem dX10_told_121 : decode cX10_told 121 = .ok (.i2l, 1) := by decide +kernel
theorem dX10_told_122 : decode cX10_told 122 = .ok (.ldc2_w 193, 3) := by decide +kernel
theorem dX10_told_125 : decode cX10_told 125 = .ok (.ldc2_w 195, 3) := by decide +kernel
theorem dX10_told_128 : decode cX10_told 128 = .ok (.invokestatic 87, 3) := by decide +kernel
theorem dX10_told_131 : decode cX10_told 131 = .ok (.ifCond .eq 14, 3) := by decide +kernel
theorem dX10_told_134 : decode cX10_told 134 = .ok (.aload_n 0, 1) := by decide +kernel
theorem dX10_told_135 : decode cX10_told 135 = .ok (.getfield 7, 3) := by decide +kernel
theorem dX10_told_138 : decode cX10_told 138 = .ok (.iload_n 1, 1) := by decide +kernel
theorem dX10_told_139 : decode cX10_told 139 = .ok (.iconst 5, 1) := by decide +kernel
theorem dX10_told_140 : decode cX10_told 140 = .ok (.isub, 1) := by decide +kernel
theorem dX10_told_141 : decode cX10_told 141 = .ok (.iaload, 1) := by decide +kernel
theorem dX10_told_142 : decode cX10_told 142 = .ok (.goto 5, 3) := by decide +kernel
theorem dX10_told_145 : decode cX10_told 145 = .ok (.ldc 104, 2) := by decide +kernel
theorem dX10_told_147 : decode cX10_told 147 = .ok (.ireturn, 1) := by decide +kernel
theorem dX10_mirror_0 : decode cX10_mirror 0 = .ok (.aload_n 0, 1) := by decide +kernel
theorem dX10_mirror_1 : decode cX10_mirror 1 = .ok (.iload_n 1, 1) := by decide +kernel
theorem dX10_mirror_2 : decode cX10_mirror 2 = .ok (.invokevirtual 197, 3) := by decide +kernel
theorem dX10_mirror_5 : decode cX10_mirror 5 = .ok (.ifCond .ne 6, 3) := by decide +kernel
theorem dX10_mirror_8 : decode cX10_mirror 8 = .ok (.ldc 200, 2) := by decide +kernel
theorem dX10_mirror_10 : decode cX10_mirror 10 = .ok (.ireturn, 1) := by decide +kernel
theorem dX10_mirror_11 : decode cX10_mirror 11 = .ok (.iload_n 2, 1) := by decide +kernel
theorem dX10_mirror_12 : decode cX10_mirror 12 = .ok (.tableswitch 80 0 4 #[36, 43, 53, 60, 70], 36) := by decide +kernel
theorem dX10_mirror_48 : decode cX10_mirror 48 = .ok (.aload_n 0, 1) := by decide +kernel
theorem dX10_mirror_49 : decode cX10_mirror 49 = .ok (.getfield 23, 3) := by decide +kernel
theorem dX10_mirror_52 : decode cX10_mirror 52 = .ok (.iload_n 1, 1) := by decide +kernel
theorem dX10_mirror_53 : decode cX10_mirror 53 = .ok (.iaload, 1) := by decide +kernel
theorem dX10_mirror_54 : decode cX10_mirror 54 = .ok (.ireturn, 1) := by decide +kernel
theorem dX10_mirror_55 : decode cX10_mirror 55 = .ok (.aload_n 0, 1) := by decide +kernel
theorem dX10_mirror_56 : decode cX10_mirror 56 = .ok (.getfield 7, 3) := by decide +kernel
theorem dX10_mirror_59 : decode cX10_mirror 59 = .ok (.bipush 8, 2) := by decide +kernel
theorem dX10_mirror_61 : decode cX10_mirror 61 = .ok (.iload_n 1, 1) := by decide +kernel
theorem dX10_mirror_62 : decode cX10_mirror 62 = .ok (.iadd, 1) := by decide +kernel
theorem dX10_mirror_63 : decode cX10_mirror 63 = .ok (.iaload, 1) := by decide +kernel
theorem dX10_mirror_64 : decode cX10_mirror 64 = .ok (.ireturn, 1) := by decide +kernel
theorem dX10_mirror_65 : decode cX10_mirror 65 = .ok (.aload_n 0, 1) := by decide +kernel
theorem dX10_mirror_66 : decode cX10_mirror 66 = .ok (.getfield 29, 3) := by decide +kernel
theorem dX10_mirror_69 : decode cX10_mirror 69 = .ok (.iload_n 1, 1) := by decide +kernel
theorem dX10_mirror_70 : decode cX10_mirror 70 = .ok (.iaload, 1) := by decide +kernel
theorem dX10_mirror_71 : decode cX10_mirror 71 = .ok (.ireturn, 1) := by decide +kernel
theorem dX10_mirror_72 : decode cX10_mirror 72 = .ok (.aload_n 0, 1) := by decide +kernel
theorem dX10_mirror_73 : decode cX10_mirror 73 = .ok (.getfield 7, 3) := by decide +kernel
theorem dX10_mirror_76 : decode cX10_mirror 76 = .ok (.bipush 15, 2) := by decide +kernel
theorem dX10_mirror_78 : decode cX10_mirror 78 = .ok (.iload_n 1, 1) := by decide +kernel
theorem dX10_mirror_79 : decode cX10_mirror 79 = .ok (.iadd, 1) := by decide +kernel
theorem dX10_mirror_80 : decode cX10_mirror 80 = .ok (.iaload, 1) := by decide +kernel
theorem dX10_mirror_81 : decode cX10_mirror 81 = .ok (.ireturn, 1) := by decide +kernel
theorem dX10_mirror_82 : decode cX10_mirror 82 = .ok (.aload_n 0, 1) := by decide +kernel
theorem dX10_mirror_83 : decode cX10_mirror 83 = .ok (.getfield 7, 3) := by decide +kernel
theorem dX10_mirror_86 : decode cX10_mirror 86 = .ok (.bipush 22, 2) := by decide +kernel
theorem dX10_mirror_88 : decode cX10_mirror 88 = .ok (.iload_n 1, 1) := by decide +kernel
theorem dX10_mirror_89 : decode cX10_mirror 89 = .ok (.iadd, 1) := by decide +kernel
theorem dX10_mirror_90 : decode cX10_mirror 90 = .ok (.iaload, 1) := by decide +kernel
theorem dX10_mirror_91 : decode cX10_mirror 91 = .ok (.ireturn, 1) := by decide +kernel
theorem dX10_mirror_92 : decode cX10_mirror 92 = .ok (.ldc 104, 2) := by decide +kernel
theorem dX10_mirror_94 : decode cX10_mirror 94 = .ok (.ireturn, 1) := by decide +kernel
theorem dX10_doorOf_0 : decode cX10_doorOf 0 = .ok (.aload_n 0, 1) := by decide +kernel
theorem dX10_doorOf_1 : decode cX10_doorOf 1 = .ok (.iload_n 1, 1) := by decide +kernel
theorem dX10_doorOf_2 : decode cX10_doorOf 2 = .ok (.invokevirtual 201, 3) := by decide +kernel
theorem dX10_doorOf_5 : decode cX10_doorOf 5 = .ok (.ifCond .ne 6, 3) := by decide +kernel
theorem dX10_doorOf_8 : decode cX10_doorOf 8 = .ok (.ldc 200, 2) := by decide +kernel
theorem dX10_doorOf_10 : decode cX10_doorOf 10 = .ok (.ireturn, 1) := by decide +kernel
theorem dX10_doorOf_11 : decode cX10_doorOf 11 = .ok (.iload_n 2, 1) := by decide +kernel
theorem dX10_doorOf_12 : decode cX10_doorOf 12 = .ok (.ifCond .ne 12, 3) := by decide +kernel
theorem dX10_doorOf_15 : decode cX10_doorOf 15 = .ok (.aload_n 0, 1) := by decide +kernel
theorem dX10_doorOf_16 : decode cX10_doorOf 16 = .ok (.getfield 17, 3) := by decide +kernel
theorem dX10_doorOf_19 : decode cX10_doorOf 19 = .ok (.iload_n 1, 1) := by decide +kernel
theorem dX10_doorOf_20 : decode cX10_doorOf 20 = .ok (.iaload, 1) := by decide +kernel
theorem dX10_doorOf_21 : decode cX10_doorOf 21 = .ok (.goto 19, 3) := by decide +kernel
theorem dX10_doorOf_24 : decode cX10_doorOf 24 = .ok (.iload_n 2, 1) := by decide +kernel
theorem dX10_doorOf_25 : decode cX10_doorOf 25 = .ok (.iconst 1, 1) := by decide +kernel
theorem dX10_doorOf_26 : decode cX10_doorOf 26 = .ok (.if_icmp .ne 12, 3) := by decide +kernel
theorem dX10_doorOf_29 : decode cX10_doorOf 29 = .ok (.aload_n 0, 1) := by decide +kernel
theorem dX10_doorOf_30 : decode cX10_doorOf 30 = .ok (.getfield 20, 3) := by decide +kernel
theorem dX10_doorOf_33 : decode cX10_doorOf 33 = .ok (.iload_n 1, 1) := by decide +kernel
theorem dX10_doorOf_34 : decode cX10_doorOf 34 = .ok (.iaload, 1) := by decide +kernel
theorem dX10_doorOf_35 : decode cX10_doorOf 35 = .ok (.goto 5, 3) := by decide +kernel
theorem dX10_doorOf_38 : decode cX10_doorOf 38 = .ok (.ldc 104, 2) := by decide +kernel
theorem dX10_doorOf_40 : decode cX10_doorOf 40 = .ok (.ireturn, 1) := by decide +kernel
theorem dX10_person_0 : decode cX10_person 0 = .ok (.aload_n 0, 1) := by decide +kernel
theorem dX10_person_1 : decode cX10_person 1 = .ok (.iload_n 1, 1) := by decide +kernel
theorem dX10_person_2 : decode cX10_person 2 = .ok (.invokevirtual 204, 3) := by decide +kernel
theorem dX10_person_5 : decode cX10_person 5 = .ok (.ifCond .eq 15, 3) := by decide +kernel
theorem dX10_person_8 : decode cX10_person 8 = .ok (.aload_n 0, 1) := by decide +kernel
theorem dX10_person_9 : decode cX10_person 9 = .ok (.getfield 7, 3) := by decide +kernel
theorem dX10_person_12 : decode cX10_person 12 = .ok (.bipush 29, 2) := by decide +kernel
theorem dX10_person_14 : decode cX10_person 14 = .ok (.iload_n 1, 1) := by decide +kernel
theorem dX10_person_15 : decode cX10_person 15 = .ok (.iadd, 1) := by decide +kernel
theorem dX10_person_16 : decode cX10_person 16 = .ok (.iaload, 1) := by decide +kernel
theorem dX10_person_17 : decode cX10_person 17 = .ok (.goto 5, 3) := by decide +kernel
theorem dX10_person_20 : decode cX10_person 20 = .ok (.ldc 200, 2) := by decide +kernel
theorem dX10_person_22 : decode cX10_person 22 = .ok (.ireturn, 1) := by decide +kernel
theorem dX10_isOpen_0 : decode cX10_isOpen 0 = .ok (.iconst 0, 1) := by decide +kernel
theorem dX10_isOpen_1 : decode cX10_isOpen 1 = .ok (.istore_n 3, 1) := by decide +kernel
theorem dX10_isOpen_2 : decode cX10_isOpen 2 = .ok (.iconst 0, 1) := by decide +kernel
theorem dX10_isOpen_3 : decode cX10_isOpen 3 = .ok (.istore 4, 2) := by decide +kernel
theorem dX10_isOpen_5 : decode cX10_isOpen 5 = .ok (.iload 4, 2) := by decide +kernel
theorem dX10_isOpen_7 : decode cX10_isOpen 7 = .ok (.aload_n 0, 1) := by decide +kernel
theorem dX10_isOpen_8 : decode cX10_isOpen 8 = .ok (.getfield 91, 3) := by decide +kernel
theorem dX10_isOpen_11 : decode cX10_isOpen 11 = .ok (.if_icmp .ge 89, 3) := by decide +kernel
theorem dX10_isOpen_14 : decode cX10_isOpen 14 = .ok (.aload_n 0, 1) := by decide +kernel
theorem dX10_isOpen_15 : decode cX10_isOpen 15 = .ok (.getfield 17, 3) := by decide +kernel
theorem dX10_isOpen_18 : decode cX10_isOpen 18 = .ok (.iload 4, 2) := by decide +kernel
theorem dX10_isOpen_20 : decode cX10_isOpen 20 = .ok (.iaload, 1) := by decide +kernel
theorem dX10_isOpen_21 : decode cX10_isOpen 21 = .ok (.iload_n 1, 1) := by decide +kernel
theorem dX10_isOpen_22 : decode cX10_isOpen 22 = .ok (.if_icmp .ne 14, 3) := by decide +kernel
theorem dX10_isOpen_25 : decode cX10_isOpen 25 = .ok (.aload_n 0, 1) := by decide +kernel
theorem dX10_isOpen_26 : decode cX10_isOpen 26 = .ok (.getfield 20, 3) := by decide +kernel
theorem dX10_isOpen_29 : decode cX10_isOpen 29 = .ok (.iload 4, 2) := by decide +kernel
theorem dX10_isOpen_31 : decode cX10_isOpen 31 = .ok (.iaload, 1) := by decide +kernel
theorem dX10_isOpen_32 : decode cX10_isOpen 32 = .ok (.iload_n 2, 1) := by decide +kernel
theorem dX10_isOpen_33 : decode cX10_isOpen 33 = .ok (.if_icmp .eq 25, 3) := by decide +kernel
theorem dX10_isOpen_36 : decode cX10_isOpen 36 = .ok (.aload_n 0, 1) := by decide +kernel
theorem dX10_isOpen_37 : decode cX10_isOpen 37 = .ok (.getfield 17, 3) := by decide +kernel
theorem dX10_isOpen_40 : decode cX10_isOpen 40 = .ok (.iload 4, 2) := by decide +kernel
theorem dX10_isOpen_42 : decode cX10_isOpen 42 = .ok (.iaload, 1) := by decide +kernel
theorem dX10_isOpen_43 : decode cX10_isOpen 43 = .ok (.iload_n 2, 1) := by decide +kernel
theorem dX10_isOpen_44 : decode cX10_isOpen 44 = .ok (.if_icmp .ne 18, 3) := by decide +kernel
theorem dX10_isOpen_47 : decode cX10_isOpen 47 = .ok (.aload_n 0, 1) := by decide +kernel
theorem dX10_isOpen_48 : decode cX10_isOpen 48 = .ok (.getfield 20, 3) := by decide +kernel
theorem dX10_isOpen_51 : decode cX10_isOpen 51 = .ok (.iload 4, 2) := by decide +kernel
theorem dX10_isOpen_53 : decode cX10_isOpen 53 = .ok (.iaload, 1) := by decide +kernel
theorem dX10_isOpen_54 : decode cX10_isOpen 54 = .ok (.iload_n 1, 1) := by decide +kernel
theorem dX10_isOpen_55 : decode cX10_isOpen 55 = .ok (.if_icmp .ne 7, 3) := by decide +kernel
theorem dX10_isOpen_58 : decode cX10_isOpen 58 = .ok (.iconst 1, 1) := by decide +kernel
theorem dX10_isOpen_59 : decode cX10_isOpen 59 = .ok (.goto 4, 3) := by decide +kernel
theorem dX10_isOpen_62 : decode cX10_isOpen 62 = .ok (.iconst 0, 1) := by decide +kernel
theorem dX10_isOpen_63 : decode cX10_isOpen 63 = .ok (.istore 5, 2) := by decide +kernel
theorem dX10_isOpen_65 : decode cX10_isOpen 65 = .ok (.iload_n 3, 1) := by decide +kernel
theorem dX10_isOpen_66 : decode cX10_isOpen 66 = .ok (.ifCond .ne 22, 3) := by decide +kernel
theorem dX10_isOpen_69 : decode cX10_isOpen 69 = .ok (.iload 5, 2) := by decide +kernel
theorem dX10_isOpen_71 : decode cX10_isOpen 71 = .ok (.ifCond .eq 21, 3) := by decide +kernel
theorem dX10_isOpen_74 : decode cX10_isOpen 74 = .ok (.aload_n 0, 1) := by decide +kernel
theorem dX10_isOpen_75 : decode cX10_isOpen 75 = .ok (.getfield 7, 3) := by decide +kernel
theorem dX10_isOpen_78 : decode cX10_isOpen 78 = .ok (.iconst 5, 1) := by decide +kernel
theorem dX10_isOpen_79 : decode cX10_isOpen 79 = .ok (.iaload, 1) := by decide +kernel
theorem dX10_isOpen_80 : decode cX10_isOpen 80 = .ok (.iload 4, 2) := by decide +kernel
theorem dX10_isOpen_82 : decode cX10_isOpen 82 = .ok (.invokestatic 207, 3) := by decide +kernel
theorem dX10_isOpen_85 : decode cX10_isOpen 85 = .ok (.ifCond .ne 7, 3) := by decide +kernel
theorem dX10_isOpen_88 : decode cX10_isOpen 88 = .ok (.iconst 1, 1) := by decide +kernel
theorem dX10_isOpen_89 : decode cX10_isOpen 89 = .ok (.goto 4, 3) := by decide +kernel
theorem dX10_isOpen_92 : decode cX10_isOpen 92 = .ok (.iconst 0, 1) := by decide +kernel
theorem dX10_isOpen_93 : decode cX10_isOpen 93 = .ok (.istore_n 3, 1) := by decide +kernel
theorem dX10_isOpen_94 : decode cX10_isOpen 94 = .ok (.iinc 4 1, 3) := by decide +kernel
theorem dX10_isOpen_97 : decode cX10_isOpen 97 = .ok (.goto (-92), 3) := by decide +kernel
theorem dX10_isOpen_100 : decode cX10_isOpen 100 = .ok (.iload_n 3, 1) := by decide +kernel
theorem dX10_isOpen_101 : decode cX10_isOpen 101 = .ok (.ireturn, 1) := by decide +kernel
theorem dX10_isNear_0 : decode cX10_isNear 0 = .ok (.iload_n 1, 1) := by decide +kernel
theorem dX10_isNear_1 : decode cX10_isNear 1 = .ok (.iload_n 2, 1) := by decide +kernel
theorem dX10_isNear_2 : decode cX10_isNear 2 = .ok (.if_icmp .eq 12, 3) := by decide +kernel
theorem dX10_isNear_5 : decode cX10_isNear 5 = .ok (.aload_n 0, 1) := by decide +kernel
theorem dX10_isNear_6 : decode cX10_isNear 6 = .ok (.iload_n 1, 1) := by decide +kernel
theorem dX10_isNear_7 : decode cX10_isNear 7 = .ok (.iload_n 2, 1) := by decide +kernel
theorem dX10_isNear_8 : decode cX10_isNear 8 = .ok (.invokevirtual 210, 3) := by decide +kernel
theorem dX10_isNear_11 : decode cX10_isNear 11 = .ok (.ifCond .eq 7, 3) := by decide +kernel
theorem dX10_isNear_14 : decode cX10_isNear 14 = .ok (.iconst 1, 1) := by decide +kernel
theorem dX10_isNear_15 : decode cX10_isNear 15 = .ok (.goto 4, 3) := by decide +kernel
theorem dX10_isNear_18 : decode cX10_isNear 18 = .ok (.iconst 0, 1) := by decide +kernel
theorem dX10_isNear_19 : decode cX10_isNear 19 = .ok (.ireturn, 1) := by decide +kernel
theorem dX10_sees_0 : decode cX10_sees 0 = .ok (.aload_n 0, 1) := by decide +kernel
theorem dX10_sees_1 : decode cX10_sees 1 = .ok (.iload_n 1, 1) := by decide +kernel
theorem dX10_sees_2 : decode cX10_sees 2 = .ok (.invokevirtual 204, 3) := by decide +kernel
theorem dX10_sees_5 : decode cX10_sees 5 = .ok (.ifCond .eq 16, 3) := by decide +kernel
theorem dX10_sees_8 : decode cX10_sees 8 = .ok (.aload_n 0, 1) := by decide +kernel
theorem dX10_sees_9 : decode cX10_sees 9 = .ok (.iload_n 2, 1) := by decide +kernel
theorem dX10_sees_10 : decode cX10_sees 10 = .ok (.invokevirtual 204, 3) := by decide +kernel
theorem dX10_sees_13 : decode cX10_sees 13 = .ok (.ifCond .eq 8, 3) := by decide +kernel
theorem dX10_sees_16 : decode cX10_sees 16 = .ok (.iload_n 1, 1) := by decide +kernel
theorem dX10_sees_17 : decode cX10_sees 17 = .ok (.iload_n 2, 1) := by decide +kernel
theorem dX10_sees_18 : decode cX10_sees 18 = .ok (.if_icmp .ne 6, 3) := by decide +kernel
theorem dX10_sees_21 : decode cX10_sees 21 = .ok (.ldc 200, 2) := by decide +kernel
theorem dX10_sees_23 : decode cX10_sees 23 = .ok (.ireturn, 1) := by decide +kernel
theorem dX10_sees_24 : decode cX10_sees 24 = .ok (.aload_n 0, 1) := by decide +kernel
theorem dX10_sees_25 : decode cX10_sees 25 = .ok (.getfield 7, 3) := by decide +kernel
theorem dX10_sees_28 : decode cX10_sees 28 = .ok (.bipush 29, 2) := by decide +kernel
theorem dX10_sees_30 : decode cX10_sees 30 = .ok (.iload_n 1, 1) := by decide +kernel
theorem dX10_sees_31 : decode cX10_sees 31 = .ok (.iadd, 1) := by decide +kernel
theorem dX10_sees_32 : decode cX10_sees 32 = .ok (.iaload, 1) := by decide +kernel
theorem dX10_sees_33 : decode cX10_sees 33 = .ok (.istore_n 3, 1) := by decide +kernel
theorem dX10_sees_34 : decode cX10_sees 34 = .ok (.iconst 0, 1) := by decide +kernel
theorem dX10_sees_35 : decode cX10_sees 35 = .ok (.istore 4, 2) := by decide +kernel
theorem dX10_sees_37 : decode cX10_sees 37 = .ok (.iconst 0, 1) := by decide +kernel
theorem dX10_sees_38 : decode cX10_sees 38 = .ok (.istore 5, 2) := by decide +kernel
theorem dX10_sees_40 : decode cX10_sees 40 = .ok (.iload 5, 2) := by decide +kernel
theorem dX10_sees_42 : decode cX10_sees 42 = .ok (.aload_n 0, 1) := by decide +kernel
theorem dX10_sees_43 : decode cX10_sees 43 = .ok (.getfield 94, 3) := by decide +kernel
theorem dX10_sees_46 : decode cX10_sees 46 = .ok (.if_icmp .ge 46, 3) := by decide +kernel
theorem dX10_sees_49 : decode cX10_sees 49 = .ok (.iload 4, 2) := by decide +kernel
theorem dX10_sees_51 : decode cX10_sees 51 = .ok (.ifCond .ne 28, 3) := by decide +kernel
theorem dX10_sees_54 : decode cX10_sees 54 = .ok (.aload_n 0, 1) := by decide +kernel
theorem dX10_sees_55 : decode cX10_sees 55 = .ok (.getfield 23, 3) := by decide +kernel
theorem dX10_sees_58 : decode cX10_sees 58 = .ok (.iload 5, 2) := by decide +kernel
theorem dX10_sees_60 : decode cX10_sees 60 = .ok (.iaload, 1) := by decide +kernel
theorem dX10_sees_61 : decode cX10_sees 61 = .ok (.iload_n 3, 1) := by decide +kernel
theorem dX10_sees_62 : decode cX10_sees 62 = .ok (.if_icmp .ne 21, 3) := by decide +kernel
theorem dX10_sees_65 : decode cX10_sees 65 = .ok (.aload_n 0, 1) := by decide +kernel
theorem dX10_sees_66 : decode cX10_sees 66 = .ok (.getfield 7, 3) := by decide +kernel
theorem dX10_sees_69 : decode cX10_sees 69 = .ok (.iconst 2, 1) := by decide +kernel
theorem dX10_sees_70 : decode cX10_sees 70 = .ok (.iaload, 1) := by decide +kernel
theorem dX10_sees_71 : decode cX10_sees 71 = .ok (.iload 5, 2) := by decide +kernel
theorem dX10_sees_73 : decode cX10_sees 73 = .ok (.invokestatic 207, 3) := by decide +kernel
theorem dX10_sees_76 : decode cX10_sees 76 = .ok (.ifCond .eq 7, 3) := by decide +kernel
theorem dX10_sees_79 : decode cX10_sees 79 = .ok (.iconst 1, 1) := by decide +kernel
theorem dX10_sees_80 : decode cX10_sees 80 = .ok (.goto 4, 3) := by decide +kernel
theorem dX10_sees_83 : decode cX10_sees 83 = .ok (.iconst 0, 1) := by decide +kernel
theorem dX10_sees_84 : decode cX10_sees 84 = .ok (.istore 4, 2) := by decide +kernel
theorem dX10_sees_86 : decode cX10_sees 86 = .ok (.iinc 5 1, 3) := by decide +kernel
theorem dX10_sees_89 : decode cX10_sees 89 = .ok (.goto (-49), 3) := by decide +kernel
theorem dX10_sees_92 : decode cX10_sees 92 = .ok (.iload 4, 2) := by decide +kernel
theorem dX10_sees_94 : decode cX10_sees 94 = .ok (.ifCond .eq 37, 3) := by decide +kernel
theorem dX10_sees_97 : decode cX10_sees 97 = .ok (.aload_n 0, 1) := by decide +kernel
theorem dX10_sees_98 : decode cX10_sees 98 = .ok (.getfield 7, 3) := by decide +kernel
theorem dX10_sees_101 : decode cX10_sees 101 = .ok (.iconst 4, 1) := by decide +kernel
theorem dX10_sees_102 : decode cX10_sees 102 = .ok (.iaload, 1) := by decide +kernel
theorem dX10_sees_103 : decode cX10_sees 103 = .ok (.iload_n 3, 1) := by decide +kernel
theorem dX10_sees_104 : decode cX10_sees 104 = .ok (.invokestatic 207, 3) := by decide +kernel
theorem dX10_sees_107 : decode cX10_sees 107 = .ok (.ifCond .ne 24, 3) := by decide +kernel
theorem dX10_sees_110 : decode cX10_sees 110 = .ok (.aload_n 0, 1) := by decide +kernel
theorem dX10_sees_111 : decode cX10_sees 111 = .ok (.iload_n 3, 1) := by decide +kernel
theorem dX10_sees_112 : decode cX10_sees 112 = .ok (.aload_n 0, 1) := by decide +kernel
theorem dX10_sees_113 : decode cX10_sees 113 = .ok (.getfield 7, 3) := by decide +kernel
theorem dX10_sees_116 : decode cX10_sees 116 = .ok (.bipush 29, 2) := by decide +kernel
theorem dX10_sees_118 : decode cX10_sees 118 = .ok (.iload_n 2, 1) := by decide +kernel
theorem dX10_sees_119 : decode cX10_sees 119 = .ok (.iadd, 1) := by decide +kernel
theorem dX10_sees_120 : decode cX10_sees 120 = .ok (.iaload, 1) := by decide +kernel
theorem dX10_sees_121 : decode cX10_sees 121 = .ok (.invokevirtual 213, 3) := by decide +kernel
theorem dX10_sees_124 : decode cX10_sees 124 = .ok (.ifCond .eq 7, 3) := by decide +kernel
theorem dX10_sees_127 : decode cX10_sees 127 = .ok (.iconst 1, 1) := by decide +kernel
theorem dX10_sees_128 : decode cX10_sees 128 = .ok (.goto 4, 3) := by decide +kernel
theorem dX10_sees_131 : decode cX10_sees 131 = .ok (.iconst 0, 1) := by decide +kernel
theorem dX10_sees_132 : decode cX10_sees 132 = .ok (.ireturn, 1) := by decide +kernel
theorem dX10_minds_0 : decode cX10_minds 0 = .ok (.aload_n 0, 1) := by decide +kernel
theorem dX10_minds_1 : decode cX10_minds 1 = .ok (.getfield 190, 3) := by decide +kernel
theorem dX10_minds_4 : decode cX10_minds 4 = .ok (.bipush 20, 2) := by decide +kernel
theorem dX10_minds_6 : decode cX10_minds 6 = .ok (.if_icmp .ne 49, 3) := by decide +kernel
theorem dX10_minds_9 : decode cX10_minds 9 = .ok (.iconst 0, 1) := by decide +kernel
theorem dX10_minds_10 : decode cX10_minds 10 = .ok (.istore_n 1, 1) := by decide +kernel
theorem dX10_minds_11 : decode cX10_minds 11 = .ok (.iload_n 1, 1) := by decide +kernel
theorem dX10_minds_12 : decode cX10_minds 12 = .ok (.sipush 665, 3) := by decide +kernel
theorem dX10_minds_15 : decode cX10_minds 15 = .ok (.if_icmp .ge 30, 3) := by decide +kernel
theorem dX10_minds_18 : decode cX10_minds 18 = .ok (.aload_n 0, 1) := by decide +kernel
theorem dX10_minds_19 : decode cX10_minds 19 = .ok (.getfield 7, 3) := by decide +kernel
theorem dX10_minds_22 : decode cX10_minds 22 = .ok (.bipush 105, 2) := by decide +kernel
theorem dX10_minds_24 : decode cX10_minds 24 = .ok (.iload_n 1, 1) := by decide +kernel
theorem dX10_minds_25 : decode cX10_minds 25 = .ok (.iadd, 1) := by decide +kernel
theorem dX10_minds_26 : decode cX10_minds 26 = .ok (.aload_n 0, 1) := by decide +kernel
theorem dX10_minds_27 : decode cX10_minds 27 = .ok (.getfield 7, 3) := by decide +kernel
theorem dX10_minds_30 : decode cX10_minds 30 = .ok (.bipush 105, 2) := by decide +kernel
theorem dX10_minds_32 : decode cX10_minds 32 = .ok (.iload_n 1, 1) := by decide +kernel
theorem dX10_minds_33 : decode cX10_minds 33 = .ok (.iadd, 1) := by decide +kernel
theorem dX10_minds_34 : decode cX10_minds 34 = .ok (.bipush 35, 2) := by decide +kernel
theorem dX10_minds_36 : decode cX10_minds 36 = .ok (.iadd, 1) := by decide +kernel
theorem dX10_minds_37 : decode cX10_minds 37 = .ok (.iaload, 1) := by decide +kernel
theorem dX10_minds_38 : decode cX10_minds 38 = .ok (.iastore, 1) := by decide +kernel
theorem dX10_minds_39 : decode cX10_minds 39 = .ok (.iinc 1 1, 3) := by decide +kernel
theorem dX10_minds_42 : decode cX10_minds 42 = .ok (.goto (-31), 3) := by decide +kernel
theorem dX10_minds_45 : decode cX10_minds 45 = .ok (.aload_n 0, 1) := by decide +kernel
theorem dX10_minds_46 : decode cX10_minds 46 = .ok (.dup, 1) := by decide +kernel
theorem dX10_minds_47 : decode cX10_minds 47 = .ok (.getfield 190, 3) := by decide +kernel
theorem dX10_minds_50 : decode cX10_minds 50 = .ok (.iconst 1, 1) := by decide +kernel
theorem dX10_minds_51 : decode cX10_minds 51 = .ok (.isub, 1) := by decide +kernel
theorem dX10_minds_52 : decode cX10_minds 52 = .ok (.putfield 190, 3) := by decide +kernel
theorem dX10_minds_55 : decode cX10_minds 55 = .ok (.aload_n 0, 1) := by decide +kernel
theorem dX10_minds_56 : decode cX10_minds 56 = .ok (.iconst 0, 1) := by decide +kernel
theorem dX10_minds_57 : decode cX10_minds 57 = .ok (.bipush 105, 2) := by decide +kernel
theorem dX10_minds_59 : decode cX10_minds 59 = .ok (.bipush 35, 2) := by decide +kernel
theorem dX10_minds_61 : decode cX10_minds 61 = .ok (.aload_n 0, 1) := by decide +kernel
theorem dX10_minds_62 : decode cX10_minds 62 = .ok (.getfield 190, 3) := by decide +kernel
theorem dX10_minds_65 : decode cX10_minds 65 = .ok (.imul, 1) := by decide +kernel
theorem dX10_minds_66 : decode cX10_minds 66 = .ok (.iadd, 1) := by decide +kernel
theorem dX10_minds_67 : decode cX10_minds 67 = .ok (.invokevirtual 216, 3) := by decide +kernel
theorem dX10_minds_70 : decode cX10_minds 70 = .ok (.aload_n 0, 1) := by decide +kernel
theorem dX10_minds_71 : decode cX10_minds 71 = .ok (.dup, 1) := by decide +kernel
theorem dX10_minds_72 : decode cX10_minds 72 = .ok (.getfield 190, 3) := by decide +kernel
theorem dX10_minds_75 : decode cX10_minds 75 = .ok (.iconst 1, 1) := by decide +kernel
theorem dX10_minds_76 : decode cX10_minds 76 = .ok (.iadd, 1) := by decide +kernel
theorem dX10_minds_77 : decode cX10_minds 77 = .ok (.putfield 190, 3) := by decide +kernel
theorem dX10_minds_80 : decode cX10_minds 80 = .ok (.return_, 1) := by decide +kernel
theorem dX10_undo_0 : decode cX10_undo 0 = .ok (.aload_n 0, 1) := by decide +kernel
theorem dX10_undo_1 : decode cX10_undo 1 = .ok (.getfield 190, 3) := by decide +kernel
theorem dX10_undo_4 : decode cX10_undo 4 = .ok (.ifCond .ne 6, 3) := by decide +kernel
theorem dX10_undo_7 : decode cX10_undo 7 = .ok (.ldc 220, 2) := by decide +kernel
theorem dX10_undo_9 : decode cX10_undo 9 = .ok (.ireturn, 1) := by decide +kernel
theorem dX10_undo_10 : decode cX10_undo 10 = .ok (.aload_n 0, 1) := by decide +kernel
theorem dX10_undo_11 : decode cX10_undo 11 = .ok (.getfield 7, 3) := by decide +kernel
theorem dX10_undo_14 : decode cX10_undo 14 = .ok (.bipush 34, 2) := by decide +kernel
theorem dX10_undo_16 : decode cX10_undo 16 = .ok (.iaload, 1) := by decide +kernel
theorem dX10_undo_17 : decode cX10_undo 17 = .ok (.istore_n 1, 1) := by decide +kernel
theorem dX10_undo_18 : decode cX10_undo 18 = .ok (.aload_n 0, 1) := by decide +kernel
theorem dX10_undo_19 : decode cX10_undo 19 = .ok (.dup, 1) := by decide +kernel
theorem dX10_undo_20 : decode cX10_undo 20 = .ok (.getfield 190, 3) := by decide +kernel
theorem dX10_undo_23 : decode cX10_undo 23 = .ok (.iconst 1, 1) := by decide +kernel
theorem dX10_undo_24 : decode cX10_undo 24 = .ok (.isub, 1) := by decide +kernel
theorem dX10_undo_25 : decode cX10_undo 25 = .ok (.putfield 190, 3) := by decide +kernel
theorem dX10_undo_28 : decode cX10_undo 28 = .ok (.aload_n 0, 1) := by decide +kernel
theorem dX10_undo_29 : decode cX10_undo 29 = .ok (.bipush 105, 2) := by decide +kernel
theorem dX10_undo_31 : decode cX10_undo 31 = .ok (.bipush 35, 2) := by decide +kernel
theorem dX10_undo_33 : decode cX10_undo 33 = .ok (.aload_n 0, 1) := by decide +kernel
theorem dX10_undo_34 : decode cX10_undo 34 = .ok (.getfield 190, 3) := by decide +kernel
theorem dX10_undo_37 : decode cX10_undo 37 = .ok (.imul, 1) := by decide +kernel
theorem dX10_undo_38 : decode cX10_undo 38 = .ok (.iadd, 1) := by decide +kernel
theorem dX10_undo_39 : decode cX10_undo 39 = .ok (.iconst 0, 1) := by decide +kernel
theorem dX10_undo_40 : decode cX10_undo 40 = .ok (.invokevirtual 216, 3) := by decide +kernel
theorem dX10_undo_43 : decode cX10_undo 43 = .ok (.aload_n 0, 1) := by decide +kernel
theorem dX10_undo_44 : decode cX10_undo 44 = .ok (.getfield 7, 3) := by decide +kernel
theorem dX10_undo_47 : decode cX10_undo 47 = .ok (.bipush 34, 2) := by decide +kernel
theorem dX10_undo_49 : decode cX10_undo 49 = .ok (.iload_n 1, 1) := by decide +kernel
theorem dX10_undo_50 : decode cX10_undo 50 = .ok (.iastore, 1) := by decide +kernel
theorem dX10_undo_51 : decode cX10_undo 51 = .ok (.aload_n 0, 1) := by decide +kernel
theorem dX10_undo_52 : decode cX10_undo 52 = .ok (.getfield 190, 3) := by decide +kernel
theorem dX10_undo_55 : decode cX10_undo 55 = .ok (.ireturn, 1) := by decide +kernel
theorem dX10_step_0 : decode cX10_step 0 = .ok (.aload_n 0, 1) := by decide +kernel
theorem dX10_step_1 : decode cX10_step 1 = .ok (.iload_n 1, 1) := by decide +kernel
theorem dX10_step_2 : decode cX10_step 2 = .ok (.invokevirtual 221, 3) := by decide +kernel
theorem dX10_step_5 : decode cX10_step 5 = .ok (.ifCond .ne 6, 3) := by decide +kernel
theorem dX10_step_8 : decode cX10_step 8 = .ok (.ldc 200, 2) := by decide +kernel
theorem dX10_step_10 : decode cX10_step 10 = .ok (.ireturn, 1) := by decide +kernel
theorem dX10_step_11 : decode cX10_step 11 = .ok (.aload_n 0, 1) := by decide +kernel
theorem dX10_step_12 : decode cX10_step 12 = .ok (.aload_n 0, 1) := by decide +kernel
theorem dX10_step_13 : decode cX10_step 13 = .ok (.getfield 7, 3) := by decide +kernel
theorem dX10_step_16 : decode cX10_step 16 = .ok (.iconst 0, 1) := by decide +kernel
theorem dX10_step_17 : decode cX10_step 17 = .ok (.iaload, 1) := by decide +kernel
theorem dX10_step_18 : decode cX10_step 18 = .ok (.iload_n 1, 1) := by decide +kernel
theorem dX10_step_19 : decode cX10_step 19 = .ok (.invokevirtual 210, 3) := by decide +kernel
theorem dX10_step_22 : decode cX10_step 22 = .ok (.ifCond .ne 6, 3) := by decide +kernel
theorem dX10_step_25 : decode cX10_step 25 = .ok (.ldc 220, 2) := by decide +kernel
theorem dX10_step_27 : decode cX10_step 27 = .ok (.ireturn, 1) := by decide +kernel
theorem dX10_step_28 : decode cX10_step 28 = .ok (.aload_n 0, 1) := by decide +kernel
theorem dX10_step_29 : decode cX10_step 29 = .ok (.getfield 7, 3) := by decide +kernel
theorem dX10_step_32 : decode cX10_step 32 = .ok (.bipush 6, 2) := by decide +kernel
theorem dX10_step_34 : decode cX10_step 34 = .ok (.iaload, 1) := by decide +kernel
theorem dX10_step_35 : decode cX10_step 35 = .ok (.ldc 224, 2) := by decide +kernel
theorem dX10_step_37 : decode cX10_step 37 = .ok (.if_icmp .le 6, 3) := by decide +kernel
theorem dX10_step_40 : decode cX10_step 40 = .ok (.ldc 108, 2) := by decide +kernel
theorem dX10_step_42 : decode cX10_step 42 = .ok (.ireturn, 1) := by decide +kernel
theorem dX10_step_43 : decode cX10_step 43 = .ok (.aload_n 0, 1) := by decide +kernel
theorem dX10_step_44 : decode cX10_step 44 = .ok (.invokevirtual 225, 3) := by decide +kernel
theorem dX10_step_47 : decode cX10_step 47 = .ok (.aload_n 0, 1) := by decide +kernel
theorem dX10_step_48 : decode cX10_step 48 = .ok (.getfield 7, 3) := by decide +kernel
theorem dX10_step_51 : decode cX10_step 51 = .ok (.iconst 0, 1) := by decide +kernel
theorem dX10_step_52 : decode cX10_step 52 = .ok (.iload_n 1, 1) := by decide +kernel
theorem dX10_step_53 : decode cX10_step 53 = .ok (.iastore, 1) := by decide +kernel
theorem dX10_step_54 : decode cX10_step 54 = .ok (.aload_n 0, 1) := by decide +kernel
theorem dX10_step_55 : decode cX10_step 55 = .ok (.getfield 7, 3) := by decide +kernel
theorem dX10_step_58 : decode cX10_step 58 = .ok (.bipush 6, 2) := by decide +kernel
theorem dX10_step_60 : decode cX10_step 60 = .ok (.dup2, 1) := by decide +kernel
theorem dX10_step_61 : decode cX10_step 61 = .ok (.iaload, 1) := by decide +kernel
theorem dX10_step_62 : decode cX10_step 62 = .ok (.iconst 1, 1) := by decide +kernel
theorem dX10_step_63 : decode cX10_step 63 = .ok (.iadd, 1) := by decide +kernel
theorem dX10_step_64 : decode cX10_step 64 = .ok (.iastore, 1) := by decide +kernel
theorem dX10_step_65 : decode cX10_step 65 = .ok (.aload_n 0, 1) := by decide +kernel
theorem dX10_step_66 : decode cX10_step 66 = .ok (.getfield 7, 3) := by decide +kernel
theorem dX10_step_69 : decode cX10_step 69 = .ok (.bipush 6, 2) := by decide +kernel
theorem dX10_step_71 : decode cX10_step 71 = .ok (.iaload, 1) := by decide +kernel
theorem dX10_step_72 : decode cX10_step 72 = .ok (.ireturn, 1) := by decide +kernel
theorem dX10_isTooEarly_0 : decode cX10_isTooEarly 0 = .ok (.aload_n 0, 1) := by decide +kernel
theorem dX10_isTooEarly_1 : decode cX10_isTooEarly 1 = .ok (.getfield 29, 3) := by decide +kernel
theorem dX10_isTooEarly_4 : decode cX10_isTooEarly 4 = .ok (.iload_n 1, 1) := by decide +kernel
theorem dX10_isTooEarly_5 : decode cX10_isTooEarly 5 = .ok (.iaload, 1) := by decide +kernel
theorem dX10_isTooEarly_6 : decode cX10_isTooEarly 6 = .ok (.istore 4, 2) := by decide +kernel
theorem dX10_isTooEarly_8 : decode cX10_isTooEarly 8 = .ok (.iload 4, 2) := by decide +kernel
theorem dX10_isTooEarly_10 : decode cX10_isTooEarly 10 = .ok (.iconst (-1), 1) := by decide +kernel
theorem dX10_isTooEarly_11 : decode cX10_isTooEarly 11 = .ok (.if_icmp .eq 31, 3) := by decide +kernel
theorem dX10_isTooEarly_14 : decode cX10_isTooEarly 14 = .ok (.iload 4, 2) := by decide +kernel
theorem dX10_isTooEarly_16 : decode cX10_isTooEarly 16 = .ok (.iload_n 1, 1) := by decide +kernel
theorem dX10_isTooEarly_17 : decode cX10_isTooEarly 17 = .ok (.if_icmp .ge 25, 3) := by decide +kernel
theorem dX10_isTooEarly_20 : decode cX10_isTooEarly 20 = .ok (.iload_n 2, 1) := by decide +kernel
theorem dX10_isTooEarly_21 : decode cX10_isTooEarly 21 = .ok (.iload 4, 2) := by decide +kernel
theorem dX10_isTooEarly_23 : decode cX10_isTooEarly 23 = .ok (.invokestatic 207, 3) := by decide +kernel
theorem dX10_isTooEarly_26 : decode cX10_isTooEarly 26 = .ok (.ifCond .ne 16, 3) := by decide +kernel
theorem dX10_isTooEarly_29 : decode cX10_isTooEarly 29 = .ok (.iload_n 3, 1) := by decide +kernel
theorem dX10_isTooEarly_30 : decode cX10_isTooEarly 30 = .ok (.iload 4, 2) := by decide +kernel
theorem dX10_isTooEarly_32 : decode cX10_isTooEarly 32 = .ok (.invokestatic 207, 3) := by decide +kernel
theorem dX10_isTooEarly_35 : decode cX10_isTooEarly 35 = .ok (.ifCond .ne 7, 3) := by decide +kernel
theorem dX10_isTooEarly_38 : decode cX10_isTooEarly 38 = .ok (.iconst 1, 1) := by decide +kernel
theorem dX10_isTooEarly_39 : decode cX10_isTooEarly 39 = .ok (.goto 4, 3) := by decide +kernel
theorem dX10_isTooEarly_42 : decode cX10_isTooEarly 42 = .ok (.iconst 0, 1) := by decide +kernel
theorem dX10_isTooEarly_43 : decode cX10_isTooEarly 43 = .ok (.ireturn, 1) := by decide +kernel
theorem dX10_greets_0 : decode cX10_greets 0 = .ok (.iload_n 2, 1) := by decide +kernel
theorem dX10_greets_1 : decode cX10_greets 1 = .ok (.aload_n 0, 1) := by decide +kernel
theorem dX10_greets_2 : decode cX10_greets 2 = .ok (.getfield 7, 3) := by decide +kernel
theorem dX10_greets_5 : decode cX10_greets 5 = .ok (.bipush 8, 2) := by decide +kernel
theorem dX10_greets_7 : decode cX10_greets 7 = .ok (.iload_n 1, 1) := by decide +kernel
theorem dX10_greets_8 : decode cX10_greets 8 = .ok (.iadd, 1) := by decide +kernel
theorem dX10_greets_9 : decode cX10_greets 9 = .ok (.iaload, 1) := by decide +kernel
theorem dX10_greets_10 : decode cX10_greets 10 = .ok (.if_icmp .eq 95, 3) := by decide +kernel
theorem dX10_greets_13 : decode cX10_greets 13 = .ok (.aload_n 0, 1) := by decide +kernel
theorem dX10_greets_14 : decode cX10_greets 14 = .ok (.getfield 7, 3) := by decide +kernel
theorem dX10_greets_17 : decode cX10_greets 17 = .ok (.bipush 22, 2) := by decide +kernel
theorem dX10_greets_19 : decode cX10_greets 19 = .ok (.iload_n 1, 1) := by decide +kernel
theorem dX10_greets_20 : decode cX10_greets 20 = .ok (.iadd, 1) := by decide +kernel
theorem dX10_greets_21 : decode cX10_greets 21 = .ok (.aload_n 0, 1) := by decide +kernel
theorem dX10_greets_22 : decode cX10_greets 22 = .ok (.getfield 7, 3) := by decide +kernel
theorem dX10_greets_25 : decode cX10_greets 25 = .ok (.bipush 15, 2) := by decide +kernel
theorem dX10_greets_27 : decode cX10_greets 27 = .ok (.iload_n 1, 1) := by decide +kernel
theorem dX10_greets_28 : decode cX10_greets 28 = .ok (.iadd, 1) := by decide +kernel
theorem dX10_greets_29 : decode cX10_greets 29 = .ok (.iaload, 1) := by decide +kernel
theorem dX10_greets_30 : decode cX10_greets 30 = .ok (.iload_n 2, 1) := by decide +kernel
theorem dX10_greets_31 : decode cX10_greets 31 = .ok (.if_icmp .ne 17, 3) := by decide +kernel
theorem dX10_greets_34 : decode cX10_greets 34 = .ok (.aload_n 0, 1) := by decide +kernel
theorem dX10_greets_35 : decode cX10_greets 35 = .ok (.getfield 7, 3) := by decide +kernel
theorem dX10_greets_38 : decode cX10_greets 38 = .ok (.bipush 22, 2) := by decide +kernel
theorem dX10_greets_40 : decode cX10_greets 40 = .ok (.iload_n 1, 1) := by decide +kernel
theorem dX10_greets_41 : decode cX10_greets 41 = .ok (.iadd, 1) := by decide +kernel
theorem dX10_greets_42 : decode cX10_greets 42 = .ok (.iaload, 1) := by decide +kernel
theorem dX10_greets_43 : decode cX10_greets 43 = .ok (.iconst 1, 1) := by decide +kernel
theorem dX10_greets_44 : decode cX10_greets 44 = .ok (.iadd, 1) := by decide +kernel
theorem dX10_greets_45 : decode cX10_greets 45 = .ok (.goto 4, 3) := by decide +kernel
theorem dX10_greets_48 : decode cX10_greets 48 = .ok (.iconst 1, 1) := by decide +kernel
theorem dX10_greets_49 : decode cX10_greets 49 = .ok (.iastore, 1) := by decide +kernel
theorem dX10_greets_50 : decode cX10_greets 50 = .ok (.aload_n 0, 1) := by decide +kernel
theorem dX10_greets_51 : decode cX10_greets 51 = .ok (.getfield 7, 3) := by decide +kernel
theorem dX10_greets_54 : decode cX10_greets 54 = .ok (.bipush 15, 2) := by decide +kernel
theorem dX10_greets_56 : decode cX10_greets 56 = .ok (.iload_n 1, 1) := by decide +kernel
theorem dX10_greets_57 : decode cX10_greets 57 = .ok (.iadd, 1) := by decide +kernel
theorem dX10_greets_58 : decode cX10_greets 58 = .ok (.iload_n 2, 1) := by decide +kernel
theorem dX10_greets_59 : decode cX10_greets 59 = .ok (.iastore, 1) := by decide +kernel
theorem dX10_greets_60 : decode cX10_greets 60 = .ok (.aload_n 0, 1) := by decide +kernel
theorem dX10_greets_61 : decode cX10_greets 61 = .ok (.getfield 7, 3) := by decide +kernel
theorem dX10_greets_64 : decode cX10_greets 64 = .ok (.bipush 22, 2) := by decide +kernel
theorem dX10_greets_66 : decode cX10_greets 66 = .ok (.iload_n 1, 1) := by decide +kernel
theorem dX10_greets_67 : decode cX10_greets 67 = .ok (.iadd, 1) := by decide +kernel
theorem dX10_greets_68 : decode cX10_greets 68 = .ok (.iaload, 1) := by decide +kernel
theorem dX10_greets_69 : decode cX10_greets 69 = .ok (.iconst 3, 1) := by decide +kernel
theorem dX10_greets_70 : decode cX10_greets 70 = .ok (.if_icmp .ne 33, 3) := by decide +kernel
theorem dX10_greets_73 : decode cX10_greets 73 = .ok (.aload_n 0, 1) := by decide +kernel
theorem dX10_greets_74 : decode cX10_greets 74 = .ok (.getfield 7, 3) := by decide +kernel
theorem dX10_greets_77 : decode cX10_greets 77 = .ok (.bipush 8, 2) := by decide +kernel
theorem dX10_greets_79 : decode cX10_greets 79 = .ok (.iload_n 1, 1) := by decide +kernel
theorem dX10_greets_80 : decode cX10_greets 80 = .ok (.iadd, 1) := by decide +kernel
theorem dX10_greets_81 : decode cX10_greets 81 = .ok (.iload_n 2, 1) := by decide +kernel
theorem dX10_greets_82 : decode cX10_greets 82 = .ok (.iastore, 1) := by decide +kernel
theorem dX10_greets_83 : decode cX10_greets 83 = .ok (.aload_n 0, 1) := by decide +kernel
theorem dX10_greets_84 : decode cX10_greets 84 = .ok (.getfield 7, 3) := by decide +kernel
theorem dX10_greets_87 : decode cX10_greets 87 = .ok (.bipush 15, 2) := by decide +kernel
theorem dX10_greets_89 : decode cX10_greets 89 = .ok (.iload_n 1, 1) := by decide +kernel
theorem dX10_greets_90 : decode cX10_greets 90 = .ok (.iadd, 1) := by decide +kernel
theorem dX10_greets_91 : decode cX10_greets 91 = .ok (.iconst (-1), 1) := by decide +kernel
theorem dX10_greets_92 : decode cX10_greets 92 = .ok (.iastore, 1) := by decide +kernel
theorem dX10_greets_93 : decode cX10_greets 93 = .ok (.aload_n 0, 1) := by decide +kernel
theorem dX10_greets_94 : decode cX10_greets 94 = .ok (.getfield 7, 3) := by decide +kernel
theorem dX10_greets_97 : decode cX10_greets 97 = .ok (.bipush 22, 2) := by decide +kernel
theorem dX10_greets_99 : decode cX10_greets 99 = .ok (.iload_n 1, 1) := by decide +kernel
theorem dX10_greets_100 : decode cX10_greets 100 = .ok (.iadd, 1) := by decide +kernel
theorem dX10_greets_101 : decode cX10_greets 101 = .ok (.iconst 0, 1) := by decide +kernel
theorem dX10_greets_102 : decode cX10_greets 102 = .ok (.iastore, 1) := by decide +kernel
theorem dX10_greets_103 : decode cX10_greets 103 = .ok (.iconst 0, 1) := by decide +kernel
theorem dX10_greets_104 : decode cX10_greets 104 = .ok (.ireturn, 1) := by decide +kernel
theorem dX10_greets_105 : decode cX10_greets 105 = .ok (.aload_n 0, 1) := by decide +kernel
theorem dX10_greets_106 : decode cX10_greets 106 = .ok (.getfield 7, 3) := by decide +kernel
theorem dX10_greets_109 : decode cX10_greets 109 = .ok (.bipush 15, 2) := by decide +kernel
theorem dX10_greets_111 : decode cX10_greets 111 = .ok (.iload_n 1, 1) := by decide +kernel
theorem dX10_greets_112 : decode cX10_greets 112 = .ok (.iadd, 1) := by decide +kernel
theorem dX10_greets_113 : decode cX10_greets 113 = .ok (.iconst (-1), 1) := by decide +kernel
theorem dX10_greets_114 : decode cX10_greets 114 = .ok (.iastore, 1) := by decide +kernel
theorem dX10_greets_115 : decode cX10_greets 115 = .ok (.aload_n 0, 1) := by decide +kernel
theorem dX10_greets_116 : decode cX10_greets 116 = .ok (.getfield 7, 3) := by decide +kernel
theorem dX10_greets_119 : decode cX10_greets 119 = .ok (.bipush 22, 2) := by decide +kernel
theorem dX10_greets_121 : decode cX10_greets 121 = .ok (.iload_n 1, 1) := by decide +kernel
theorem dX10_greets_122 : decode cX10_greets 122 = .ok (.iadd, 1) := by decide +kernel
theorem dX10_greets_123 : decode cX10_greets 123 = .ok (.iconst 0, 1) := by decide +kernel
theorem dX10_greets_124 : decode cX10_greets 124 = .ok (.iastore, 1) := by decide +kernel
theorem dX10_greets_125 : decode cX10_greets 125 = .ok (.aload_n 0, 1) := by decide +kernel
theorem dX10_greets_126 : decode cX10_greets 126 = .ok (.getfield 7, 3) := by decide +kernel
theorem dX10_greets_129 : decode cX10_greets 129 = .ok (.iconst 2, 1) := by decide +kernel
theorem dX10_greets_130 : decode cX10_greets 130 = .ok (.iaload, 1) := by decide +kernel
theorem dX10_greets_131 : decode cX10_greets 131 = .ok (.iload_n 1, 1) := by decide +kernel
theorem dX10_greets_132 : decode cX10_greets 132 = .ok (.invokestatic 207, 3) := by decide +kernel
theorem dX10_greets_135 : decode cX10_greets 135 = .ok (.ifCond .ne 16, 3) := by decide +kernel
theorem dX10_greets_138 : decode cX10_greets 138 = .ok (.aload_n 0, 1) := by decide +kernel
theorem dX10_greets_139 : decode cX10_greets 139 = .ok (.getfield 7, 3) := by decide +kernel
theorem dX10_greets_142 : decode cX10_greets 142 = .ok (.iconst 3, 1) := by decide +kernel
theorem dX10_greets_143 : decode cX10_greets 143 = .ok (.iaload, 1) := by decide +kernel
theorem dX10_greets_144 : decode cX10_greets 144 = .ok (.iload_n 1, 1) := by decide +kernel
theorem dX10_greets_145 : decode cX10_greets 145 = .ok (.invokestatic 207, 3) := by decide +kernel
theorem dX10_greets_148 : decode cX10_greets 148 = .ok (.ifCond .eq 5, 3) := by decide +kernel
theorem dX10_greets_151 : decode cX10_greets 151 = .ok (.iconst 0, 1) := by decide +kernel
theorem dX10_greets_152 : decode cX10_greets 152 = .ok (.ireturn, 1) := by decide +kernel
theorem dX10_greets_153 : decode cX10_greets 153 = .ok (.aload_n 0, 1) := by decide +kernel
theorem dX10_greets_154 : decode cX10_greets 154 = .ok (.iload_n 1, 1) := by decide +kernel
theorem dX10_greets_155 : decode cX10_greets 155 = .ok (.aload_n 0, 1) := by decide +kernel
theorem dX10_greets_156 : decode cX10_greets 156 = .ok (.getfield 7, 3) := by decide +kernel
theorem dX10_greets_159 : decode cX10_greets 159 = .ok (.iconst 2, 1) := by decide +kernel
theorem dX10_greets_160 : decode cX10_greets 160 = .ok (.iaload, 1) := by decide +kernel
theorem dX10_greets_161 : decode cX10_greets 161 = .ok (.aload_n 0, 1) := by decide +kernel
theorem dX10_greets_162 : decode cX10_greets 162 = .ok (.getfield 7, 3) := by decide +kernel
theorem dX10_greets_165 : decode cX10_greets 165 = .ok (.iconst 3, 1) := by decide +kernel
theorem dX10_greets_166 : decode cX10_greets 166 = .ok (.iaload, 1) := by decide +kernel
theorem dX10_greets_167 : decode cX10_greets 167 = .ok (.invokevirtual 228, 3) := by decide +kernel
theorem dX10_greets_170 : decode cX10_greets 170 = .ok (.ifCond .eq 26, 3) := by decide +kernel
theorem dX10_greets_173 : decode cX10_greets 173 = .ok (.aload_n 0, 1) := by decide +kernel
theorem dX10_greets_174 : decode cX10_greets 174 = .ok (.getfield 7, 3) := by decide +kernel
theorem dX10_greets_177 : decode cX10_greets 177 = .ok (.iconst 3, 1) := by decide +kernel
theorem dX10_greets_178 : decode cX10_greets 178 = .ok (.dup2, 1) := by decide +kernel
theorem dX10_greets_179 : decode cX10_greets 179 = .ok (.iaload, 1) := by decide +kernel
theorem dX10_greets_180 : decode cX10_greets 180 = .ok (.iconst 1, 1) := by decide +kernel
theorem dX10_greets_181 : decode cX10_greets 181 = .ok (.iload_n 1, 1) := by decide +kernel
theorem dX10_greets_182 : decode cX10_greets 182 = .ok (.ishl, 1) := by decide +kernel
theorem dX10_greets_183 : decode cX10_greets 183 = .ok (.iconst 1, 1) := by decide +kernel
theorem dX10_greets_184 : decode cX10_greets 184 = .ok (.aload_n 0, 1) := by decide +kernel
theorem dX10_greets_185 : decode cX10_greets 185 = .ok (.getfield 29, 3) := by decide +kernel
theorem dX10_greets_188 : decode cX10_greets 188 = .ok (.iload_n 1, 1) := by decide +kernel
theorem dX10_greets_189 : decode cX10_greets 189 = .ok (.iaload, 1) := by decide +kernel
theorem dX10_greets_190 : decode cX10_greets 190 = .ok (.ishl, 1) := by decide +kernel
theorem dX10_greets_191 : decode cX10_greets 191 = .ok (.ior, 1) := by decide +kernel
theorem dX10_greets_192 : decode cX10_greets 192 = .ok (.ior, 1) := by decide +kernel
theorem dX10_greets_193 : decode cX10_greets 193 = .ok (.iastore, 1) := by decide +kernel
theorem dX10_greets_194 : decode cX10_greets 194 = .ok (.iconst 0, 1) := by decide +kernel
theorem dX10_greets_195 : decode cX10_greets 195 = .ok (.ireturn, 1) := by decide +kernel
theorem dX10_greets_196 : decode cX10_greets 196 = .ok (.aload_n 0, 1) := by decide +kernel
theorem dX10_greets_197 : decode cX10_greets 197 = .ok (.getfield 7, 3) := by decide +kernel
theorem dX10_greets_200 : decode cX10_greets 200 = .ok (.iconst 2, 1) := by decide +kernel
theorem dX10_greets_201 : decode cX10_greets 201 = .ok (.dup2, 1) := by decide +kernel
theorem dX10_greets_202 : decode cX10_greets 202 = .ok (.iaload, 1) := by decide +kernel
theorem dX10_greets_203 : decode cX10_greets 203 = .ok (.iconst 1, 1) := by decide +kernel
theorem dX10_greets_204 : decode cX10_greets 204 = .ok (.iload_n 1, 1) := by decide +kernel
theorem dX10_greets_205 : decode cX10_greets 205 = .ok (.ishl, 1) := by decide +kernel
theorem dX10_greets_206 : decode cX10_greets 206 = .ok (.ior, 1) := by decide +kernel
theorem dX10_greets_207 : decode cX10_greets 207 = .ok (.iastore, 1) := by decide +kernel
theorem dX10_greets_208 : decode cX10_greets 208 = .ok (.iconst 1, 1) := by decide +kernel
theorem dX10_greets_209 : decode cX10_greets 209 = .ok (.ireturn, 1) := by decide +kernel
theorem dX10_greet_0 : decode cX10_greet 0 = .ok (.aload_n 0, 1) := by decide +kernel
theorem dX10_greet_1 : decode cX10_greet 1 = .ok (.iload_n 1, 1) := by decide +kernel
theorem dX10_greet_2 : decode cX10_greet 2 = .ok (.invokevirtual 197, 3) := by decide +kernel
theorem dX10_greet_5 : decode cX10_greet 5 = .ok (.ifCond .eq 10, 3) := by decide +kernel
theorem dX10_greet_8 : decode cX10_greet 8 = .ok (.iload_n 2, 1) := by decide +kernel
theorem dX10_greet_9 : decode cX10_greet 9 = .ok (.invokestatic 232, 3) := by decide +kernel
theorem dX10_greet_12 : decode cX10_greet 12 = .ok (.ifCond .ne 6, 3) := by decide +kernel
theorem dX10_greet_15 : decode cX10_greet 15 = .ok (.ldc 200, 2) := by decide +kernel
theorem dX10_greet_17 : decode cX10_greet 17 = .ok (.ireturn, 1) := by decide +kernel
theorem dX10_greet_18 : decode cX10_greet 18 = .ok (.aload_n 0, 1) := by decide +kernel
theorem dX10_greet_19 : decode cX10_greet 19 = .ok (.getfield 23, 3) := by decide +kernel
theorem dX10_greet_22 : decode cX10_greet 22 = .ok (.iload_n 1, 1) := by decide +kernel
theorem dX10_greet_23 : decode cX10_greet 23 = .ok (.iaload, 1) := by decide +kernel
theorem dX10_greet_24 : decode cX10_greet 24 = .ok (.aload_n 0, 1) := by decide +kernel
theorem dX10_greet_25 : decode cX10_greet 25 = .ok (.getfield 7, 3) := by decide +kernel
theorem dX10_greet_28 : decode cX10_greet 28 = .ok (.iconst 0, 1) := by decide +kernel
theorem dX10_greet_29 : decode cX10_greet 29 = .ok (.iaload, 1) := by decide +kernel
theorem dX10_greet_30 : decode cX10_greet 30 = .ok (.if_icmp .ne 16, 3) := by decide +kernel
theorem dX10_greet_33 : decode cX10_greet 33 = .ok (.aload_n 0, 1) := by decide +kernel
theorem dX10_greet_34 : decode cX10_greet 34 = .ok (.getfield 7, 3) := by decide +kernel
theorem dX10_greet_37 : decode cX10_greet 37 = .ok (.iconst 1, 1) := by decide +kernel
theorem dX10_greet_38 : decode cX10_greet 38 = .ok (.iaload, 1) := by decide +kernel
theorem dX10_greet_39 : decode cX10_greet 39 = .ok (.iload_n 2, 1) := by decide +kernel
theorem dX10_greet_40 : decode cX10_greet 40 = .ok (.invokestatic 207, 3) := by decide +kernel
theorem dX10_greet_43 : decode cX10_greet 43 = .ok (.ifCond .ne 6, 3) := by decide +kernel
theorem dX10_greet_46 : decode cX10_greet 46 = .ok (.ldc 220, 2) := by decide +kernel
theorem dX10_greet_48 : decode cX10_greet 48 = .ok (.ireturn, 1) := by decide +kernel
theorem dX10_greet_49 : decode cX10_greet 49 = .ok (.aload_n 0, 1) := by decide +kernel
theorem dX10_greet_50 : decode cX10_greet 50 = .ok (.getfield 7, 3) := by decide +kernel
theorem dX10_greet_53 : decode cX10_greet 53 = .ok (.bipush 6, 2) := by decide +kernel
theorem dX10_greet_55 : decode cX10_greet 55 = .ok (.iaload, 1) := by decide +kernel
theorem dX10_greet_56 : decode cX10_greet 56 = .ok (.ldc 224, 2) := by decide +kernel
theorem dX10_greet_58 : decode cX10_greet 58 = .ok (.if_icmp .le 6, 3) := by decide +kernel
theorem dX10_greet_61 : decode cX10_greet 61 = .ok (.ldc 108, 2) := by decide +kernel
theorem dX10_greet_63 : decode cX10_greet 63 = .ok (.ireturn, 1) := by decide +kernel
theorem dX10_greet_64 : decode cX10_greet 64 = .ok (.aload_n 0, 1) := by decide +kernel
theorem dX10_greet_65 : decode cX10_greet 65 = .ok (.invokevirtual 225, 3) := by decide +kernel
theorem dX10_greet_68 : decode cX10_greet 68 = .ok (.aload_n 0, 1) := by decide +kernel
theorem dX10_greet_69 : decode cX10_greet 69 = .ok (.getfield 7, 3) := by decide +kernel
theorem dX10_greet_72 : decode cX10_greet 72 = .ok (.bipush 6, 2) := by decide +kernel
theorem dX10_greet_74 : decode cX10_greet 74 = .ok (.dup2, 1) := by decide +kernel
theorem dX10_greet_75 : decode cX10_greet 75 = .ok (.iaload, 1) := by decide +kernel
theorem dX10_greet_76 : decode cX10_greet 76 = .ok (.aload_n 0, 1) := by decide +kernel
theorem dX10_greet_77 : decode cX10_greet 77 = .ok (.getfield 32, 3) := by decide +kernel
theorem dX10_greet_80 : decode cX10_greet 80 = .ok (.iload_n 2, 1) := by decide +kernel
theorem dX10_greet_81 : decode cX10_greet 81 = .ok (.iaload, 1) := by decide +kernel
theorem dX10_greet_82 : decode cX10_greet 82 = .ok (.iadd, 1) := by decide +kernel
theorem dX10_greet_83 : decode cX10_greet 83 = .ok (.iastore, 1) := by decide +kernel
theorem dX10_greet_84 : decode cX10_greet 84 = .ok (.aload_n 0, 1) := by decide +kernel
theorem dX10_greet_85 : decode cX10_greet 85 = .ok (.iload_n 1, 1) := by decide +kernel
theorem dX10_greet_86 : decode cX10_greet 86 = .ok (.iload_n 2, 1) := by decide +kernel
theorem dX10_greet_87 : decode cX10_greet 87 = .ok (.invokevirtual 235, 3) := by decide +kernel
theorem dX10_greet_90 : decode cX10_greet 90 = .ok (.ireturn, 1) := by decide +kernel
theorem dX10_steam_0 : decode cX10_steam 0 = .ok (.aload_n 0, 1) := by decide +kernel
theorem dX10_steam_1 : decode cX10_steam 1 = .ok (.iload_n 1, 1) := by decide +kernel
theorem dX10_steam_2 : decode cX10_steam 2 = .ok (.invokevirtual 221, 3) := by decide +kernel
theorem dX10_steam_5 : decode cX10_steam 5 = .ok (.ifCond .ne 6, 3) := by decide +kernel
theorem dX10_steam_8 : decode cX10_steam 8 = .ok (.ldc 200, 2) := by decide +kernel
theorem dX10_steam_10 : decode cX10_steam 10 = .ok (.ireturn, 1) := by decide +kernel
theorem dX10_steam_11 : decode cX10_steam 11 = .ok (.aload_n 0, 1) := by decide +kernel
theorem dX10_steam_12 : decode cX10_steam 12 = .ok (.invokevirtual 225, 3) := by decide +kernel
theorem dX10_steam_15 : decode cX10_steam 15 = .ok (.aload_n 0, 1) := by decide +kernel
theorem dX10_steam_16 : decode cX10_steam 16 = .ok (.getfield 7, 3) := by decide +kernel
theorem dX10_steam_19 : decode cX10_steam 19 = .ok (.iconst 4, 1) := by decide +kernel
theorem dX10_steam_20 : decode cX10_steam 20 = .ok (.iaload, 1) := by decide +kernel
theorem dX10_steam_21 : decode cX10_steam 21 = .ok (.iload_n 1, 1) := by decide +kernel
theorem dX10_steam_22 : decode cX10_steam 22 = .ok (.ishr, 1) := by decide +kernel
theorem dX10_steam_23 : decode cX10_steam 23 = .ok (.iconst 1, 1) := by decide +kernel
theorem dX10_steam_24 : decode cX10_steam 24 = .ok (.iand, 1) := by decide +kernel
theorem dX10_steam_25 : decode cX10_steam 25 = .ok (.istore_n 3, 1) := by decide +kernel
theorem dX10_steam_26 : decode cX10_steam 26 = .ok (.aload_n 0, 1) := by decide +kernel
theorem dX10_steam_27 : decode cX10_steam 27 = .ok (.getfield 7, 3) := by decide +kernel
theorem dX10_steam_30 : decode cX10_steam 30 = .ok (.iconst 4, 1) := by decide +kernel
theorem dX10_steam_31 : decode cX10_steam 31 = .ok (.iload_n 2, 1) := by decide +kernel
theorem dX10_steam_32 : decode cX10_steam 32 = .ok (.ifCond .eq 16, 3) := by decide +kernel
theorem dX10_steam_35 : decode cX10_steam 35 = .ok (.aload_n 0, 1) := by decide +kernel
theorem dX10_steam_36 : decode cX10_steam 36 = .ok (.getfield 7, 3) := by decide +kernel
theorem dX10_steam_39 : decode cX10_steam 39 = .ok (.iconst 4, 1) := by decide +kernel
theorem dX10_steam_40 : decode cX10_steam 40 = .ok (.iaload, 1) := by decide +kernel
theorem dX10_steam_41 : decode cX10_steam 41 = .ok (.iconst 1, 1) := by decide +kernel
theorem dX10_steam_42 : decode cX10_steam 42 = .ok (.iload_n 1, 1) := by decide +kernel
theorem dX10_steam_43 : decode cX10_steam 43 = .ok (.ishl, 1) := by decide +kernel
theorem dX10_steam_44 : decode cX10_steam 44 = .ok (.ior, 1) := by decide +kernel
theorem dX10_steam_45 : decode cX10_steam 45 = .ok (.goto 15, 3) := by decide +kernel
theorem dX10_steam_48 : decode cX10_steam 48 = .ok (.aload_n 0, 1) := by decide +kernel
theorem dX10_steam_49 : decode cX10_steam 49 = .ok (.getfield 7, 3) := by decide +kernel
theorem dX10_steam_52 : decode cX10_steam 52 = .ok (.iconst 4, 1) := by decide +kernel
theorem dX10_steam_53 : decode cX10_steam 53 = .ok (.iaload, 1) := by decide +kernel
theorem dX10_steam_54 : decode cX10_steam 54 = .ok (.iconst 1, 1) := by decide +kernel
theorem dX10_steam_55 : decode cX10_steam 55 = .ok (.iload_n 1, 1) := by decide +kernel
theorem dX10_steam_56 : decode cX10_steam 56 = .ok (.ishl, 1) := by decide +kernel
theorem dX10_steam_57 : decode cX10_steam 57 = .ok (.iconst (-1), 1) := by decide +kernel
theorem dX10_steam_58 : decode cX10_steam 58 = .ok (.ixor, 1) := by decide +kernel
theorem dX10_steam_59 : decode cX10_steam 59 = .ok (.iand, 1) := by decide +kernel
theorem dX10_steam_60 : decode cX10_steam 60 = .ok (.iastore, 1) := by decide +kernel
theorem dX10_steam_61 : decode cX10_steam 61 = .ok (.iload_n 3, 1) := by decide +kernel
theorem dX10_steam_62 : decode cX10_steam 62 = .ok (.ireturn, 1) := by decide +kernel
theorem dX10_door_0 : decode cX10_door 0 = .ok (.aload_n 0, 1) := by decide +kernel
theorem dX10_door_1 : decode cX10_door 1 = .ok (.iload_n 1, 1) := by decide +kernel
theorem dX10_door_2 : decode cX10_door 2 = .ok (.invokevirtual 201, 3) := by decide +kernel
theorem dX10_door_5 : decode cX10_door 5 = .ok (.ifCond .ne 6, 3) := by decide +kernel
theorem dX10_door_8 : decode cX10_door 8 = .ok (.ldc 200, 2) := by decide +kernel
theorem dX10_door_10 : decode cX10_door 10 = .ok (.ireturn, 1) := by decide +kernel
theorem dX10_door_11 : decode cX10_door 11 = .ok (.aload_n 0, 1) := by decide +kernel
theorem dX10_door_12 : decode cX10_door 12 = .ok (.invokevirtual 225, 3) := by decide +kernel
theorem dX10_door_15 : decode cX10_door 15 = .ok (.aload_n 0, 1) := by decide +kernel
theorem dX10_door_16 : decode cX10_door 16 = .ok (.getfield 7, 3) := by decide +kernel
theorem dX10_door_19 : decode cX10_door 19 = .ok (.iconst 5, 1) := by decide +kernel
theorem dX10_door_20 : decode cX10_door 20 = .ok (.iaload, 1) := by decide +kernel
theorem dX10_door_21 : decode cX10_door 21 = .ok (.iload_n 1, 1) := by decide +kernel
theorem dX10_door_22 : decode cX10_door 22 = .ok (.ishr, 1) := by decide +kernel
theorem dX10_door_23 : decode cX10_door 23 = .ok (.iconst 1, 1) := by decide +kernel
theorem dX10_door_24 : decode cX10_door 24 = .ok (.iand, 1) := by decide +kernel
theorem dX10_door_25 : decode cX10_door 25 = .ok (.istore_n 3, 1) := by decide +kernel
theorem dX10_door_26 : decode cX10_door 26 = .ok (.aload_n 0, 1) := by decide +kernel
theorem dX10_door_27 : decode cX10_door 27 = .ok (.getfield 7, 3) := by decide +kernel
theorem dX10_door_30 : decode cX10_door 30 = .ok (.iconst 5, 1) := by decide +kernel
theorem dX10_door_31 : decode cX10_door 31 = .ok (.iload_n 2, 1) := by decide +kernel
theorem dX10_door_32 : decode cX10_door 32 = .ok (.ifCond .eq 16, 3) := by decide +kernel
theorem dX10_door_35 : decode cX10_door 35 = .ok (.aload_n 0, 1) := by decide +kernel
theorem dX10_door_36 : decode cX10_door 36 = .ok (.getfield 7, 3) := by decide +kernel
theorem dX10_door_39 : decode cX10_door 39 = .ok (.iconst 5, 1) := by decide +kernel
theorem dX10_door_40 : decode cX10_door 40 = .ok (.iaload, 1) := by decide +kernel
theorem dX10_door_41 : decode cX10_door 41 = .ok (.iconst 1, 1) := by decide +kernel
theorem dX10_door_42 : decode cX10_door 42 = .ok (.iload_n 1, 1) := by decide +kernel
theorem dX10_door_43 : decode cX10_door 43 = .ok (.ishl, 1) := by decide +kernel
theorem dX10_door_44 : decode cX10_door 44 = .ok (.ior, 1) := by decide +kernel
theorem dX10_door_45 : decode cX10_door 45 = .ok (.goto 15, 3) := by decide +kernel
theorem dX10_door_48 : decode cX10_door 48 = .ok (.aload_n 0, 1) := by decide +kernel
theorem dX10_door_49 : decode cX10_door 49 = .ok (.getfield 7, 3) := by decide +kernel
theorem dX10_door_52 : decode cX10_door 52 = .ok (.iconst 5, 1) := by decide +kernel
theorem dX10_door_53 : decode cX10_door 53 = .ok (.iaload, 1) := by decide +kernel
theorem dX10_door_54 : decode cX10_door 54 = .ok (.iconst 1, 1) := by decide +kernel
theorem dX10_door_55 : decode cX10_door 55 = .ok (.iload_n 1, 1) := by decide +kernel
theorem dX10_door_56 : decode cX10_door 56 = .ok (.ishl, 1) := by decide +kernel
theorem dX10_door_57 : decode cX10_door 57 = .ok (.iconst (-1), 1) := by decide +kernel
theorem dX10_door_58 : decode cX10_door 58 = .ok (.ixor, 1) := by decide +kernel
theorem dX10_door_59 : decode cX10_door 59 = .ok (.iand, 1) := by decide +kernel
theorem dX10_door_60 : decode cX10_door 60 = .ok (.iastore, 1) := by decide +kernel
theorem dX10_door_61 : decode cX10_door 61 = .ok (.iload_n 3, 1) := by decide +kernel
theorem dX10_door_62 : decode cX10_door 62 = .ok (.ireturn, 1) := by decide +kernel
theorem dX10_night_0 : decode cX10_night 0 = .ok (.aload_n 0, 1) := by decide +kernel
theorem dX10_night_1 : decode cX10_night 1 = .ok (.getfield 84, 3) := by decide +kernel
theorem dX10_night_4 : decode cX10_night 4 = .ok (.ifCond .ne 6, 3) := by decide +kernel
theorem dX10_night_7 : decode cX10_night 7 = .ok (.ldc 220, 2) := by decide +kernel
theorem dX10_night_9 : decode cX10_night 9 = .ok (.ireturn, 1) := by decide +kernel
theorem dX10_night_10 : decode cX10_night 10 = .ok (.aload_n 0, 1) := by decide +kernel
theorem dX10_night_11 : decode cX10_night 11 = .ok (.getfield 7, 3) := by decide +kernel
theorem dX10_night_14 : decode cX10_night 14 = .ok (.bipush 7, 2) := by decide +kernel
theorem dX10_night_16 : decode cX10_night 16 = .ok (.iaload, 1) := by decide +kernel
theorem dX10_night_17 : decode cX10_night 17 = .ok (.sipush 9000, 3) := by decide +kernel
theorem dX10_night_20 : decode cX10_night 20 = .ok (.if_icmp .le 6, 3) := by decide +kernel
theorem dX10_night_23 : decode cX10_night 23 = .ok (.ldc 108, 2) := by decide +kernel
theorem dX10_night_25 : decode cX10_night 25 = .ok (.ireturn, 1) := by decide +kernel
theorem dX10_night_26 : decode cX10_night 26 = .ok (.aload_n 0, 1) := by decide +kernel
theorem dX10_night_27 : decode cX10_night 27 = .ok (.invokevirtual 225, 3) := by decide +kernel
theorem dX10_night_30 : decode cX10_night 30 = .ok (.aload_n 0, 1) := by decide +kernel
theorem dX10_night_31 : decode cX10_night 31 = .ok (.getfield 7, 3) := by decide +kernel
theorem dX10_night_34 : decode cX10_night 34 = .ok (.iconst 2, 1) := by decide +kernel
theorem dX10_night_35 : decode cX10_night 35 = .ok (.iconst 0, 1) := by decide +kernel
theorem dX10_night_36 : decode cX10_night 36 = .ok (.iastore, 1) := by decide +kernel
theorem dX10_night_37 : decode cX10_night 37 = .ok (.aload_n 0, 1) := by decide +kernel
theorem dX10_night_38 : decode cX10_night 38 = .ok (.getfield 7, 3) := by decide +kernel
theorem dX10_night_41 : decode cX10_night 41 = .ok (.iconst 3, 1) := by decide +kernel
theorem dX10_night_42 : decode cX10_night 42 = .ok (.iconst 0, 1) := by decide +kernel
theorem dX10_night_43 : decode cX10_night 43 = .ok (.iastore, 1) := by decide +kernel
theorem dX10_night_44 : decode cX10_night 44 = .ok (.aload_n 0, 1) := by decide +kernel
theorem dX10_night_45 : decode cX10_night 45 = .ok (.getfield 7, 3) := by decide +kernel
theorem dX10_night_48 : decode cX10_night 48 = .ok (.iconst 4, 1) := by decide +kernel
theorem dX10_night_49 : decode cX10_night 49 = .ok (.iconst 0, 1) := by decide +kernel
theorem dX10_night_50 : decode cX10_night 50 = .ok (.iastore, 1) := by decide +kernel
theorem dX10_night_51 : decode cX10_night 51 = .ok (.aload_n 0, 1) := by decide +kernel
theorem dX10_night_52 : decode cX10_night 52 = .ok (.getfield 7, 3) := by decide +kernel
theorem dX10_night_55 : decode cX10_night 55 = .ok (.bipush 7, 2) := by decide +kernel
theorem dX10_night_57 : decode cX10_night 57 = .ok (.dup2, 1) := by decide +kernel
theorem dX10_night_58 : decode cX10_night 58 = .ok (.iaload, 1) := by decide +kernel
theorem dX10_night_59 : decode cX10_night 59 = .ok (.iconst 1, 1) := by decide +kernel
theorem dX10_night_60 : decode cX10_night 60 = .ok (.iadd, 1) := by decide +kernel
theorem dX10_night_61 : decode cX10_night 61 = .ok (.iastore, 1) := by decide +kernel
theorem dX10_night_62 : decode cX10_night 62 = .ok (.aload_n 0, 1) := by decide +kernel
theorem dX10_night_63 : decode cX10_night 63 = .ok (.getfield 7, 3) := by decide +kernel
theorem dX10_night_66 : decode cX10_night 66 = .ok (.bipush 7, 2) := by decide +kernel
theorem dX10_night_68 : decode cX10_night 68 = .ok (.iaload, 1) := by decide +kernel
theorem dX10_night_69 : decode cX10_night 69 = .ok (.ireturn, 1) := by decide +kernel
theorem dX10_envelope_0 : decode cX10_envelope 0 = .ok (.iload_n 1, 1) := by decide +kernel
theorem dX10_envelope_1 : decode cX10_envelope 1 = .ok (.invokestatic 232, 3) := by decide +kernel
theorem dX10_envelope_4 : decode cX10_envelope 4 = .ok (.ifCond .ne 6, 3) := by decide +kernel
theorem dX10_envelope_7 : decode cX10_envelope 7 = .ok (.ldc 200, 2) := by decide +kernel
theorem dX10_envelope_9 : decode cX10_envelope 9 = .ok (.ireturn, 1) := by decide +kernel
theorem dX10_envelope_10 : decode cX10_envelope 10 = .ok (.aload_n 0, 1) := by decide +kernel
theorem dX10_envelope_11 : decode cX10_envelope 11 = .ok (.invokevirtual 225, 3) := by decide +kernel
theorem dX10_envelope_14 : decode cX10_envelope 14 = .ok (.aload_n 0, 1) := by decide +kernel
theorem dX10_envelope_15 : decode cX10_envelope 15 = .ok (.getfield 7, 3) := by decide +kernel
theorem dX10_envelope_18 : decode cX10_envelope 18 = .ok (.iconst 1, 1) := by decide +kernel
theorem dX10_envelope_19 : decode cX10_envelope 19 = .ok (.dup2, 1) := by decide +kernel
theorem dX10_envelope_20 : decode cX10_envelope 20 = .ok (.iaload, 1) := by decide +kernel
theorem dX10_envelope_21 : decode cX10_envelope 21 = .ok (.iconst 1, 1) := by decide +kernel
theorem dX10_envelope_22 : decode cX10_envelope 22 = .ok (.iload_n 1, 1) := by decide +kernel
theorem dX10_envelope_23 : decode cX10_envelope 23 = .ok (.ishl, 1) := by decide +kernel
theorem dX10_envelope_24 : decode cX10_envelope 24 = .ok (.ior, 1) := by decide +kernel
theorem dX10_envelope_25 : decode cX10_envelope 25 = .ok (.iastore, 1) := by decide +kernel
theorem dX10_envelope_26 : decode cX10_envelope 26 = .ok (.aload_n 0, 1) := by decide +kernel
theorem dX10_envelope_27 : decode cX10_envelope 27 = .ok (.getfield 7, 3) := by decide +kernel
theorem dX10_envelope_30 : decode cX10_envelope 30 = .ok (.iconst 1, 1) := by decide +kernel
theorem dX10_envelope_31 : decode cX10_envelope 31 = .ok (.iaload, 1) := by decide +kernel
theorem dX10_envelope_32 : decode cX10_envelope 32 = .ok (.ireturn, 1) := by decide +kernel
theorem dX10_walk_0 : decode cX10_walk 0 = .ok (.aload_n 0, 1) := by decide +kernel
theorem dX10_walk_1 : decode cX10_walk 1 = .ok (.iload_n 1, 1) := by decide +kernel
theorem dX10_walk_2 : decode cX10_walk 2 = .ok (.invokevirtual 204, 3) := by decide +kernel
theorem dX10_walk_5 : decode cX10_walk 5 = .ok (.ifCond .eq 11, 3) := by decide +kernel
theorem dX10_walk_8 : decode cX10_walk 8 = .ok (.aload_n 0, 1) := by decide +kernel
theorem dX10_walk_9 : decode cX10_walk 9 = .ok (.iload_n 2, 1) := by decide +kernel
theorem dX10_walk_10 : decode cX10_walk 10 = .ok (.invokevirtual 221, 3) := by decide +kernel
theorem dX10_walk_13 : decode cX10_walk 13 = .ok (.ifCond .ne 6, 3) := by decide +kernel
theorem dX10_walk_16 : decode cX10_walk 16 = .ok (.ldc 200, 2) := by decide +kernel
theorem dX10_walk_18 : decode cX10_walk 18 = .ok (.ireturn, 1) := by decide +kernel
theorem dX10_walk_19 : decode cX10_walk 19 = .ok (.aload_n 0, 1) := by decide +kernel
theorem dX10_walk_20 : decode cX10_walk 20 = .ok (.invokevirtual 225, 3) := by decide +kernel
theorem dX10_walk_23 : decode cX10_walk 23 = .ok (.aload_n 0, 1) := by decide +kernel
theorem dX10_walk_24 : decode cX10_walk 24 = .ok (.getfield 7, 3) := by decide +kernel
theorem dX10_walk_27 : decode cX10_walk 27 = .ok (.bipush 29, 2) := by decide +kernel
theorem dX10_walk_29 : decode cX10_walk 29 = .ok (.iload_n 1, 1) := by decide +kernel
theorem dX10_walk_30 : decode cX10_walk 30 = .ok (.iadd, 1) := by decide +kernel
theorem dX10_walk_31 : decode cX10_walk 31 = .ok (.iaload, 1) := by decide +kernel
theorem dX10_walk_32 : decode cX10_walk 32 = .ok (.istore_n 3, 1) := by decide +kernel
theorem dX10_walk_33 : decode cX10_walk 33 = .ok (.aload_n 0, 1) := by decide +kernel
theorem dX10_walk_34 : decode cX10_walk 34 = .ok (.getfield 7, 3) := by decide +kernel
theorem dX10_walk_37 : decode cX10_walk 37 = .ok (.bipush 29, 2) := by decide +kernel
theorem dX10_walk_39 : decode cX10_walk 39 = .ok (.iload_n 1, 1) := by decide +kernel
theorem dX10_walk_40 : decode cX10_walk 40 = .ok (.iadd, 1) := by decide +kernel
theorem dX10_walk_41 : decode cX10_walk 41 = .ok (.iload_n 2, 1) := by decide +kernel
theorem dX10_walk_42 : decode cX10_walk 42 = .ok (.iastore, 1) := by decide +kernel
theorem dX10_walk_43 : decode cX10_walk 43 = .ok (.iload_n 3, 1) := by decide +kernel
theorem dX10_walk_44 : decode cX10_walk 44 = .ok (.ireturn, 1) := by decide +kernel
theorem dX10_draw_0 : decode cX10_draw 0 = .ok (.aload_n 0, 1) := by decide +kernel
theorem dX10_draw_1 : decode cX10_draw 1 = .ok (.getfield 7, 3) := by decide +kernel
theorem dX10_draw_4 : decode cX10_draw 4 = .ok (.bipush 34, 2) := by decide +kernel
theorem dX10_draw_6 : decode cX10_draw 6 = .ok (.aload_n 0, 1) := by decide +kernel
theorem dX10_draw_7 : decode cX10_draw 7 = .ok (.getfield 7, 3) := by decide +kernel
theorem dX10_draw_10 : decode cX10_draw 10 = .ok (.bipush 34, 2) := by decide +kernel
theorem dX10_draw_12 : decode cX10_draw 12 = .ok (.iaload, 1) := by decide +kernel
theorem dX10_draw_13 : decode cX10_draw 13 = .ok (.i2l, 1) := by decide +kernel
theorem dX10_draw_14 : decode cX10_draw 14 = .ok (.ldc2_w 239, 3) := by decide +kernel
theorem dX10_draw_17 : decode cX10_draw 17 = .ok (.lmul, 1) := by decide +kernel
theorem dX10_draw_18 : decode cX10_draw 18 = .ok (.ldc2_w 241, 3) := by decide +kernel
theorem dX10_draw_21 : decode cX10_draw 21 = .ok (.ladd, 1) := by decide +kernel
theorem dX10_draw_22 : decode cX10_draw 22 = .ok (.ldc2_w 243, 3) := by decide +kernel
theorem dX10_draw_25 : decode cX10_draw 25 = .ok (.lrem, 1) := by decide +kernel
theorem dX10_draw_26 : decode cX10_draw 26 = .ok (.l2i, 1) := by decide +kernel
theorem dX10_draw_27 : decode cX10_draw 27 = .ok (.iastore, 1) := by decide +kernel
theorem dX10_draw_28 : decode cX10_draw 28 = .ok (.aload_n 0, 1) := by decide +kernel
theorem dX10_draw_29 : decode cX10_draw 29 = .ok (.getfield 7, 3) := by decide +kernel
theorem dX10_draw_32 : decode cX10_draw 32 = .ok (.bipush 34, 2) := by decide +kernel
theorem dX10_draw_34 : decode cX10_draw 34 = .ok (.iaload, 1) := by decide +kernel
theorem dX10_draw_35 : decode cX10_draw 35 = .ok (.ldc 245, 2) := by decide +kernel
theorem dX10_draw_37 : decode cX10_draw 37 = .ok (.idiv, 1) := by decide +kernel
theorem dX10_draw_38 : decode cX10_draw 38 = .ok (.iload_n 1, 1) := by decide +kernel
theorem dX10_draw_39 : decode cX10_draw 39 = .ok (.irem, 1) := by decide +kernel
theorem dX10_draw_40 : decode cX10_draw 40 = .ok (.ireturn, 1) := by decide +kernel
theorem dX10_drift_0 : decode cX10_drift 0 = .ok (.iload_n 1, 1) := by decide +kernel
theorem dX10_drift_1 : decode cX10_drift 1 = .ok (.i2l, 1) := by decide +kernel
theorem dX10_drift_2 : decode cX10_drift 2 = .ok (.lconst 1, 1) := by decide +kernel
theorem dX10_drift_3 : decode cX10_drift 3 = .ok (.ldc2_w 246, 3) := by decide +kernel
theorem dX10_drift_6 : decode cX10_drift 6 = .ok (.invokestatic 87, 3) := by decide +kernel
theorem dX10_drift_9 : decode cX10_drift 9 = .ok (.ifCond .ne 6, 3) := by decide +kernel
theorem dX10_drift_12 : decode cX10_drift 12 = .ok (.ldc 104, 2) := by decide +kernel
theorem dX10_drift_14 : decode cX10_drift 14 = .ok (.ireturn, 1) := by decide +kernel
theorem dX10_drift_15 : decode cX10_drift 15 = .ok (.aload_n 0, 1) := by decide +kernel
theorem dX10_drift_16 : decode cX10_drift 16 = .ok (.getfield 84, 3) := by decide +kernel
theorem dX10_drift_19 : decode cX10_drift 19 = .ok (.ifCond .ne 6, 3) := by decide +kernel
theorem dX10_drift_22 : decode cX10_drift 22 = .ok (.ldc 220, 2) := by decide +kernel
theorem dX10_drift_24 : decode cX10_drift 24 = .ok (.ireturn, 1) := by decide +kernel
theorem dX10_drift_25 : decode cX10_drift 25 = .ok (.aload_n 0, 1) := by decide +kernel
theorem dX10_drift_26 : decode cX10_drift 26 = .ok (.invokevirtual 225, 3) := by decide +kernel
theorem dX10_drift_29 : decode cX10_drift 29 = .ok (.iconst 0, 1) := by decide +kernel
theorem dX10_drift_30 : decode cX10_drift 30 = .ok (.istore_n 2, 1) := by decide +kernel
theorem dX10_drift_31 : decode cX10_drift 31 = .ok (.iload_n 2, 1) := by decide +kernel
theorem dX10_drift_32 : decode cX10_drift 32 = .ok (.iload_n 1, 1) := by decide +kernel
theorem dX10_drift_33 : decode cX10_drift 33 = .ok (.if_icmp .ge 123, 3) := by decide +kernel
theorem dX10_drift_36 : decode cX10_drift 36 = .ok (.aload_n 0, 1) := by decide +kernel
theorem dX10_drift_37 : decode cX10_drift 37 = .ok (.iconst 3, 1) := by decide +kernel
theorem dX10_drift_38 : decode cX10_drift 38 = .ok (.invokevirtual 248, 3) := by decide +kernel
theorem dX10_drift_41 : decode cX10_drift 41 = .ok (.istore_n 3, 1) := by decide +kernel
theorem dX10_drift_42 : decode cX10_drift 42 = .ok (.iload_n 3, 1) := by decide +kernel
theorem dX10_drift_43 : decode cX10_drift 43 = .ok (.ifCond .ne 25, 3) := by decide +kernel
theorem dX10_drift_46 : decode cX10_drift 46 = .ok (.aload_n 0, 1) := by decide +kernel
theorem dX10_drift_47 : decode cX10_drift 47 = .ok (.getfield 7, 3) := by decide +kernel
theorem dX10_drift_50 : decode cX10_drift 50 = .ok (.iconst 4, 1) := by decide +kernel
theorem dX10_drift_51 : decode cX10_drift 51 = .ok (.dup2, 1) := by decide +kernel
theorem dX10_drift_52 : decode cX10_drift 52 = .ok (.iaload, 1) := by decide +kernel
theorem dX10_drift_53 : decode cX10_drift 53 = .ok (.iconst 1, 1) := by decide +kernel
theorem dX10_drift_54 : decode cX10_drift 54 = .ok (.aload_n 0, 1) := by decide +kernel
theorem dX10_drift_55 : decode cX10_drift 55 = .ok (.aload_n 0, 1) := by decide +kernel
theorem dX10_drift_56 : decode cX10_drift 56 = .ok (.getfield 84, 3) := by decide +kernel
theorem dX10_drift_59 : decode cX10_drift 59 = .ok (.invokevirtual 248, 3) := by decide +kernel
theorem dX10_drift_62 : decode cX10_drift 62 = .ok (.ishl, 1) := by decide +kernel
theorem dX10_drift_63 : decode cX10_drift 63 = .ok (.ior, 1) := by decide +kernel
theorem dX10_drift_64 : decode cX10_drift 64 = .ok (.iastore, 1) := by decide +kernel
theorem dX10_drift_65 : decode cX10_drift 65 = .ok (.goto 85, 3) := by decide +kernel
theorem dX10_drift_68 : decode cX10_drift 68 = .ok (.iload_n 3, 1) := by decide +kernel
theorem dX10_drift_69 : decode cX10_drift 69 = .ok (.iconst 1, 1) := by decide +kernel
theorem dX10_drift_70 : decode cX10_drift 70 = .ok (.if_icmp .ne 41, 3) := by decide +kernel
theorem dX10_drift_73 : decode cX10_drift 73 = .ok (.aload_n 0, 1) := by decide +kernel
theorem dX10_drift_74 : decode cX10_drift 74 = .ok (.getfield 97, 3) := by decide +kernel
theorem dX10_drift_77 : decode cX10_drift 77 = .ok (.ifCond .le 34, 3) := by decide +kernel
theorem dX10_drift_80 : decode cX10_drift 80 = .ok (.aload_n 0, 1) := by decide +kernel
theorem dX10_drift_81 : decode cX10_drift 81 = .ok (.aload_n 0, 1) := by decide +kernel
theorem dX10_drift_82 : decode cX10_drift 82 = .ok (.getfield 97, 3) := by decide +kernel
theorem dX10_drift_85 : decode cX10_drift 85 = .ok (.invokevirtual 248, 3) := by decide +kernel
theorem dX10_drift_88 : decode cX10_drift 88 = .ok (.istore 4, 2) := by decide +kernel
theorem dX10_drift_90 : decode cX10_drift 90 = .ok (.aload_n 0, 1) := by decide +kernel
theorem dX10_drift_91 : decode cX10_drift 91 = .ok (.getfield 7, 3) := by decide +kernel
theorem dX10_drift_94 : decode cX10_drift 94 = .ok (.bipush 29, 2) := by decide +kernel
theorem dX10_drift_96 : decode cX10_drift 96 = .ok (.iload 4, 2) := by decide +kernel
theorem dX10_drift_98 : decode cX10_drift 98 = .ok (.iadd, 1) := by decide +kernel
theorem dX10_drift_99 : decode cX10_drift 99 = .ok (.aload_n 0, 1) := by decide +kernel
theorem dX10_drift_100 : decode cX10_drift 100 = .ok (.aload_n 0, 1) := by decide +kernel
theorem dX10_drift_101 : decode cX10_drift 101 = .ok (.getfield 84, 3) := by decide +kernel
theorem dX10_drift_104 : decode cX10_drift 104 = .ok (.invokevirtual 248, 3) := by decide +kernel
theorem dX10_drift_107 : decode cX10_drift 107 = .ok (.iastore, 1) := by decide +kernel
theorem dX10_drift_108 : decode cX10_drift 108 = .ok (.goto 42, 3) := by decide +kernel
theorem dX10_drift_111 : decode cX10_drift 111 = .ok (.iload_n 3, 1) := by decide +kernel
theorem dX10_drift_112 : decode cX10_drift 112 = .ok (.iconst 2, 1) := by decide +kernel
theorem dX10_drift_113 : decode cX10_drift 113 = .ok (.if_icmp .ne 37, 3) := by decide +kernel
theorem dX10_drift_116 : decode cX10_drift 116 = .ok (.aload_n 0, 1) := by decide +kernel
theorem dX10_drift_117 : decode cX10_drift 117 = .ok (.getfield 94, 3) := by decide +kernel
theorem dX10_drift_120 : decode cX10_drift 120 = .ok (.ifCond .le 30, 3) := by decide +kernel
theorem dX10_drift_123 : decode cX10_drift 123 = .ok (.aload_n 0, 1) := by decide +kernel
theorem dX10_drift_124 : decode cX10_drift 124 = .ok (.aload_n 0, 1) := by decide +kernel
theorem dX10_drift_125 : decode cX10_drift 125 = .ok (.getfield 94, 3) := by decide +kernel
theorem dX10_drift_128 : decode cX10_drift 128 = .ok (.invokevirtual 248, 3) := by decide +kernel
theorem dX10_drift_131 : decode cX10_drift 131 = .ok (.istore 4, 2) := by decide +kernel
theorem dX10_drift_133 : decode cX10_drift 133 = .ok (.aload_n 0, 1) := by decide +kernel
theorem dX10_drift_134 : decode cX10_drift 134 = .ok (.iload 4, 2) := by decide +kernel
theorem dX10_drift_136 : decode cX10_drift 136 = .ok (.aload_n 0, 1) := by decide +kernel
theorem dX10_drift_137 : decode cX10_drift 137 = .ok (.getfield 7, 3) := by decide +kernel
theorem dX10_drift_140 : decode cX10_drift 140 = .ok (.bipush 8, 2) := by decide +kernel
theorem dX10_drift_142 : decode cX10_drift 142 = .ok (.iload 4, 2) := by decide +kernel
theorem dX10_drift_144 : decode cX10_drift 144 = .ok (.iadd, 1) := by decide +kernel
theorem dX10_drift_145 : decode cX10_drift 145 = .ok (.iaload, 1) := by decide +kernel
theorem dX10_drift_146 : decode cX10_drift 146 = .ok (.invokevirtual 235, 3) := by decide +kernel
theorem dX10_drift_149 : decode cX10_drift 149 = .ok (.pop, 1) := by decide +kernel
theorem dX10_drift_150 : decode cX10_drift 150 = .ok (.iinc 2 1, 3) := by decide +kernel
theorem dX10_drift_153 : decode cX10_drift 153 = .ok (.goto (-122), 3) := by decide +kernel
theorem dX10_drift_156 : decode cX10_drift 156 = .ok (.aload_n 0, 1) := by decide +kernel
theorem dX10_drift_157 : decode cX10_drift 157 = .ok (.getfield 7, 3) := by decide +kernel
theorem dX10_drift_160 : decode cX10_drift 160 = .ok (.iconst 2, 1) := by decide +kernel
theorem dX10_drift_161 : decode cX10_drift 161 = .ok (.iaload, 1) := by decide +kernel
theorem dX10_drift_162 : decode cX10_drift 162 = .ok (.ireturn, 1) := by decide +kernel
theorem dX10_layWays_0 : decode cX10_layWays 0 = .ok (.iconst 0, 1) := by decide +kernel
theorem dX10_layWays_1 : decode cX10_layWays 1 = .ok (.istore_n 1, 1) := by decide +kernel
theorem dX10_layWays_2 : decode cX10_layWays 2 = .ok (.iload_n 1, 1) := by decide +kernel
theorem dX10_layWays_3 : decode cX10_layWays 3 = .ok (.aload_n 0, 1) := by decide +kernel
theorem dX10_layWays_4 : decode cX10_layWays 4 = .ok (.getfield 84, 3) := by decide +kernel
theorem dX10_layWays_7 : decode cX10_layWays 7 = .ok (.if_icmp .ge 60, 3) := by decide +kernel
theorem dX10_layWays_10 : decode cX10_layWays 10 = .ok (.iconst 0, 1) := by decide +kernel
theorem dX10_layWays_11 : decode cX10_layWays 11 = .ok (.istore_n 2, 1) := by decide +kernel
theorem dX10_layWays_12 : decode cX10_layWays 12 = .ok (.iload_n 2, 1) := by decide +kernel
theorem dX10_layWays_13 : decode cX10_layWays 13 = .ok (.aload_n 0, 1) := by decide +kernel
theorem dX10_layWays_14 : decode cX10_layWays 14 = .ok (.getfield 84, 3) := by decide +kernel
theorem dX10_layWays_17 : decode cX10_layWays 17 = .ok (.if_icmp .ge 44, 3) := by decide +kernel
theorem dX10_layWays_20 : decode cX10_layWays 20 = .ok (.aload_n 0, 1) := by decide +kernel
theorem dX10_layWays_21 : decode cX10_layWays 21 = .ok (.getfield 63, 3) := by decide +kernel
theorem dX10_layWays_24 : decode cX10_layWays 24 = .ok (.bipush 7, 2) := by decide +kernel
theorem dX10_layWays_26 : decode cX10_layWays 26 = .ok (.iload_n 1, 1) := by decide +kernel
theorem dX10_layWays_27 : decode cX10_layWays 27 = .ok (.imul, 1) := by decide +kernel
theorem dX10_layWays_28 : decode cX10_layWays 28 = .ok (.iload_n 2, 1) := by decide +kernel
theorem dX10_layWays_29 : decode cX10_layWays 29 = .ok (.iadd, 1) := by decide +kernel
theorem dX10_layWays_30 : decode cX10_layWays 30 = .ok (.iload_n 1, 1) := by decide +kernel
theorem dX10_layWays_31 : decode cX10_layWays 31 = .ok (.iload_n 2, 1) := by decide +kernel
theorem dX10_layWays_32 : decode cX10_layWays 32 = .ok (.if_icmp .ne 7, 3) := by decide +kernel
theorem dX10_layWays_35 : decode cX10_layWays 35 = .ok (.iconst 0, 1) := by decide +kernel
theorem dX10_layWays_36 : decode cX10_layWays 36 = .ok (.goto 18, 3) := by decide +kernel
theorem dX10_layWays_39 : decode cX10_layWays 39 = .ok (.aload_n 0, 1) := by decide +kernel
theorem dX10_layWays_40 : decode cX10_layWays 40 = .ok (.iload_n 1, 1) := by decide +kernel
theorem dX10_layWays_41 : decode cX10_layWays 41 = .ok (.iload_n 2, 1) := by decide +kernel
theorem dX10_layWays_42 : decode cX10_layWays 42 = .ok (.invokevirtual 210, 3) := by decide +kernel
theorem dX10_layWays_45 : decode cX10_layWays 45 = .ok (.ifCond .eq 7, 3) := by decide +kernel
theorem dX10_layWays_48 : decode cX10_layWays 48 = .ok (.iconst 1, 1) := by decide +kernel
theorem dX10_layWays_49 : decode cX10_layWays 49 = .ok (.goto 5, 3) := by decide +kernel
theorem dX10_layWays_52 : decode cX10_layWays 52 = .ok (.ldc 251, 2) := by decide +kernel
theorem dX10_layWays_54 : decode cX10_layWays 54 = .ok (.iastore, 1) := by decide +kernel
theorem dX10_layWays_55 : decode cX10_layWays 55 = .ok (.iinc 2 1, 3) := by decide +kernel
theorem dX10_layWays_58 : decode cX10_layWays 58 = .ok (.goto (-46), 3) := by decide +kernel
theorem dX10_layWays_61 : decode cX10_layWays 61 = .ok (.iinc 1 1, 3) := by decide +kernel
theorem dX10_layWays_64 : decode cX10_layWays 64 = .ok (.goto (-62), 3) := by decide +kernel
theorem dX10_layWays_67 : decode cX10_layWays 67 = .ok (.iconst 0, 1) := by decide +kernel
theorem dX10_layWays_68 : decode cX10_layWays 68 = .ok (.istore_n 1, 1) := by decide +kernel
theorem dX10_layWays_69 : decode cX10_layWays 69 = .ok (.iload_n 1, 1) := by decide +kernel
theorem dX10_layWays_70 : decode cX10_layWays 70 = .ok (.aload_n 0, 1) := by decide +kernel
theorem dX10_layWays_71 : decode cX10_layWays 71 = .ok (.getfield 84, 3) := by decide +kernel
theorem dX10_layWays_74 : decode cX10_layWays 74 = .ok (.if_icmp .ge 109, 3) := by decide +kernel
theorem dX10_layWays_77 : decode cX10_layWays 77 = .ok (.iconst 0, 1) := by decide +kernel
theorem dX10_layWays_78 : decode cX10_layWays 78 = .ok (.istore_n 2, 1) := by decide +kernel
theorem dX10_layWays_79 : decode cX10_layWays 79 = .ok (.iload_n 2, 1) := by decide +kernel
theorem dX10_layWays_80 : decode cX10_layWays 80 = .ok (.aload_n 0, 1) := by decide +kernel
theorem dX10_layWays_81 : decode cX10_layWays 81 = .ok (.getfield 84, 3) := by decide +kernel
theorem dX10_layWays_84 : decode cX10_layWays 84 = .ok (.if_icmp .ge 93, 3) := by decide +kernel
theorem dX10_layWays_87 : decode cX10_layWays 87 = .ok (.iconst 0, 1) := by decide +kernel
theorem dX10_layWays_88 : decode cX10_layWays 88 = .ok (.istore_n 3, 1) := by decide +kernel
theorem dX10_layWays_89 : decode cX10_layWays 89 = .ok (.iload_n 3, 1) := by decide +kernel
theorem dX10_layWays_90 : decode cX10_layWays 90 = .ok (.aload_n 0, 1) := by decide +kernel
theorem dX10_layWays_91 : decode cX10_layWays 91 = .ok (.getfield 84, 3) := by decide +kernel
theorem dX10_layWays_94 : decode cX10_layWays 94 = .ok (.if_icmp .ge 77, 3) := by decide +kernel
theorem dX10_layWays_97 : decode cX10_layWays 97 = .ok (.aload_n 0, 1) := by decide +kernel
theorem dX10_layWays_98 : decode cX10_layWays 98 = .ok (.getfield 63, 3) := by decide +kernel
theorem dX10_layWays_101 : decode cX10_layWays 101 = .ok (.bipush 7, 2) := by decide +kernel
theorem dX10_layWays_103 : decode cX10_layWays 103 = .ok (.iload_n 2, 1) := by decide +kernel
theorem dX10_layWays_104 : decode cX10_layWays 104 = .ok (.imul, 1) := by decide +kernel
theorem dX10_layWays_105 : decode cX10_layWays 105 = .ok (.iload_n 1, 1) := by decide +kernel
theorem dX10_layWays_106 : decode cX10_layWays 106 = .ok (.iadd, 1) := by decide +kernel
theorem dX10_layWays_107 : decode cX10_layWays 107 = .ok (.iaload, 1) := by decide +kernel
theorem dX10_layWays_108 : decode cX10_layWays 108 = .ok (.aload_n 0, 1) := by decide +kernel
theorem dX10_layWays_109 : decode cX10_layWays 109 = .ok (.getfield 63, 3) := by decide +kernel
theorem dX10_layWays_112 : decode cX10_layWays 112 = .ok (.bipush 7, 2) := by decide +kernel
theorem dX10_layWays_114 : decode cX10_layWays 114 = .ok (.iload_n 1, 1) := by decide +kernel
theorem dX10_layWays_115 : decode cX10_layWays 115 = .ok (.imul, 1) := by decide +kernel
theorem dX10_layWays_116 : decode cX10_layWays 116 = .ok (.iload_n 3, 1) := by decide +kernel
theorem dX10_layWays_117 : decode cX10_layWays 117 = .ok (.iadd, 1) := by decide +kernel
theorem dX10_layWays_118 : decode cX10_layWays 118 = .ok (.iaload, 1) := by decide +kernel
theorem dX10_layWays_119 : decode cX10_layWays 119 = .ok (.iadd, 1) := by decide +kernel
theorem dX10_layWays_120 : decode cX10_layWays 120 = .ok (.istore 4, 2) := by decide +kernel
theorem dX10_layWays_122 : decode cX10_layWays 122 = .ok (.aload_n 0, 1) := by decide +kernel
theorem dX10_layWays_123 : decode cX10_layWays 123 = .ok (.getfield 63, 3) := by decide +kernel
theorem dX10_layWays_126 : decode cX10_layWays 126 = .ok (.bipush 7, 2) := by decide +kernel
theorem dX10_layWays_128 : decode cX10_layWays 128 = .ok (.iload_n 2, 1) := by decide +kernel
theorem dX10_layWays_129 : decode cX10_layWays 129 = .ok (.imul, 1) := by decide +kernel
theorem dX10_layWays_130 : decode cX10_layWays 130 = .ok (.iload_n 3, 1) := by decide +kernel
theorem dX10_layWays_131 : decode cX10_layWays 131 = .ok (.iadd, 1) := by decide +kernel
theorem dX10_layWays_132 : decode cX10_layWays 132 = .ok (.iload 4, 2) := by decide +kernel
theorem dX10_layWays_134 : decode cX10_layWays 134 = .ok (.aload_n 0, 1) := by decide +kernel
theorem dX10_layWays_135 : decode cX10_layWays 135 = .ok (.getfield 63, 3) := by decide +kernel
theorem dX10_layWays_138 : decode cX10_layWays 138 = .ok (.bipush 7, 2) := by decide +kernel
theorem dX10_layWays_140 : decode cX10_layWays 140 = .ok (.iload_n 2, 1) := by decide +kernel
theorem dX10_layWays_141 : decode cX10_layWays 141 = .ok (.imul, 1) := by decide +kernel
theorem dX10_layWays_142 : decode cX10_layWays 142 = .ok (.iload_n 3, 1) := by decide +kernel
theorem dX10_layWays_143 : decode cX10_layWays 143 = .ok (.iadd, 1) := by decide +kernel
theorem dX10_layWays_144 : decode cX10_layWays 144 = .ok (.iaload, 1) := by decide +kernel
theorem dX10_layWays_145 : decode cX10_layWays 145 = .ok (.if_icmp .ge 8, 3) := by decide +kernel
theorem dX10_layWays_148 : decode cX10_layWays 148 = .ok (.iload 4, 2) := by decide +kernel
theorem dX10_layWays_150 : decode cX10_layWays 150 = .ok (.goto 14, 3) := by decide +kernel
theorem dX10_layWays_153 : decode cX10_layWays 153 = .ok (.aload_n 0, 1) := by decide +kernel
theorem dX10_layWays_154 : decode cX10_layWays 154 = .ok (.getfield 63, 3) := by decide +kernel
theorem dX10_layWays_157 : decode cX10_layWays 157 = .ok (.bipush 7, 2) := by decide +kernel
theorem dX10_layWays_159 : decode cX10_layWays 159 = .ok (.iload_n 2, 1) := by decide +kernel
theorem dX10_layWays_160 : decode cX10_layWays 160 = .ok (.imul, 1) := by decide +kernel
theorem dX10_layWays_161 : decode cX10_layWays 161 = .ok (.iload_n 3, 1) := by decide +kernel
theorem dX10_layWays_162 : decode cX10_layWays 162 = .ok (.iadd, 1) := by decide +kernel
theorem dX10_layWays_163 : decode cX10_layWays 163 = .ok (.iaload, 1) := by decide +kernel
theorem dX10_layWays_164 : decode cX10_layWays 164 = .ok (.iastore, 1) := by decide +kernel
theorem dX10_layWays_165 : decode cX10_layWays 165 = .ok (.iinc 3 1, 3) := by decide +kernel
theorem dX10_layWays_168 : decode cX10_layWays 168 = .ok (.goto (-79), 3) := by decide +kernel
theorem dX10_layWays_171 : decode cX10_layWays 171 = .ok (.iinc 2 1, 3) := by decide +kernel
theorem dX10_layWays_174 : decode cX10_layWays 174 = .ok (.goto (-95), 3) := by decide +kernel
theorem dX10_layWays_177 : decode cX10_layWays 177 = .ok (.iinc 1 1, 3) := by decide +kernel
theorem dX10_layWays_180 : decode cX10_layWays 180 = .ok (.goto (-111), 3) := by decide +kernel
theorem dX10_layWays_183 : decode cX10_layWays 183 = .ok (.return_, 1) := by decide +kernel
theorem dX10_canBeLit_0 : decode cX10_canBeLit 0 = .ok (.aload_n 0, 1) := by decide +kernel
theorem dX10_canBeLit_1 : decode cX10_canBeLit 1 = .ok (.getfield 29, 3) := by decide +kernel
theorem dX10_canBeLit_4 : decode cX10_canBeLit 4 = .ok (.iload_n 1, 1) := by decide +kernel
theorem dX10_canBeLit_5 : decode cX10_canBeLit 5 = .ok (.iaload, 1) := by decide +kernel
theorem dX10_canBeLit_6 : decode cX10_canBeLit 6 = .ok (.iconst (-1), 1) := by decide +kernel
theorem dX10_canBeLit_7 : decode cX10_canBeLit 7 = .ok (.if_icmp .eq 17, 3) := by decide +kernel
theorem dX10_canBeLit_10 : decode cX10_canBeLit 10 = .ok (.aload_n 0, 1) := by decide +kernel
theorem dX10_canBeLit_11 : decode cX10_canBeLit 11 = .ok (.getfield 29, 3) := by decide +kernel
theorem dX10_canBeLit_14 : decode cX10_canBeLit 14 = .ok (.iload_n 1, 1) := by decide +kernel
theorem dX10_canBeLit_15 : decode cX10_canBeLit 15 = .ok (.iaload, 1) := by decide +kernel
theorem dX10_canBeLit_16 : decode cX10_canBeLit 16 = .ok (.iload_n 1, 1) := by decide +kernel
theorem dX10_canBeLit_17 : decode cX10_canBeLit 17 = .ok (.if_icmp .ge 7, 3) := by decide +kernel
theorem dX10_canBeLit_20 : decode cX10_canBeLit 20 = .ok (.iconst 1, 1) := by decide +kernel
theorem dX10_canBeLit_21 : decode cX10_canBeLit 21 = .ok (.goto 4, 3) := by decide +kernel
theorem dX10_canBeLit_24 : decode cX10_canBeLit 24 = .ok (.iconst 0, 1) := by decide +kernel
theorem dX10_canBeLit_25 : decode cX10_canBeLit 25 = .ok (.istore_n 3, 1) := by decide +kernel
theorem dX10_canBeLit_26 : decode cX10_canBeLit 26 = .ok (.aload_n 0, 1) := by decide +kernel
theorem dX10_canBeLit_27 : decode cX10_canBeLit 27 = .ok (.getfield 7, 3) := by decide +kernel
theorem dX10_canBeLit_30 : decode cX10_canBeLit 30 = .ok (.iconst 1, 1) := by decide +kernel
theorem dX10_canBeLit_31 : decode cX10_canBeLit 31 = .ok (.iaload, 1) := by decide +kernel
theorem dX10_canBeLit_32 : decode cX10_canBeLit 32 = .ok (.aload_n 0, 1) := by decide +kernel
theorem dX10_canBeLit_33 : decode cX10_canBeLit 33 = .ok (.getfield 7, 3) := by decide +kernel
theorem dX10_canBeLit_36 : decode cX10_canBeLit 36 = .ok (.bipush 8, 2) := by decide +kernel
theorem dX10_canBeLit_38 : decode cX10_canBeLit 38 = .ok (.iload_n 1, 1) := by decide +kernel
theorem dX10_canBeLit_39 : decode cX10_canBeLit 39 = .ok (.iadd, 1) := by decide +kernel
theorem dX10_canBeLit_40 : decode cX10_canBeLit 40 = .ok (.iaload, 1) := by decide +kernel
theorem dX10_canBeLit_41 : decode cX10_canBeLit 41 = .ok (.invokestatic 207, 3) := by decide +kernel
theorem dX10_canBeLit_44 : decode cX10_canBeLit 44 = .ok (.ifCond .eq 37, 3) := by decide +kernel
theorem dX10_canBeLit_47 : decode cX10_canBeLit 47 = .ok (.aload_n 0, 1) := by decide +kernel
theorem dX10_canBeLit_48 : decode cX10_canBeLit 48 = .ok (.getfield 7, 3) := by decide +kernel
theorem dX10_canBeLit_51 : decode cX10_canBeLit 51 = .ok (.iconst 3, 1) := by decide +kernel
theorem dX10_canBeLit_52 : decode cX10_canBeLit 52 = .ok (.iaload, 1) := by decide +kernel
theorem dX10_canBeLit_53 : decode cX10_canBeLit 53 = .ok (.iload_n 1, 1) := by decide +kernel
theorem dX10_canBeLit_54 : decode cX10_canBeLit 54 = .ok (.invokestatic 207, 3) := by decide +kernel
theorem dX10_canBeLit_57 : decode cX10_canBeLit 57 = .ok (.ifCond .ne 24, 3) := by decide +kernel
theorem dX10_canBeLit_60 : decode cX10_canBeLit 60 = .ok (.iload_n 3, 1) := by decide +kernel
theorem dX10_canBeLit_61 : decode cX10_canBeLit 61 = .ok (.ifCond .eq 16, 3) := by decide +kernel
theorem dX10_canBeLit_64 : decode cX10_canBeLit 64 = .ok (.iload_n 2, 1) := by decide +kernel
theorem dX10_canBeLit_65 : decode cX10_canBeLit 65 = .ok (.aload_n 0, 1) := by decide +kernel
theorem dX10_canBeLit_66 : decode cX10_canBeLit 66 = .ok (.getfield 29, 3) := by decide +kernel
theorem dX10_canBeLit_69 : decode cX10_canBeLit 69 = .ok (.iload_n 1, 1) := by decide +kernel
theorem dX10_canBeLit_70 : decode cX10_canBeLit 70 = .ok (.iaload, 1) := by decide +kernel
theorem dX10_canBeLit_71 : decode cX10_canBeLit 71 = .ok (.invokestatic 207, 3) := by decide +kernel
theorem dX10_canBeLit_74 : decode cX10_canBeLit 74 = .ok (.ifCond .eq 7, 3) := by decide +kernel
theorem dX10_canBeLit_77 : decode cX10_canBeLit 77 = .ok (.iconst 1, 1) := by decide +kernel
theorem dX10_canBeLit_78 : decode cX10_canBeLit 78 = .ok (.goto 4, 3) := by decide +kernel
theorem dX10_canBeLit_81 : decode cX10_canBeLit 81 = .ok (.iconst 0, 1) := by decide +kernel
theorem dX10_canBeLit_82 : decode cX10_canBeLit 82 = .ok (.ireturn, 1) := by decide +kernel
theorem dX10_costOf_0 : decode cX10_costOf 0 = .ok (.aload_n 0, 1) := by decide +kernel
theorem dX10_costOf_1 : decode cX10_costOf 1 = .ok (.getfield 63, 3) := by decide +kernel
theorem dX10_costOf_4 : decode cX10_costOf 4 = .ok (.bipush 7, 2) := by decide +kernel
theorem dX10_costOf_6 : decode cX10_costOf 6 = .ok (.iload_n 2, 1) := by decide +kernel
theorem dX10_costOf_7 : decode cX10_costOf 7 = .ok (.imul, 1) := by decide +kernel
theorem dX10_costOf_8 : decode cX10_costOf 8 = .ok (.aload_n 0, 1) := by decide +kernel
theorem dX10_costOf_9 : decode cX10_costOf 9 = .ok (.getfield 23, 3) := by decide +kernel
theorem dX10_costOf_12 : decode cX10_costOf 12 = .ok (.iload_n 1, 1) := by decide +kernel
theorem dX10_costOf_13 : decode cX10_costOf 13 = .ok (.iaload, 1) := by decide +kernel
theorem dX10_costOf_14 : decode cX10_costOf 14 = .ok (.iadd, 1) := by decide +kernel
theorem dX10_costOf_15 : decode cX10_costOf 15 = .ok (.iaload, 1) := by decide +kernel
theorem dX10_costOf_16 : decode cX10_costOf 16 = .ok (.aload_n 0, 1) := by decide +kernel
theorem dX10_costOf_17 : decode cX10_costOf 17 = .ok (.getfield 32, 3) := by decide +kernel
theorem dX10_costOf_20 : decode cX10_costOf 20 = .ok (.aload_n 0, 1) := by decide +kernel
theorem dX10_costOf_21 : decode cX10_costOf 21 = .ok (.getfield 7, 3) := by decide +kernel
theorem dX10_costOf_24 : decode cX10_costOf 24 = .ok (.bipush 8, 2) := by decide +kernel
theorem dX10_costOf_26 : decode cX10_costOf 26 = .ok (.iload_n 1, 1) := by decide +kernel
theorem dX10_costOf_27 : decode cX10_costOf 27 = .ok (.iadd, 1) := by decide +kernel
theorem dX10_costOf_28 : decode cX10_costOf 28 = .ok (.iaload, 1) := by decide +kernel
theorem dX10_costOf_29 : decode cX10_costOf 29 = .ok (.iaload, 1) := by decide +kernel
theorem dX10_costOf_30 : decode cX10_costOf 30 = .ok (.iadd, 1) := by decide +kernel
theorem dX10_costOf_31 : decode cX10_costOf 31 = .ok (.ireturn, 1) := by decide +kernel
theorem dX10_restBy_0 : decode cX10_restBy 0 = .ok (.iload_n 2, 1) := by decide +kernel
theorem dX10_restBy_1 : decode cX10_restBy 1 = .ok (.iload_n 1, 1) := by decide +kernel
theorem dX10_restBy_2 : decode cX10_restBy 2 = .ok (.invokestatic 207, 3) := by decide +kernel
theorem dX10_restBy_5 : decode cX10_restBy 5 = .ok (.ifCond .ne 44, 3) := by decide +kernel
theorem dX10_restBy_8 : decode cX10_restBy 8 = .ok (.aload_n 0, 1) := by decide +kernel
theorem dX10_restBy_9 : decode cX10_restBy 9 = .ok (.iload_n 1, 1) := by decide +kernel
theorem dX10_restBy_10 : decode cX10_restBy 10 = .ok (.aload_n 0, 1) := by decide +kernel
theorem dX10_restBy_11 : decode cX10_restBy 11 = .ok (.getfield 7, 3) := by decide +kernel
theorem dX10_restBy_14 : decode cX10_restBy 14 = .ok (.iconst 2, 1) := by decide +kernel
theorem dX10_restBy_15 : decode cX10_restBy 15 = .ok (.iaload, 1) := by decide +kernel
theorem dX10_restBy_16 : decode cX10_restBy 16 = .ok (.iload_n 2, 1) := by decide +kernel
theorem dX10_restBy_17 : decode cX10_restBy 17 = .ok (.ior, 1) := by decide +kernel
theorem dX10_restBy_18 : decode cX10_restBy 18 = .ok (.invokevirtual 252, 3) := by decide +kernel
theorem dX10_restBy_21 : decode cX10_restBy 21 = .ok (.ifCond .eq 28, 3) := by decide +kernel
theorem dX10_restBy_24 : decode cX10_restBy 24 = .ok (.aload_n 0, 1) := by decide +kernel
theorem dX10_restBy_25 : decode cX10_restBy 25 = .ok (.getfield 63, 3) := by decide +kernel
theorem dX10_restBy_28 : decode cX10_restBy 28 = .ok (.bipush 7, 2) := by decide +kernel
theorem dX10_restBy_30 : decode cX10_restBy 30 = .ok (.iload_n 3, 1) := by decide +kernel
theorem dX10_restBy_31 : decode cX10_restBy 31 = .ok (.imul, 1) := by decide +kernel
theorem dX10_restBy_32 : decode cX10_restBy 32 = .ok (.aload_n 0, 1) := by decide +kernel
theorem dX10_restBy_33 : decode cX10_restBy 33 = .ok (.getfield 23, 3) := by decide +kernel
theorem dX10_restBy_36 : decode cX10_restBy 36 = .ok (.iload_n 1, 1) := by decide +kernel
theorem dX10_restBy_37 : decode cX10_restBy 37 = .ok (.iaload, 1) := by decide +kernel
theorem dX10_restBy_38 : decode cX10_restBy 38 = .ok (.iadd, 1) := by decide +kernel
theorem dX10_restBy_39 : decode cX10_restBy 39 = .ok (.iaload, 1) := by decide +kernel
theorem dX10_restBy_40 : decode cX10_restBy 40 = .ok (.ldc 251, 2) := by decide +kernel
theorem dX10_restBy_42 : decode cX10_restBy 42 = .ok (.if_icmp .ge 7, 3) := by decide +kernel
theorem dX10_restBy_45 : decode cX10_restBy 45 = .ok (.iconst 1, 1) := by decide +kernel
theorem dX10_restBy_46 : decode cX10_restBy 46 = .ok (.goto 4, 3) := by decide +kernel
theorem dX10_restBy_49 : decode cX10_restBy 49 = .ok (.iconst 0, 1) := by decide +kernel
theorem dX10_restBy_50 : decode cX10_restBy 50 = .ok (.istore 4, 2) := by decide +kernel
theorem dX10_restBy_52 : decode cX10_restBy 52 = .ok (.iload 4, 2) := by decide +kernel
theorem dX10_restBy_54 : decode cX10_restBy 54 = .ok (.ifCond .eq 26, 3) := by decide +kernel
theorem dX10_restBy_57 : decode cX10_restBy 57 = .ok (.aload_n 0, 1) := by decide +kernel
theorem dX10_restBy_58 : decode cX10_restBy 58 = .ok (.getfield 66, 3) := by decide +kernel
theorem dX10_restBy_61 : decode cX10_restBy 61 = .ok (.bipush 7, 2) := by decide +kernel
theorem dX10_restBy_63 : decode cX10_restBy 63 = .ok (.iload_n 2, 1) := by decide +kernel
theorem dX10_restBy_64 : decode cX10_restBy 64 = .ok (.iconst 1, 1) := by decide +kernel
theorem dX10_restBy_65 : decode cX10_restBy 65 = .ok (.iload_n 1, 1) := by decide +kernel
theorem dX10_restBy_66 : decode cX10_restBy 66 = .ok (.ishl, 1) := by decide +kernel
theorem dX10_restBy_67 : decode cX10_restBy 67 = .ok (.ior, 1) := by decide +kernel
theorem dX10_restBy_68 : decode cX10_restBy 68 = .ok (.imul, 1) := by decide +kernel
theorem dX10_restBy_69 : decode cX10_restBy 69 = .ok (.aload_n 0, 1) := by decide +kernel
theorem dX10_restBy_70 : decode cX10_restBy 70 = .ok (.getfield 23, 3) := by decide +kernel
theorem dX10_restBy_73 : decode cX10_restBy 73 = .ok (.iload_n 1, 1) := by decide +kernel
theorem dX10_restBy_74 : decode cX10_restBy 74 = .ok (.iaload, 1) := by decide +kernel
theorem dX10_restBy_75 : decode cX10_restBy 75 = .ok (.iadd, 1) := by decide +kernel
theorem dX10_restBy_76 : decode cX10_restBy 76 = .ok (.iaload, 1) := by decide +kernel
theorem dX10_restBy_77 : decode cX10_restBy 77 = .ok (.goto 5, 3) := by decide +kernel
theorem dX10_restBy_80 : decode cX10_restBy 80 = .ok (.ldc 251, 2) := by decide +kernel
theorem dX10_restBy_82 : decode cX10_restBy 82 = .ok (.istore 5, 2) := by decide +kernel
theorem dX10_restBy_84 : decode cX10_restBy 84 = .ok (.iload 5, 2) := by decide +kernel
theorem dX10_restBy_86 : decode cX10_restBy 86 = .ok (.ldc 251, 2) := by decide +kernel
theorem dX10_restBy_88 : decode cX10_restBy 88 = .ok (.if_icmp .lt 8, 3) := by decide +kernel
theorem dX10_restBy_91 : decode cX10_restBy 91 = .ok (.ldc 251, 2) := by decide +kernel
theorem dX10_restBy_93 : decode cX10_restBy 93 = .ok (.goto 12, 3) := by decide +kernel
theorem dX10_restBy_96 : decode cX10_restBy 96 = .ok (.aload_n 0, 1) := by decide +kernel
theorem dX10_restBy_97 : decode cX10_restBy 97 = .ok (.iload_n 1, 1) := by decide +kernel
theorem dX10_restBy_98 : decode cX10_restBy 98 = .ok (.iload_n 3, 1) := by decide +kernel
theorem dX10_restBy_99 : decode cX10_restBy 99 = .ok (.invokevirtual 255, 3) := by decide +kernel
theorem dX10_restBy_102 : decode cX10_restBy 102 = .ok (.iload 5, 2) := by decide +kernel
theorem dX10_restBy_104 : decode cX10_restBy 104 = .ok (.iadd, 1) := by decide +kernel
theorem dX10_restBy_105 : decode cX10_restBy 105 = .ok (.ireturn, 1) := by decide +kernel
theorem dX10_layRests_0 : decode cX10_layRests 0 = .ok (.aload_n 0, 1) := by decide +kernel
theorem dX10_layRests_1 : decode cX10_layRests 1 = .ok (.invokevirtual 258, 3) := by decide +kernel
theorem dX10_layRests_4 : decode cX10_layRests 4 = .ok (.bipush 127, 2) := by decide +kernel
theorem dX10_layRests_6 : decode cX10_layRests 6 = .ok (.istore_n 2, 1) := by decide +kernel
theorem dX10_layRests_7 : decode cX10_layRests 7 = .ok (.iload_n 2, 1) := by decide +kernel
theorem dX10_layRests_8 : decode cX10_layRests 8 = .ok (.ifCond .lt 117, 3) := by decide +kernel
theorem dX10_layRests_11 : decode cX10_layRests 11 = .ok (.iconst 0, 1) := by decide +kernel
theorem dX10_layRests_12 : decode cX10_layRests 12 = .ok (.istore_n 3, 1) := by decide +kernel
theorem dX10_layRests_13 : decode cX10_layRests 13 = .ok (.iload_n 3, 1) := by decide +kernel
theorem dX10_layRests_14 : decode cX10_layRests 14 = .ok (.aload_n 0, 1) := by decide +kernel
theorem dX10_layRests_15 : decode cX10_layRests 15 = .ok (.getfield 84, 3) := by decide +kernel
theorem dX10_layRests_18 : decode cX10_layRests 18 = .ok (.if_icmp .ge 101, 3) := by decide +kernel
theorem dX10_layRests_21 : decode cX10_layRests 21 = .ok (.iload_n 2, 1) := by decide +kernel
theorem dX10_layRests_22 : decode cX10_layRests 22 = .ok (.iload_n 1, 1) := by decide +kernel
theorem dX10_layRests_23 : decode cX10_layRests 23 = .ok (.iconst (-1), 1) := by decide +kernel
theorem dX10_layRests_24 : decode cX10_layRests 24 = .ok (.ixor, 1) := by decide +kernel
theorem dX10_layRests_25 : decode cX10_layRests 25 = .ok (.iand, 1) := by decide +kernel
theorem dX10_layRests_26 : decode cX10_layRests 26 = .ok (.ifCond .ne 93, 3) := by decide +kernel
theorem dX10_layRests_29 : decode cX10_layRests 29 = .ok (.iload_n 2, 1) := by decide +kernel
theorem dX10_layRests_30 : decode cX10_layRests 30 = .ok (.iload_n 1, 1) := by decide +kernel
theorem dX10_layRests_31 : decode cX10_layRests 31 = .ok (.if_icmp .ne 7, 3) := by decide +kernel
theorem dX10_layRests_34 : decode cX10_layRests 34 = .ok (.iconst 0, 1) := by decide +kernel
theorem dX10_layRests_35 : decode cX10_layRests 35 = .ok (.goto 5, 3) := by decide +kernel
theorem dX10_layRests_38 : decode cX10_layRests 38 = .ok (.ldc 251, 2) := by decide +kernel
theorem dX10_layRests_40 : decode cX10_layRests 40 = .ok (.istore 4, 2) := by decide +kernel
theorem dX10_layRests_42 : decode cX10_layRests 42 = .ok (.iconst 0, 1) := by decide +kernel
theorem dX10_layRests_43 : decode cX10_layRests 43 = .ok (.istore 5, 2) := by decide +kernel
theorem dX10_layRests_45 : decode cX10_layRests 45 = .ok (.iload 5, 2) := by decide +kernel
theorem dX10_layRests_47 : decode cX10_layRests 47 = .ok (.aload_n 0, 1) := by decide +kernel
theorem dX10_layRests_48 : decode cX10_layRests 48 = .ok (.getfield 94, 3) := by decide +kernel
theorem dX10_layRests_51 : decode cX10_layRests 51 = .ok (.if_icmp .ge 49, 3) := by decide +kernel
theorem dX10_layRests_54 : decode cX10_layRests 54 = .ok (.iload_n 1, 1) := by decide +kernel
theorem dX10_layRests_55 : decode cX10_layRests 55 = .ok (.iload 5, 2) := by decide +kernel
theorem dX10_layRests_57 : decode cX10_layRests 57 = .ok (.invokestatic 207, 3) := by decide +kernel
theorem dX10_layRests_60 : decode cX10_layRests 60 = .ok (.ifCond .eq 14, 3) := by decide +kernel
theorem dX10_layRests_63 : decode cX10_layRests 63 = .ok (.aload_n 0, 1) := by decide +kernel
theorem dX10_layRests_64 : decode cX10_layRests 64 = .ok (.iload 5, 2) := by decide +kernel
theorem dX10_layRests_66 : decode cX10_layRests 66 = .ok (.iload_n 2, 1) := by decide +kernel
theorem dX10_layRests_67 : decode cX10_layRests 67 = .ok (.iload_n 3, 1) := by decide +kernel
theorem dX10_layRests_68 : decode cX10_layRests 68 = .ok (.invokevirtual 261, 3) := by decide +kernel
theorem dX10_layRests_71 : decode cX10_layRests 71 = .ok (.goto 5, 3) := by decide +kernel
theorem dX10_layRests_74 : decode cX10_layRests 74 = .ok (.ldc 251, 2) := by decide +kernel
theorem dX10_layRests_76 : decode cX10_layRests 76 = .ok (.istore 6, 2) := by decide +kernel
theorem dX10_layRests_78 : decode cX10_layRests 78 = .ok (.iload 6, 2) := by decide +kernel
theorem dX10_layRests_80 : decode cX10_layRests 80 = .ok (.iload 4, 2) := by decide +kernel
theorem dX10_layRests_82 : decode cX10_layRests 82 = .ok (.if_icmp .ge 8, 3) := by decide +kernel
theorem dX10_layRests_85 : decode cX10_layRests 85 = .ok (.iload 6, 2) := by decide +kernel
theorem dX10_layRests_87 : decode cX10_layRests 87 = .ok (.goto 5, 3) := by decide +kernel
theorem dX10_layRests_90 : decode cX10_layRests 90 = .ok (.iload 4, 2) := by decide +kernel
theorem dX10_layRests_92 : decode cX10_layRests 92 = .ok (.istore 4, 2) := by decide +kernel
theorem dX10_layRests_94 : decode cX10_layRests 94 = .ok (.iinc 5 1, 3) := by decide +kernel
theorem dX10_layRests_97 : decode cX10_layRests 97 = .ok (.goto (-52), 3) := by decide +kernel
theorem dX10_layRests_100 : decode cX10_layRests 100 = .ok (.aload_n 0, 1) := by decide +kernel
theorem dX10_layRests_101 : decode cX10_layRests 101 = .ok (.getfield 66, 3) := by decide +kernel
theorem dX10_layRests_104 : decode cX10_layRests 104 = .ok (.bipush 7, 2) := by decide +kernel
theorem dX10_layRests_106 : decode cX10_layRests 106 = .ok (.iload_n 2, 1) := by decide +kernel
theorem dX10_layRests_107 : decode cX10_layRests 107 = .ok (.imul, 1) := by decide +kernel
theorem dX10_layRests_108 : decode cX10_layRests 108 = .ok (.iload_n 3, 1) := by decide +kernel
theorem dX10_layRests_109 : decode cX10_layRests 109 = .ok (.iadd, 1) := by decide +kernel
theorem dX10_layRests_110 : decode cX10_layRests 110 = .ok (.iload 4, 2) := by decide +kernel
theorem dX10_layRests_112 : decode cX10_layRests 112 = .ok (.iastore, 1) := by decide +kernel
theorem dX10_layRests_113 : decode cX10_layRests 113 = .ok (.iinc 3 1, 3) := by decide +kernel
theorem dX10_layRests_116 : decode cX10_layRests 116 = .ok (.goto (-103), 3) := by decide +kernel
theorem dX10_layRests_119 : decode cX10_layRests 119 = .ok (.iinc 2 (-1), 3) := by decide +kernel
theorem dX10_layRests_122 : decode cX10_layRests 122 = .ok (.goto (-115), 3) := by decide +kernel
theorem dX10_layRests_125 : decode cX10_layRests 125 = .ok (.return_, 1) := by decide +kernel
theorem dX10_round_0 : decode cX10_round 0 = .ok (.iload_n 1, 1) := by decide +kernel
theorem dX10_round_1 : decode cX10_round 1 = .ok (.i2l, 1) := by decide +kernel
theorem dX10_round_2 : decode cX10_round 2 = .ok (.lconst 0, 1) := by decide +kernel
theorem dX10_round_3 : decode cX10_round 3 = .ok (.iconst 1, 1) := by decide +kernel
theorem dX10_round_4 : decode cX10_round 4 = .ok (.aload_n 0, 1) := by decide +kernel
theorem dX10_round_5 : decode cX10_round 5 = .ok (.getfield 94, 3) := by decide +kernel
theorem dX10_round_8 : decode cX10_round 8 = .ok (.ishl, 1) := by decide +kernel
theorem dX10_round_9 : decode cX10_round 9 = .ok (.iconst 1, 1) := by decide +kernel
theorem dX10_round_10 : decode cX10_round 10 = .ok (.isub, 1) := by decide +kernel
theorem dX10_round_11 : decode cX10_round 11 = .ok (.i2l, 1) := by decide +kernel
theorem dX10_round_12 : decode cX10_round 12 = .ok (.invokestatic 87, 3) := by decide +kernel
theorem dX10_round_15 : decode cX10_round 15 = .ok (.ifCond .ne 6, 3) := by decide +kernel
theorem dX10_round_18 : decode cX10_round 18 = .ok (.ldc 200, 2) := by decide +kernel
theorem dX10_round_20 : decode cX10_round 20 = .ok (.ireturn, 1) := by decide +kernel
theorem dX10_round_21 : decode cX10_round 21 = .ok (.iload_n 1, 1) := by decide +kernel
theorem dX10_round_22 : decode cX10_round 22 = .ok (.aload_n 0, 1) := by decide +kernel
theorem dX10_round_23 : decode cX10_round 23 = .ok (.getfield 7, 3) := by decide +kernel
theorem dX10_round_26 : decode cX10_round 26 = .ok (.iconst 2, 1) := by decide +kernel
theorem dX10_round_27 : decode cX10_round 27 = .ok (.iaload, 1) := by decide +kernel
theorem dX10_round_28 : decode cX10_round 28 = .ok (.iconst (-1), 1) := by decide +kernel
theorem dX10_round_29 : decode cX10_round 29 = .ok (.ixor, 1) := by decide +kernel
theorem dX10_round_30 : decode cX10_round 30 = .ok (.iand, 1) := by decide +kernel
theorem dX10_round_31 : decode cX10_round 31 = .ok (.istore_n 3, 1) := by decide +kernel
theorem dX10_round_32 : decode cX10_round 32 = .ok (.iload_n 3, 1) := by decide +kernel
theorem dX10_round_33 : decode cX10_round 33 = .ok (.ifCond .ne 14, 3) := by decide +kernel
theorem dX10_round_36 : decode cX10_round 36 = .ok (.iload_n 2, 1) := by decide +kernel
theorem dX10_round_37 : decode cX10_round 37 = .ok (.iconst (-1), 1) := by decide +kernel
theorem dX10_round_38 : decode cX10_round 38 = .ok (.if_icmp .ne 7, 3) := by decide +kernel
theorem dX10_round_41 : decode cX10_round 41 = .ok (.iconst 0, 1) := by decide +kernel
theorem dX10_round_42 : decode cX10_round 42 = .ok (.goto 4, 3) := by decide +kernel
theorem dX10_round_45 : decode cX10_round 45 = .ok (.iconst (-1), 1) := by decide +kernel
theorem dX10_round_46 : decode cX10_round 46 = .ok (.ireturn, 1) := by decide +kernel
theorem dX10_round_47 : decode cX10_round 47 = .ok (.aload_n 0, 1) := by decide +kernel
theorem dX10_round_48 : decode cX10_round 48 = .ok (.iload_n 3, 1) := by decide +kernel
theorem dX10_round_49 : decode cX10_round 49 = .ok (.invokevirtual 265, 3) := by decide +kernel
theorem dX10_round_52 : decode cX10_round 52 = .ok (.aload_n 0, 1) := by decide +kernel
theorem dX10_round_53 : decode cX10_round 53 = .ok (.getfield 7, 3) := by decide +kernel
theorem dX10_round_56 : decode cX10_round 56 = .ok (.iconst 0, 1) := by decide +kernel
theorem dX10_round_57 : decode cX10_round 57 = .ok (.iaload, 1) := by decide +kernel
theorem dX10_round_58 : decode cX10_round 58 = .ok (.istore 4, 2) := by decide +kernel
theorem dX10_round_60 : decode cX10_round 60 = .ok (.iconst 0, 1) := by decide +kernel
theorem dX10_round_61 : decode cX10_round 61 = .ok (.istore 5, 2) := by decide +kernel
theorem dX10_round_63 : decode cX10_round 63 = .ok (.aload_n 0, 1) := by decide +kernel
theorem dX10_round_64 : decode cX10_round 64 = .ok (.getfield 66, 3) := by decide +kernel
theorem dX10_round_67 : decode cX10_round 67 = .ok (.iload 4, 2) := by decide +kernel
theorem dX10_round_69 : decode cX10_round 69 = .ok (.iaload, 1) := by decide +kernel
theorem dX10_round_70 : decode cX10_round 70 = .ok (.ldc 251, 2) := by decide +kernel
theorem dX10_round_72 : decode cX10_round 72 = .ok (.if_icmp .ge 8, 3) := by decide +kernel
theorem dX10_round_75 : decode cX10_round 75 = .ok (.iload_n 2, 1) := by decide +kernel
theorem dX10_round_76 : decode cX10_round 76 = .ok (.iconst (-1), 1) := by decide +kernel
theorem dX10_round_77 : decode cX10_round 77 = .ok (.if_icmp .ge 5, 3) := by decide +kernel
theorem dX10_round_80 : decode cX10_round 80 = .ok (.iconst (-1), 1) := by decide +kernel
theorem dX10_round_81 : decode cX10_round 81 = .ok (.ireturn, 1) := by decide +kernel
theorem dX10_round_82 : decode cX10_round 82 = .ok (.aload_n 0, 1) := by decide +kernel
theorem dX10_round_83 : decode cX10_round 83 = .ok (.getfield 66, 3) := by decide +kernel
theorem dX10_round_86 : decode cX10_round 86 = .ok (.iload 4, 2) := by decide +kernel
theorem dX10_round_88 : decode cX10_round 88 = .ok (.iaload, 1) := by decide +kernel
theorem dX10_round_89 : decode cX10_round 89 = .ok (.istore 6, 2) := by decide +kernel
theorem dX10_round_91 : decode cX10_round 91 = .ok (.iconst 0, 1) := by decide +kernel
theorem dX10_round_92 : decode cX10_round 92 = .ok (.istore 7, 2) := by decide +kernel
theorem dX10_round_94 : decode cX10_round 94 = .ok (.iload 7, 2) := by decide +kernel
theorem dX10_round_96 : decode cX10_round 96 = .ok (.iload_n 2, 1) := by decide +kernel
theorem dX10_round_97 : decode cX10_round 97 = .ok (.if_icmp .gt 111, 3) := by decide +kernel
theorem dX10_round_100 : decode cX10_round 100 = .ok (.iconst (-1), 1) := by decide +kernel
theorem dX10_round_101 : decode cX10_round 101 = .ok (.istore 8, 2) := by decide +kernel
theorem dX10_round_103 : decode cX10_round 103 = .ok (.aload_n 0, 1) := by decide +kernel
theorem dX10_round_104 : decode cX10_round 104 = .ok (.getfield 94, 3) := by decide +kernel
theorem dX10_round_107 : decode cX10_round 107 = .ok (.iconst 1, 1) := by decide +kernel
theorem dX10_round_108 : decode cX10_round 108 = .ok (.isub, 1) := by decide +kernel
theorem dX10_round_109 : decode cX10_round 109 = .ok (.istore 9, 2) := by decide +kernel
theorem dX10_round_111 : decode cX10_round 111 = .ok (.iload 9, 2) := by decide +kernel
theorem dX10_round_113 : decode cX10_round 113 = .ok (.ifCond .lt 59, 3) := by decide +kernel
theorem dX10_round_116 : decode cX10_round 116 = .ok (.iload 5, 2) := by decide +kernel
theorem dX10_round_118 : decode cX10_round 118 = .ok (.iload_n 3, 1) := by decide +kernel
theorem dX10_round_119 : decode cX10_round 119 = .ok (.if_icmp .eq 43, 3) := by decide +kernel
theorem dX10_round_122 : decode cX10_round 122 = .ok (.iload_n 3, 1) := by decide +kernel
theorem dX10_round_123 : decode cX10_round 123 = .ok (.iload 9, 2) := by decide +kernel
theorem dX10_round_125 : decode cX10_round 125 = .ok (.invokestatic 207, 3) := by decide +kernel
theorem dX10_round_128 : decode cX10_round 128 = .ok (.ifCond .eq 34, 3) := by decide +kernel
theorem dX10_round_131 : decode cX10_round 131 = .ok (.aload_n 0, 1) := by decide +kernel
theorem dX10_round_132 : decode cX10_round 132 = .ok (.iload 9, 2) := by decide +kernel
theorem dX10_round_134 : decode cX10_round 134 = .ok (.iload 5, 2) := by decide +kernel
theorem dX10_round_136 : decode cX10_round 136 = .ok (.iload 4, 2) := by decide +kernel
theorem dX10_round_138 : decode cX10_round 138 = .ok (.invokevirtual 261, 3) := by decide +kernel
theorem dX10_round_141 : decode cX10_round 141 = .ok (.aload_n 0, 1) := by decide +kernel
theorem dX10_round_142 : decode cX10_round 142 = .ok (.getfield 66, 3) := by decide +kernel
theorem dX10_round_145 : decode cX10_round 145 = .ok (.bipush 7, 2) := by decide +kernel
theorem dX10_round_147 : decode cX10_round 147 = .ok (.iload 5, 2) := by decide +kernel
theorem dX10_round_149 : decode cX10_round 149 = .ok (.imul, 1) := by decide +kernel
theorem dX10_round_150 : decode cX10_round 150 = .ok (.iload 4, 2) := by decide +kernel
theorem dX10_round_152 : decode cX10_round 152 = .ok (.iadd, 1) := by decide +kernel
theorem dX10_round_153 : decode cX10_round 153 = .ok (.iaload, 1) := by decide +kernel
theorem dX10_round_154 : decode cX10_round 154 = .ok (.if_icmp .ne 8, 3) := by decide +kernel
theorem dX10_round_157 : decode cX10_round 157 = .ok (.iload 9, 2) := by decide +kernel
theorem dX10_round_159 : decode cX10_round 159 = .ok (.goto 5, 3) := by decide +kernel
theorem dX10_round_162 : decode cX10_round 162 = .ok (.iload 8, 2) := by decide +kernel
theorem dX10_round_164 : decode cX10_round 164 = .ok (.istore 8, 2) := by decide +kernel
theorem dX10_round_166 : decode cX10_round 166 = .ok (.iinc 9 (-1), 3) := by decide +kernel
theorem dX10_round_169 : decode cX10_round 169 = .ok (.goto (-58), 3) := by decide +kernel
theorem dX10_round_172 : decode cX10_round 172 = .ok (.iload 8, 2) := by decide +kernel
theorem dX10_round_174 : decode cX10_round 174 = .ok (.iconst (-1), 1) := by decide +kernel
theorem dX10_round_175 : decode cX10_round 175 = .ok (.if_icmp .ne 5, 3) := by decide +kernel
theorem dX10_round_178 : decode cX10_round 178 = .ok (.iconst (-1), 1) := by decide +kernel
theorem dX10_round_179 : decode cX10_round 179 = .ok (.ireturn, 1) := by decide +kernel
theorem dX10_round_180 : decode cX10_round 180 = .ok (.iload 8, 2) := by decide +kernel
theorem dX10_round_182 : decode cX10_round 182 = .ok (.istore 6, 2) := by decide +kernel
theorem dX10_round_184 : decode cX10_round 184 = .ok (.iload 5, 2) := by decide +kernel
theorem dX10_round_186 : decode cX10_round 186 = .ok (.iconst 1, 1) := by decide +kernel
theorem dX10_round_187 : decode cX10_round 187 = .ok (.iload 8, 2) := by decide +kernel
theorem dX10_round_189 : decode cX10_round 189 = .ok (.ishl, 1) := by decide +kernel
theorem dX10_round_190 : decode cX10_round 190 = .ok (.ior, 1) := by decide +kernel
theorem dX10_round_191 : decode cX10_round 191 = .ok (.istore 5, 2) := by decide +kernel
theorem dX10_round_193 : decode cX10_round 193 = .ok (.aload_n 0, 1) := by decide +kernel
theorem dX10_round_194 : decode cX10_round 194 = .ok (.getfield 23, 3) := by decide +kernel
theorem dX10_round_197 : decode cX10_round 197 = .ok (.iload 8, 2) := by decide +kernel
theorem dX10_round_199 : decode cX10_round 199 = .ok (.iaload, 1) := by decide +kernel
theorem dX10_round_200 : decode cX10_round 200 = .ok (.istore 4, 2) := by decide +kernel
theorem dX10_round_202 : decode cX10_round 202 = .ok (.iinc 7 1, 3) := by decide +kernel
theorem dX10_round_205 : decode cX10_round 205 = .ok (.goto (-111), 3) := by decide +kernel
theorem dX10_round_208 : decode cX10_round 208 = .ok (.iload 6, 2) := by decide +kernel
theorem dX10_round_210 : decode cX10_round 210 = .ok (.ireturn, 1) := by decide +kernel
theorem dX10_cannot_0 : decode cX10_cannot 0 = .ok (.aload_n 0, 1) := by decide +kernel
theorem dX10_cannot_1 : decode cX10_cannot 1 = .ok (.invokevirtual 258, 3) := by decide +kernel
theorem dX10_cannot_4 : decode cX10_cannot 4 = .ok (.iconst 0, 1) := by decide +kernel
theorem dX10_cannot_5 : decode cX10_cannot 5 = .ok (.istore_n 1, 1) := by decide +kernel
theorem dX10_cannot_6 : decode cX10_cannot 6 = .ok (.iconst 0, 1) := by decide +kernel
theorem dX10_cannot_7 : decode cX10_cannot 7 = .ok (.istore_n 2, 1) := by decide +kernel
theorem dX10_cannot_8 : decode cX10_cannot 8 = .ok (.iload_n 2, 1) := by decide +kernel
theorem dX10_cannot_9 : decode cX10_cannot 9 = .ok (.aload_n 0, 1) := by decide +kernel
theorem dX10_cannot_10 : decode cX10_cannot 10 = .ok (.getfield 94, 3) := by decide +kernel
theorem dX10_cannot_13 : decode cX10_cannot 13 = .ok (.if_icmp .ge 82, 3) := by decide +kernel
theorem dX10_cannot_16 : decode cX10_cannot 16 = .ok (.aload_n 0, 1) := by decide +kernel
theorem dX10_cannot_17 : decode cX10_cannot 17 = .ok (.iload_n 2, 1) := by decide +kernel
theorem dX10_cannot_18 : decode cX10_cannot 18 = .ok (.aload_n 0, 1) := by decide +kernel
theorem dX10_cannot_19 : decode cX10_cannot 19 = .ok (.getfield 7, 3) := by decide +kernel
theorem dX10_cannot_22 : decode cX10_cannot 22 = .ok (.iconst 2, 1) := by decide +kernel
theorem dX10_cannot_23 : decode cX10_cannot 23 = .ok (.iaload, 1) := by decide +kernel
theorem dX10_cannot_24 : decode cX10_cannot 24 = .ok (.invokevirtual 252, 3) := by decide +kernel
theorem dX10_cannot_27 : decode cX10_cannot 27 = .ok (.ifCond .eq 33, 3) := by decide +kernel
theorem dX10_cannot_30 : decode cX10_cannot 30 = .ok (.aload_n 0, 1) := by decide +kernel
theorem dX10_cannot_31 : decode cX10_cannot 31 = .ok (.getfield 63, 3) := by decide +kernel
theorem dX10_cannot_34 : decode cX10_cannot 34 = .ok (.bipush 7, 2) := by decide +kernel
theorem dX10_cannot_36 : decode cX10_cannot 36 = .ok (.aload_n 0, 1) := by decide +kernel
theorem dX10_cannot_37 : decode cX10_cannot 37 = .ok (.getfield 7, 3) := by decide +kernel
theorem dX10_cannot_40 : decode cX10_cannot 40 = .ok (.iconst 0, 1) := by decide +kernel
theorem dX10_cannot_41 : decode cX10_cannot 41 = .ok (.iaload, 1) := by decide +kernel
theorem dX10_cannot_42 : decode cX10_cannot 42 = .ok (.imul, 1) := by decide +kernel
theorem dX10_cannot_43 : decode cX10_cannot 43 = .ok (.aload_n 0, 1) := by decide +kernel
theorem dX10_cannot_44 : decode cX10_cannot 44 = .ok (.getfield 23, 3) := by decide +kernel
theorem dX10_cannot_47 : decode cX10_cannot 47 = .ok (.iload_n 2, 1) := by decide +kernel
theorem dX10_cannot_48 : decode cX10_cannot 48 = .ok (.iaload, 1) := by decide +kernel
theorem dX10_cannot_49 : decode cX10_cannot 49 = .ok (.iadd, 1) := by decide +kernel
theorem dX10_cannot_50 : decode cX10_cannot 50 = .ok (.iaload, 1) := by decide +kernel
theorem dX10_cannot_51 : decode cX10_cannot 51 = .ok (.ldc 251, 2) := by decide +kernel
theorem dX10_cannot_53 : decode cX10_cannot 53 = .ok (.if_icmp .ge 7, 3) := by decide +kernel
theorem dX10_cannot_56 : decode cX10_cannot 56 = .ok (.iconst 1, 1) := by decide +kernel
theorem dX10_cannot_57 : decode cX10_cannot 57 = .ok (.goto 4, 3) := by decide +kernel
theorem dX10_cannot_60 : decode cX10_cannot 60 = .ok (.iconst 0, 1) := by decide +kernel
theorem dX10_cannot_61 : decode cX10_cannot 61 = .ok (.istore_n 3, 1) := by decide +kernel
theorem dX10_cannot_62 : decode cX10_cannot 62 = .ok (.iload_n 1, 1) := by decide +kernel
theorem dX10_cannot_63 : decode cX10_cannot 63 = .ok (.aload_n 0, 1) := by decide +kernel
theorem dX10_cannot_64 : decode cX10_cannot 64 = .ok (.getfield 7, 3) := by decide +kernel
theorem dX10_cannot_67 : decode cX10_cannot 67 = .ok (.iconst 2, 1) := by decide +kernel
theorem dX10_cannot_68 : decode cX10_cannot 68 = .ok (.iaload, 1) := by decide +kernel
theorem dX10_cannot_69 : decode cX10_cannot 69 = .ok (.iload_n 2, 1) := by decide +kernel
theorem dX10_cannot_70 : decode cX10_cannot 70 = .ok (.invokestatic 207, 3) := by decide +kernel
theorem dX10_cannot_73 : decode cX10_cannot 73 = .ok (.ifCond .ne 13, 3) := by decide +kernel
theorem dX10_cannot_76 : decode cX10_cannot 76 = .ok (.iload_n 3, 1) := by decide +kernel
theorem dX10_cannot_77 : decode cX10_cannot 77 = .ok (.ifCond .ne 9, 3) := by decide +kernel
theorem dX10_cannot_80 : decode cX10_cannot 80 = .ok (.iconst 1, 1) := by decide +kernel
theorem dX10_cannot_81 : decode cX10_cannot 81 = .ok (.iload_n 2, 1) := by decide +kernel
theorem dX10_cannot_82 : decode cX10_cannot 82 = .ok (.ishl, 1) := by decide +kernel
theorem dX10_cannot_83 : decode cX10_cannot 83 = .ok (.goto 4, 3) := by decide +kernel
theorem dX10_cannot_86 : decode cX10_cannot 86 = .ok (.iconst 0, 1) := by decide +kernel
theorem dX10_cannot_87 : decode cX10_cannot 87 = .ok (.ior, 1) := by decide +kernel
theorem dX10_cannot_88 : decode cX10_cannot 88 = .ok (.istore_n 1, 1) := by decide +kernel
theorem dX10_cannot_89 : decode cX10_cannot 89 = .ok (.iinc 2 1, 3) := by decide +kernel
theorem dX10_cannot_92 : decode cX10_cannot 92 = .ok (.goto (-84), 3) := by decide +kernel
theorem dX10_cannot_95 : decode cX10_cannot 95 = .ok (.iload_n 1, 1) := by decide +kernel
theorem dX10_cannot_96 : decode cX10_cannot 96 = .ok (.ireturn, 1) := by decide +kernel
theorem dX10_steps_0 : decode cX10_steps 0 = .ok (.aload_n 0, 1) := by decide +kernel
theorem dX10_steps_1 : decode cX10_steps 1 = .ok (.iload_n 1, 1) := by decide +kernel
theorem dX10_steps_2 : decode cX10_steps 2 = .ok (.invokevirtual 221, 3) := by decide +kernel
theorem dX10_steps_5 : decode cX10_steps 5 = .ok (.ifCond .ne 6, 3) := by decide +kernel
theorem dX10_steps_8 : decode cX10_steps 8 = .ok (.ldc 200, 2) := by decide +kernel
theorem dX10_steps_10 : decode cX10_steps 10 = .ok (.ireturn, 1) := by decide +kernel
theorem dX10_steps_11 : decode cX10_steps 11 = .ok (.aload_n 0, 1) := by decide +kernel
theorem dX10_steps_12 : decode cX10_steps 12 = .ok (.invokevirtual 258, 3) := by decide +kernel
theorem dX10_steps_15 : decode cX10_steps 15 = .ok (.aload_n 0, 1) := by decide +kernel
theorem dX10_steps_16 : decode cX10_steps 16 = .ok (.getfield 63, 3) := by decide +kernel
theorem dX10_steps_19 : decode cX10_steps 19 = .ok (.bipush 7, 2) := by decide +kernel
theorem dX10_steps_21 : decode cX10_steps 21 = .ok (.aload_n 0, 1) := by decide +kernel
theorem dX10_steps_22 : decode cX10_steps 22 = .ok (.getfield 7, 3) := by decide +kernel
theorem dX10_steps_25 : decode cX10_steps 25 = .ok (.iconst 0, 1) := by decide +kernel
theorem dX10_steps_26 : decode cX10_steps 26 = .ok (.iaload, 1) := by decide +kernel
theorem dX10_steps_27 : decode cX10_steps 27 = .ok (.imul, 1) := by decide +kernel
theorem dX10_steps_28 : decode cX10_steps 28 = .ok (.iload_n 1, 1) := by decide +kernel
theorem dX10_steps_29 : decode cX10_steps 29 = .ok (.iadd, 1) := by decide +kernel
theorem dX10_steps_30 : decode cX10_steps 30 = .ok (.iaload, 1) := by decide +kernel
theorem dX10_steps_31 : decode cX10_steps 31 = .ok (.istore_n 2, 1) := by decide +kernel
theorem dX10_steps_32 : decode cX10_steps 32 = .ok (.iload_n 2, 1) := by decide +kernel
theorem dX10_steps_33 : decode cX10_steps 33 = .ok (.ldc 251, 2) := by decide +kernel
theorem dX10_steps_35 : decode cX10_steps 35 = .ok (.if_icmp .lt 7, 3) := by decide +kernel
theorem dX10_steps_38 : decode cX10_steps 38 = .ok (.iconst (-1), 1) := by decide +kernel
theorem dX10_steps_39 : decode cX10_steps 39 = .ok (.goto 4, 3) := by decide +kernel
theorem dX10_steps_42 : decode cX10_steps 42 = .ok (.iload_n 2, 1) := by decide +kernel
theorem dX10_steps_43 : decode cX10_steps 43 = .ok (.ireturn, 1) := by decide +kernel
theorem dX10_mostSeen_0 : decode cX10_mostSeen 0 = .ok (.iload_n 1, 1) := by decide +kernel
theorem dX10_mostSeen_1 : decode cX10_mostSeen 1 = .ok (.i2l, 1) := by decide +kernel
theorem dX10_mostSeen_2 : decode cX10_mostSeen 2 = .ok (.lconst 0, 1) := by decide +kernel
theorem dX10_mostSeen_3 : decode cX10_mostSeen 3 = .ok (.lconst 1, 1) := by decide +kernel
theorem dX10_mostSeen_4 : decode cX10_mostSeen 4 = .ok (.invokestatic 87, 3) := by decide +kernel
theorem dX10_mostSeen_7 : decode cX10_mostSeen 7 = .ok (.ifCond .ne 6, 3) := by decide +kernel
theorem dX10_mostSeen_10 : decode cX10_mostSeen 10 = .ok (.ldc 104, 2) := by decide +kernel
theorem dX10_mostSeen_12 : decode cX10_mostSeen 12 = .ok (.ireturn, 1) := by decide +kernel
theorem dX10_mostSeen_13 : decode cX10_mostSeen 13 = .ok (.iconst (-1), 1) := by decide +kernel
theorem dX10_mostSeen_14 : decode cX10_mostSeen 14 = .ok (.istore_n 2, 1) := by decide +kernel
theorem dX10_mostSeen_15 : decode cX10_mostSeen 15 = .ok (.iconst (-1), 1) := by decide +kernel
theorem dX10_mostSeen_16 : decode cX10_mostSeen 16 = .ok (.istore_n 3, 1) := by decide +kernel
theorem dX10_mostSeen_17 : decode cX10_mostSeen 17 = .ok (.iconst 0, 1) := by decide +kernel
theorem dX10_mostSeen_18 : decode cX10_mostSeen 18 = .ok (.istore 4, 2) := by decide +kernel
theorem dX10_mostSeen_20 : decode cX10_mostSeen 20 = .ok (.iload 4, 2) := by decide +kernel
theorem dX10_mostSeen_22 : decode cX10_mostSeen 22 = .ok (.aload_n 0, 1) := by decide +kernel
theorem dX10_mostSeen_23 : decode cX10_mostSeen 23 = .ok (.getfield 84, 3) := by decide +kernel
theorem dX10_mostSeen_26 : decode cX10_mostSeen 26 = .ok (.if_icmp .ge 160, 3) := by decide +kernel
theorem dX10_mostSeen_29 : decode cX10_mostSeen 29 = .ok (.iconst 0, 1) := by decide +kernel
theorem dX10_mostSeen_30 : decode cX10_mostSeen 30 = .ok (.istore 5, 2) := by decide +kernel
theorem dX10_mostSeen_32 : decode cX10_mostSeen 32 = .ok (.iconst 0, 1) := by decide +kernel
theorem dX10_mostSeen_33 : decode cX10_mostSeen 33 = .ok (.istore 6, 2) := by decide +kernel
theorem dX10_mostSeen_35 : decode cX10_mostSeen 35 = .ok (.iload 6, 2) := by decide +kernel
theorem dX10_mostSeen_37 : decode cX10_mostSeen 37 = .ok (.aload_n 0, 1) := by decide +kernel
theorem dX10_mostSeen_38 : decode cX10_mostSeen 38 = .ok (.getfield 94, 3) := by decide +kernel
theorem dX10_mostSeen_41 : decode cX10_mostSeen 41 = .ok (.if_icmp .ge 33, 3) := by decide +kernel
theorem dX10_mostSeen_44 : decode cX10_mostSeen 44 = .ok (.iload 5, 2) := by decide +kernel
theorem dX10_mostSeen_46 : decode cX10_mostSeen 46 = .ok (.ifCond .ne 15, 3) := by decide +kernel
theorem dX10_mostSeen_49 : decode cX10_mostSeen 49 = .ok (.aload_n 0, 1) := by decide +kernel
theorem dX10_mostSeen_50 : decode cX10_mostSeen 50 = .ok (.getfield 23, 3) := by decide +kernel
theorem dX10_mostSeen_53 : decode cX10_mostSeen 53 = .ok (.iload 6, 2) := by decide +kernel
theorem dX10_mostSeen_55 : decode cX10_mostSeen 55 = .ok (.iaload, 1) := by decide +kernel
theorem dX10_mostSeen_56 : decode cX10_mostSeen 56 = .ok (.iload 4, 2) := by decide +kernel
theorem dX10_mostSeen_58 : decode cX10_mostSeen 58 = .ok (.if_icmp .ne 7, 3) := by decide +kernel
theorem dX10_mostSeen_61 : decode cX10_mostSeen 61 = .ok (.iconst 1, 1) := by decide +kernel
theorem dX10_mostSeen_62 : decode cX10_mostSeen 62 = .ok (.goto 4, 3) := by decide +kernel
theorem dX10_mostSeen_65 : decode cX10_mostSeen 65 = .ok (.iconst 0, 1) := by decide +kernel
theorem dX10_mostSeen_66 : decode cX10_mostSeen 66 = .ok (.istore 5, 2) := by decide +kernel
theorem dX10_mostSeen_68 : decode cX10_mostSeen 68 = .ok (.iinc 6 1, 3) := by decide +kernel
theorem dX10_mostSeen_71 : decode cX10_mostSeen 71 = .ok (.goto (-36), 3) := by decide +kernel
theorem dX10_mostSeen_74 : decode cX10_mostSeen 74 = .ok (.iconst 0, 1) := by decide +kernel
theorem dX10_mostSeen_75 : decode cX10_mostSeen 75 = .ok (.istore 6, 2) := by decide +kernel
theorem dX10_mostSeen_77 : decode cX10_mostSeen 77 = .ok (.iconst 0, 1) := by decide +kernel
theorem dX10_mostSeen_78 : decode cX10_mostSeen 78 = .ok (.istore 7, 2) := by decide +kernel
theorem dX10_mostSeen_80 : decode cX10_mostSeen 80 = .ok (.iload 7, 2) := by decide +kernel
theorem dX10_mostSeen_82 : decode cX10_mostSeen 82 = .ok (.aload_n 0, 1) := by decide +kernel
theorem dX10_mostSeen_83 : decode cX10_mostSeen 83 = .ok (.getfield 97, 3) := by decide +kernel
theorem dX10_mostSeen_86 : decode cX10_mostSeen 86 = .ok (.if_icmp .ge 38, 3) := by decide +kernel
theorem dX10_mostSeen_89 : decode cX10_mostSeen 89 = .ok (.iload 6, 2) := by decide +kernel
theorem dX10_mostSeen_91 : decode cX10_mostSeen 91 = .ok (.aload_n 0, 1) := by decide +kernel
theorem dX10_mostSeen_92 : decode cX10_mostSeen 92 = .ok (.iload 4, 2) := by decide +kernel
theorem dX10_mostSeen_94 : decode cX10_mostSeen 94 = .ok (.aload_n 0, 1) := by decide +kernel
theorem dX10_mostSeen_95 : decode cX10_mostSeen 95 = .ok (.getfield 7, 3) := by decide +kernel
theorem dX10_mostSeen_98 : decode cX10_mostSeen 98 = .ok (.bipush 29, 2) := by decide +kernel
theorem dX10_mostSeen_100 : decode cX10_mostSeen 100 = .ok (.iload 7, 2) := by decide +kernel
theorem dX10_mostSeen_102 : decode cX10_mostSeen 102 = .ok (.iadd, 1) := by decide +kernel
theorem dX10_mostSeen_103 : decode cX10_mostSeen 103 = .ok (.iaload, 1) := by decide +kernel
theorem dX10_mostSeen_104 : decode cX10_mostSeen 104 = .ok (.invokevirtual 213, 3) := by decide +kernel
theorem dX10_mostSeen_107 : decode cX10_mostSeen 107 = .ok (.ifCond .eq 7, 3) := by decide +kernel
theorem dX10_mostSeen_110 : decode cX10_mostSeen 110 = .ok (.iconst 1, 1) := by decide +kernel
theorem dX10_mostSeen_111 : decode cX10_mostSeen 111 = .ok (.goto 4, 3) := by decide +kernel
theorem dX10_mostSeen_114 : decode cX10_mostSeen 114 = .ok (.iconst 0, 1) := by decide +kernel
theorem dX10_mostSeen_115 : decode cX10_mostSeen 115 = .ok (.iadd, 1) := by decide +kernel
theorem dX10_mostSeen_116 : decode cX10_mostSeen 116 = .ok (.istore 6, 2) := by decide +kernel
theorem dX10_mostSeen_118 : decode cX10_mostSeen 118 = .ok (.iinc 7 1, 3) := by decide +kernel
theorem dX10_mostSeen_121 : decode cX10_mostSeen 121 = .ok (.goto (-41), 3) := by decide +kernel
theorem dX10_mostSeen_124 : decode cX10_mostSeen 124 = .ok (.iload 5, 2) := by decide +kernel
theorem dX10_mostSeen_126 : decode cX10_mostSeen 126 = .ok (.ifCond .eq 27, 3) := by decide +kernel
theorem dX10_mostSeen_129 : decode cX10_mostSeen 129 = .ok (.aload_n 0, 1) := by decide +kernel
theorem dX10_mostSeen_130 : decode cX10_mostSeen 130 = .ok (.getfield 7, 3) := by decide +kernel
theorem dX10_mostSeen_133 : decode cX10_mostSeen 133 = .ok (.iconst 4, 1) := by decide +kernel
theorem dX10_mostSeen_134 : decode cX10_mostSeen 134 = .ok (.iaload, 1) := by decide +kernel
theorem dX10_mostSeen_135 : decode cX10_mostSeen 135 = .ok (.iload 4, 2) := by decide +kernel
theorem dX10_mostSeen_137 : decode cX10_mostSeen 137 = .ok (.invokestatic 207, 3) := by decide +kernel
theorem dX10_mostSeen_140 : decode cX10_mostSeen 140 = .ok (.ifCond .ne 13, 3) := by decide +kernel
theorem dX10_mostSeen_143 : decode cX10_mostSeen 143 = .ok (.iload 6, 2) := by decide +kernel
theorem dX10_mostSeen_145 : decode cX10_mostSeen 145 = .ok (.iload_n 3, 1) := by decide +kernel
theorem dX10_mostSeen_146 : decode cX10_mostSeen 146 = .ok (.if_icmp .le 7, 3) := by decide +kernel
theorem dX10_mostSeen_149 : decode cX10_mostSeen 149 = .ok (.iconst 1, 1) := by decide +kernel
theorem dX10_mostSeen_150 : decode cX10_mostSeen 150 = .ok (.goto 4, 3) := by decide +kernel
theorem dX10_mostSeen_153 : decode cX10_mostSeen 153 = .ok (.iconst 0, 1) := by decide +kernel
theorem dX10_mostSeen_154 : decode cX10_mostSeen 154 = .ok (.istore 7, 2) := by decide +kernel
theorem dX10_mostSeen_156 : decode cX10_mostSeen 156 = .ok (.iload 7, 2) := by decide +kernel
theorem dX10_mostSeen_158 : decode cX10_mostSeen 158 = .ok (.ifCond .eq 8, 3) := by decide +kernel
theorem dX10_mostSeen_161 : decode cX10_mostSeen 161 = .ok (.iload 4, 2) := by decide +kernel
theorem dX10_mostSeen_163 : decode cX10_mostSeen 163 = .ok (.goto 4, 3) := by decide +kernel
theorem dX10_mostSeen_166 : decode cX10_mostSeen 166 = .ok (.iload_n 2, 1) := by decide +kernel
theorem dX10_mostSeen_167 : decode cX10_mostSeen 167 = .ok (.istore_n 2, 1) := by decide +kernel
theorem dX10_mostSeen_168 : decode cX10_mostSeen 168 = .ok (.iload 7, 2) := by decide +kernel
theorem dX10_mostSeen_170 : decode cX10_mostSeen 170 = .ok (.ifCond .eq 8, 3) := by decide +kernel
theorem dX10_mostSeen_173 : decode cX10_mostSeen 173 = .ok (.iload 6, 2) := by decide +kernel
theorem dX10_mostSeen_175 : decode cX10_mostSeen 175 = .ok (.goto 4, 3) := by decide +kernel
theorem dX10_mostSeen_178 : decode cX10_mostSeen 178 = .ok (.iload_n 3, 1) := by decide +kernel
theorem dX10_mostSeen_179 : decode cX10_mostSeen 179 = .ok (.istore_n 3, 1) := by decide +kernel
theorem dX10_mostSeen_180 : decode cX10_mostSeen 180 = .ok (.iinc 4 1, 3) := by decide +kernel
theorem dX10_mostSeen_183 : decode cX10_mostSeen 183 = .ok (.goto (-163), 3) := by decide +kernel
theorem dX10_mostSeen_186 : decode cX10_mostSeen 186 = .ok (.iload_n 1, 1) := by decide +kernel
theorem dX10_mostSeen_187 : decode cX10_mostSeen 187 = .ok (.ifCond .ne 7, 3) := by decide +kernel
theorem dX10_mostSeen_190 : decode cX10_mostSeen 190 = .ok (.iload_n 2, 1) := by decide +kernel
theorem dX10_mostSeen_191 : decode cX10_mostSeen 191 = .ok (.goto 4, 3) := by decide +kernel
theorem dX10_mostSeen_194 : decode cX10_mostSeen 194 = .ok (.iload_n 3, 1) := by decide +kernel
theorem dX10_mostSeen_195 : decode cX10_mostSeen 195 = .ok (.ireturn, 1) := by decide +kernel
theorem dX10_learn_0 : decode cX10_learn 0 = .ok (.iconst 0, 1) := by decide +kernel
theorem dX10_learn_1 : decode cX10_learn 1 = .ok (.istore_n 1, 1) := by decide +kernel
theorem dX10_learn_2 : decode cX10_learn 2 = .ok (.iconst 0, 1) := by decide +kernel
theorem dX10_learn_3 : decode cX10_learn 3 = .ok (.istore_n 2, 1) := by decide +kernel
theorem dX10_learn_4 : decode cX10_learn 4 = .ok (.iload_n 2, 1) := by decide +kernel
theorem dX10_learn_5 : decode cX10_learn 5 = .ok (.aload_n 0, 1) := by decide +kernel
theorem dX10_learn_6 : decode cX10_learn 6 = .ok (.getfield 94, 3) := by decide +kernel
theorem dX10_learn_9 : decode cX10_learn 9 = .ok (.if_icmp .ge 40, 3) := by decide +kernel
theorem dX10_learn_12 : decode cX10_learn 12 = .ok (.iload_n 1, 1) := by decide +kernel
theorem dX10_learn_13 : decode cX10_learn 13 = .ok (.aload_n 0, 1) := by decide +kernel
theorem dX10_learn_14 : decode cX10_learn 14 = .ok (.getfield 7, 3) := by decide +kernel
theorem dX10_learn_17 : decode cX10_learn 17 = .ok (.iconst 2, 1) := by decide +kernel
theorem dX10_learn_18 : decode cX10_learn 18 = .ok (.iaload, 1) := by decide +kernel
theorem dX10_learn_19 : decode cX10_learn 19 = .ok (.iload_n 2, 1) := by decide +kernel
theorem dX10_learn_20 : decode cX10_learn 20 = .ok (.invokestatic 207, 3) := by decide +kernel
theorem dX10_learn_23 : decode cX10_learn 23 = .ok (.ifCond .eq 7, 3) := by decide +kernel
theorem dX10_learn_26 : decode cX10_learn 26 = .ok (.iconst 0, 1) := by decide +kernel
theorem dX10_learn_27 : decode cX10_learn 27 = .ok (.goto 14, 3) := by decide +kernel
theorem dX10_learn_30 : decode cX10_learn 30 = .ok (.iconst 1, 1) := by decide +kernel
theorem dX10_learn_31 : decode cX10_learn 31 = .ok (.aload_n 0, 1) := by decide +kernel
theorem dX10_learn_32 : decode cX10_learn 32 = .ok (.getfield 7, 3) := by decide +kernel
theorem dX10_learn_35 : decode cX10_learn 35 = .ok (.bipush 8, 2) := by decide +kernel
theorem dX10_learn_37 : decode cX10_learn 37 = .ok (.iload_n 2, 1) := by decide +kernel
theorem dX10_learn_38 : decode cX10_learn 38 = .ok (.iadd, 1) := by decide +kernel
theorem dX10_learn_39 : decode cX10_learn 39 = .ok (.iaload, 1) := by decide +kernel
theorem dX10_learn_40 : decode cX10_learn 40 = .ok (.ishl, 1) := by decide +kernel
theorem dX10_learn_41 : decode cX10_learn 41 = .ok (.ior, 1) := by decide +kernel
theorem dX10_learn_42 : decode cX10_learn 42 = .ok (.istore_n 1, 1) := by decide +kernel
theorem dX10_learn_43 : decode cX10_learn 43 = .ok (.iinc 2 1, 3) := by decide +kernel
theorem dX10_learn_46 : decode cX10_learn 46 = .ok (.goto (-42), 3) := by decide +kernel
theorem dX10_learn_49 : decode cX10_learn 49 = .ok (.iload_n 1, 1) := by decide +kernel
theorem dX10_learn_50 : decode cX10_learn 50 = .ok (.aload_n 0, 1) := by decide +kernel
theorem dX10_learn_51 : decode cX10_learn 51 = .ok (.getfield 7, 3) := by decide +kernel
theorem dX10_learn_54 : decode cX10_learn 54 = .ok (.iconst 1, 1) := by decide +kernel
theorem dX10_learn_55 : decode cX10_learn 55 = .ok (.iaload, 1) := by decide +kernel
theorem dX10_learn_56 : decode cX10_learn 56 = .ok (.iconst (-1), 1) := by decide +kernel
theorem dX10_learn_57 : decode cX10_learn 57 = .ok (.ixor, 1) := by decide +kernel
theorem dX10_learn_58 : decode cX10_learn 58 = .ok (.iand, 1) := by decide +kernel
theorem dX10_learn_59 : decode cX10_learn 59 = .ok (.ireturn, 1) := by decide +kernel
theorem dX10_steamed_0 : decode cX10_steamed 0 = .ok (.iload_n 1, 1) := by decide +kernel
theorem dX10_steamed_1 : decode cX10_steamed 1 = .ok (.i2l, 1) := by decide +kernel
theorem dX10_steamed_2 : decode cX10_steamed 2 = .ok (.lconst 0, 1) := by decide +kernel
theorem dX10_steamed_3 : decode cX10_steamed 3 = .ok (.ldc2_w 269, 3) := by decide +kernel
theorem dX10_steamed_6 : decode cX10_steamed 6 = .ok (.invokestatic 87, 3) := by decide +kernel
theorem dX10_steamed_9 : decode cX10_steamed 9 = .ok (.ifCond .eq 15, 3) := by decide +kernel
theorem dX10_steamed_12 : decode cX10_steamed 12 = .ok (.iload_n 2, 1) := by decide +kernel
theorem dX10_steamed_13 : decode cX10_steamed 13 = .ok (.i2l, 1) := by decide +kernel
theorem dX10_steamed_14 : decode cX10_steamed 14 = .ok (.lconst 0, 1) := by decide +kernel
theorem dX10_steamed_15 : decode cX10_steamed 15 = .ok (.ldc2_w 271, 3) := by decide +kernel
theorem dX10_steamed_18 : decode cX10_steamed 18 = .ok (.invokestatic 87, 3) := by decide +kernel
theorem dX10_steamed_21 : decode cX10_steamed 21 = .ok (.ifCond .ne 6, 3) := by decide +kernel
theorem dX10_steamed_24 : decode cX10_steamed 24 = .ok (.ldc 104, 2) := by decide +kernel
theorem dX10_steamed_26 : decode cX10_steamed 26 = .ok (.ireturn, 1) := by decide +kernel
theorem dX10_steamed_27 : decode cX10_steamed 27 = .ok (.ldc2_w 273, 3) := by decide +kernel
theorem dX10_steamed_30 : decode cX10_steamed 30 = .ok (.lstore_n 3, 1) := by decide +kernel
theorem dX10_steamed_31 : decode cX10_steamed 31 = .ok (.iconst 0, 1) := by decide +kernel
theorem dX10_steamed_32 : decode cX10_steamed 32 = .ok (.istore 5, 2) := by decide +kernel
theorem dX10_steamed_34 : decode cX10_steamed 34 = .ok (.iload 5, 2) := by decide +kernel
theorem dX10_steamed_36 : decode cX10_steamed 36 = .ok (.iload_n 1, 1) := by decide +kernel
theorem dX10_steamed_37 : decode cX10_steamed 37 = .ok (.if_icmp .ge 21, 3) := by decide +kernel
theorem dX10_steamed_40 : decode cX10_steamed 40 = .ok (.lload_n 3, 1) := by decide +kernel
theorem dX10_steamed_41 : decode cX10_steamed 41 = .ok (.bipush 100, 2) := by decide +kernel
theorem dX10_steamed_43 : decode cX10_steamed 43 = .ok (.iload_n 2, 1) := by decide +kernel
theorem dX10_steamed_44 : decode cX10_steamed 44 = .ok (.isub, 1) := by decide +kernel
theorem dX10_steamed_45 : decode cX10_steamed 45 = .ok (.i2l, 1) := by decide +kernel
theorem dX10_steamed_46 : decode cX10_steamed 46 = .ok (.lmul, 1) := by decide +kernel
theorem dX10_steamed_47 : decode cX10_steamed 47 = .ok (.ldc2_w 271, 3) := by decide +kernel
theorem dX10_steamed_50 : decode cX10_steamed 50 = .ok (.ldiv, 1) := by decide +kernel
theorem dX10_steamed_51 : decode cX10_steamed 51 = .ok (.lstore_n 3, 1) := by decide +kernel
theorem dX10_steamed_52 : decode cX10_steamed 52 = .ok (.iinc 5 1, 3) := by decide +kernel
theorem dX10_steamed_55 : decode cX10_steamed 55 = .ok (.goto (-21), 3) := by decide +kernel
theorem dX10_steamed_58 : decode cX10_steamed 58 = .ok (.lload_n 3, 1) := by decide +kernel
theorem dX10_steamed_59 : decode cX10_steamed 59 = .ok (.l2i, 1) := by decide +kernel
theorem dX10_steamed_60 : decode cX10_steamed 60 = .ok (.ireturn, 1) := by decide +kernel
theorem dX10_ask_0 : decode cX10_ask 0 = .ok (.aload_n 0, 1) := by decide +kernel
theorem dX10_ask_1 : decode cX10_ask 1 = .ok (.iload_n 1, 1) := by decide +kernel
theorem dX10_ask_2 : decode cX10_ask 2 = .ok (.invokevirtual 197, 3) := by decide +kernel
theorem dX10_ask_5 : decode cX10_ask 5 = .ok (.ifCond .eq 10, 3) := by decide +kernel
theorem dX10_ask_8 : decode cX10_ask 8 = .ok (.iload_n 2, 1) := by decide +kernel
theorem dX10_ask_9 : decode cX10_ask 9 = .ok (.invokestatic 232, 3) := by decide +kernel
theorem dX10_ask_12 : decode cX10_ask 12 = .ok (.ifCond .ne 6, 3) := by decide +kernel
theorem dX10_ask_15 : decode cX10_ask 15 = .ok (.ldc 200, 2) := by decide +kernel
theorem dX10_ask_17 : decode cX10_ask 17 = .ok (.ireturn, 1) := by decide +kernel
theorem dX10_ask_18 : decode cX10_ask 18 = .ok (.aload_n 0, 1) := by decide +kernel
theorem dX10_ask_19 : decode cX10_ask 19 = .ok (.getfield 184, 3) := by decide +kernel
theorem dX10_ask_22 : decode cX10_ask 22 = .ok (.bipush 8, 2) := by decide +kernel
theorem dX10_ask_24 : decode cX10_ask 24 = .ok (.if_icmp .ne 6, 3) := by decide +kernel
theorem dX10_ask_27 : decode cX10_ask 27 = .ok (.ldc 108, 2) := by decide +kernel
theorem dX10_ask_29 : decode cX10_ask 29 = .ok (.ireturn, 1) := by decide +kernel
theorem dX10_ask_30 : decode cX10_ask 30 = .ok (.aload_n 0, 1) := by decide +kernel
theorem dX10_ask_31 : decode cX10_ask 31 = .ok (.getfield 69, 3) := by decide +kernel
theorem dX10_ask_34 : decode cX10_ask 34 = .ok (.aload_n 0, 1) := by decide +kernel
theorem dX10_ask_35 : decode cX10_ask 35 = .ok (.getfield 184, 3) := by decide +kernel
theorem dX10_ask_38 : decode cX10_ask 38 = .ok (.iload_n 1, 1) := by decide +kernel
theorem dX10_ask_39 : decode cX10_ask 39 = .ok (.iastore, 1) := by decide +kernel
theorem dX10_ask_40 : decode cX10_ask 40 = .ok (.aload_n 0, 1) := by decide +kernel
theorem dX10_ask_41 : decode cX10_ask 41 = .ok (.getfield 72, 3) := by decide +kernel
theorem dX10_ask_44 : decode cX10_ask 44 = .ok (.aload_n 0, 1) := by decide +kernel
theorem dX10_ask_45 : decode cX10_ask 45 = .ok (.getfield 184, 3) := by decide +kernel
theorem dX10_ask_48 : decode cX10_ask 48 = .ok (.iload_n 2, 1) := by decide +kernel
theorem dX10_ask_49 : decode cX10_ask 49 = .ok (.iastore, 1) := by decide +kernel
theorem dX10_ask_50 : decode cX10_ask 50 = .ok (.aload_n 0, 1) := by decide +kernel
theorem dX10_ask_51 : decode cX10_ask 51 = .ok (.getfield 75, 3) := by decide +kernel
theorem dX10_ask_54 : decode cX10_ask 54 = .ok (.aload_n 0, 1) := by decide +kernel
theorem dX10_ask_55 : decode cX10_ask 55 = .ok (.getfield 184, 3) := by decide +kernel
theorem dX10_ask_58 : decode cX10_ask 58 = .ok (.iload_n 3, 1) := by decide +kernel
theorem dX10_ask_59 : decode cX10_ask 59 = .ok (.bastore, 1) := by decide +kernel
theorem dX10_ask_60 : decode cX10_ask 60 = .ok (.aload_n 0, 1) := by decide +kernel
theorem dX10_ask_61 : decode cX10_ask 61 = .ok (.dup, 1) := by decide +kernel
theorem dX10_ask_62 : decode cX10_ask 62 = .ok (.getfield 184, 3) := by decide +kernel
theorem dX10_ask_65 : decode cX10_ask 65 = .ok (.iconst 1, 1) := by decide +kernel
theorem dX10_ask_66 : decode cX10_ask 66 = .ok (.iadd, 1) := by decide +kernel
theorem dX10_ask_67 : decode cX10_ask 67 = .ok (.putfield 184, 3) := by decide +kernel
theorem dX10_ask_70 : decode cX10_ask 70 = .ok (.aload_n 0, 1) := by decide +kernel
theorem dX10_ask_71 : decode cX10_ask 71 = .ok (.getfield 184, 3) := by decide +kernel
theorem dX10_ask_74 : decode cX10_ask 74 = .ok (.ireturn, 1) := by decide +kernel
theorem dX10_nameBy_0 : decode cX10_nameBy 0 = .ok (.aload_n 0, 1) := by decide +kernel
theorem dX10_nameBy_1 : decode cX10_nameBy 1 = .ok (.getfield 26, 3) := by decide +kernel
theorem dX10_nameBy_4 : decode cX10_nameBy 4 = .ok (.iload_n 1, 1) := by decide +kernel
theorem dX10_nameBy_5 : decode cX10_nameBy 5 = .ok (.iload_n 2, 1) := by decide +kernel
theorem dX10_nameBy_6 : decode cX10_nameBy 6 = .ok (.if_icmp .ne 7, 3) := by decide +kernel
theorem dX10_nameBy_9 : decode cX10_nameBy 9 = .ok (.iload_n 3, 1) := by decide +kernel
theorem dX10_nameBy_10 : decode cX10_nameBy 10 = .ok (.goto 13, 3) := by decide +kernel
theorem dX10_nameBy_13 : decode cX10_nameBy 13 = .ok (.iload_n 1, 1) := by decide +kernel
theorem dX10_nameBy_14 : decode cX10_nameBy 14 = .ok (.iload_n 3, 1) := by decide +kernel
theorem dX10_nameBy_15 : decode cX10_nameBy 15 = .ok (.if_icmp .ne 7, 3) := by decide +kernel
theorem dX10_nameBy_18 : decode cX10_nameBy 18 = .ok (.iload_n 2, 1) := by decide +kernel
theorem dX10_nameBy_19 : decode cX10_nameBy 19 = .ok (.goto 4, 3) := by decide +kernel
theorem dX10_nameBy_22 : decode cX10_nameBy 22 = .ok (.iload_n 1, 1) := by decide +kernel
theorem dX10_nameBy_23 : decode cX10_nameBy 23 = .ok (.iaload, 1) := by decide +kernel
theorem dX10_nameBy_24 : decode cX10_nameBy 24 = .ok (.ireturn, 1) := by decide +kernel
theorem dX10_isSo_0 : decode cX10_isSo 0 = .ok (.iconst 1, 1) := by decide +kernel
theorem dX10_isSo_1 : decode cX10_isSo 1 = .ok (.istore_n 3, 1) := by decide +kernel
theorem dX10_isSo_2 : decode cX10_isSo 2 = .ok (.iconst 0, 1) := by decide +kernel
theorem dX10_isSo_3 : decode cX10_isSo 3 = .ok (.istore 4, 2) := by decide +kernel
theorem dX10_isSo_5 : decode cX10_isSo 5 = .ok (.iload 4, 2) := by decide +kernel
theorem dX10_isSo_7 : decode cX10_isSo 7 = .ok (.aload_n 0, 1) := by decide +kernel
theorem dX10_isSo_8 : decode cX10_isSo 8 = .ok (.getfield 184, 3) := by decide +kernel
theorem dX10_isSo_11 : decode cX10_isSo 11 = .ok (.if_icmp .ge 57, 3) := by decide +kernel
theorem dX10_isSo_14 : decode cX10_isSo 14 = .ok (.iload_n 3, 1) := by decide +kernel
theorem dX10_isSo_15 : decode cX10_isSo 15 = .ok (.ifCond .eq 45, 3) := by decide +kernel
theorem dX10_isSo_18 : decode cX10_isSo 18 = .ok (.aload_n 0, 1) := by decide +kernel
theorem dX10_isSo_19 : decode cX10_isSo 19 = .ok (.aload_n 0, 1) := by decide +kernel
theorem dX10_isSo_20 : decode cX10_isSo 20 = .ok (.getfield 69, 3) := by decide +kernel
theorem dX10_isSo_23 : decode cX10_isSo 23 = .ok (.iload 4, 2) := by decide +kernel
theorem dX10_isSo_25 : decode cX10_isSo 25 = .ok (.iaload, 1) := by decide +kernel
theorem dX10_isSo_26 : decode cX10_isSo 26 = .ok (.iload_n 1, 1) := by decide +kernel
theorem dX10_isSo_27 : decode cX10_isSo 27 = .ok (.iload_n 2, 1) := by decide +kernel
theorem dX10_isSo_28 : decode cX10_isSo 28 = .ok (.invokevirtual 275, 3) := by decide +kernel
theorem dX10_isSo_31 : decode cX10_isSo 31 = .ok (.aload_n 0, 1) := by decide +kernel
theorem dX10_isSo_32 : decode cX10_isSo 32 = .ok (.getfield 72, 3) := by decide +kernel
theorem dX10_isSo_35 : decode cX10_isSo 35 = .ok (.iload 4, 2) := by decide +kernel
theorem dX10_isSo_37 : decode cX10_isSo 37 = .ok (.iaload, 1) := by decide +kernel
theorem dX10_isSo_38 : decode cX10_isSo 38 = .ok (.if_icmp .ne 7, 3) := by decide +kernel
theorem dX10_isSo_41 : decode cX10_isSo 41 = .ok (.iconst 1, 1) := by decide +kernel
theorem dX10_isSo_42 : decode cX10_isSo 42 = .ok (.goto 4, 3) := by decide +kernel
theorem dX10_isSo_45 : decode cX10_isSo 45 = .ok (.iconst 0, 1) := by decide +kernel
theorem dX10_isSo_46 : decode cX10_isSo 46 = .ok (.aload_n 0, 1) := by decide +kernel
theorem dX10_isSo_47 : decode cX10_isSo 47 = .ok (.getfield 75, 3) := by decide +kernel
theorem dX10_isSo_50 : decode cX10_isSo 50 = .ok (.iload 4, 2) := by decide +kernel
theorem dX10_isSo_52 : decode cX10_isSo 52 = .ok (.baload, 1) := by decide +kernel
theorem dX10_isSo_53 : decode cX10_isSo 53 = .ok (.if_icmp .ne 7, 3) := by decide +kernel
theorem dX10_isSo_56 : decode cX10_isSo 56 = .ok (.iconst 1, 1) := by decide +kernel
theorem dX10_isSo_57 : decode cX10_isSo 57 = .ok (.goto 4, 3) := by decide +kernel
theorem dX10_isSo_60 : decode cX10_isSo 60 = .ok (.iconst 0, 1) := by decide +kernel
theorem dX10_isSo_61 : decode cX10_isSo 61 = .ok (.istore_n 3, 1) := by decide +kernel
theorem dX10_isSo_62 : decode cX10_isSo 62 = .ok (.iinc 4 1, 3) := by decide +kernel
theorem dX10_isSo_65 : decode cX10_isSo 65 = .ok (.goto (-60), 3) := by decide +kernel
theorem dX10_isSo_68 : decode cX10_isSo 68 = .ok (.iload_n 3, 1) := by decide +kernel
theorem dX10_isSo_69 : decode cX10_isSo 69 = .ok (.ireturn, 1) := by decide +kernel
theorem dX10_mayBe_0 : decode cX10_mayBe 0 = .ok (.iload_n 1, 1) := by decide +kernel
theorem dX10_mayBe_1 : decode cX10_mayBe 1 = .ok (.iload_n 2, 1) := by decide +kernel
theorem dX10_mayBe_2 : decode cX10_mayBe 2 = .ok (.if_icmp .ne 10, 3) := by decide +kernel
theorem dX10_mayBe_5 : decode cX10_mayBe 5 = .ok (.iload_n 1, 1) := by decide +kernel
theorem dX10_mayBe_6 : decode cX10_mayBe 6 = .ok (.ifCond .ne 34, 3) := by decide +kernel
theorem dX10_mayBe_9 : decode cX10_mayBe 9 = .ok (.goto 18, 3) := by decide +kernel
theorem dX10_mayBe_12 : decode cX10_mayBe 12 = .ok (.aload_n 0, 1) := by decide +kernel
theorem dX10_mayBe_13 : decode cX10_mayBe 13 = .ok (.getfield 26, 3) := by decide +kernel
theorem dX10_mayBe_16 : decode cX10_mayBe 16 = .ok (.iload_n 1, 1) := by decide +kernel
theorem dX10_mayBe_17 : decode cX10_mayBe 17 = .ok (.iaload, 1) := by decide +kernel
theorem dX10_mayBe_18 : decode cX10_mayBe 18 = .ok (.aload_n 0, 1) := by decide +kernel
theorem dX10_mayBe_19 : decode cX10_mayBe 19 = .ok (.getfield 26, 3) := by decide +kernel
theorem dX10_mayBe_22 : decode cX10_mayBe 22 = .ok (.iload_n 2, 1) := by decide +kernel
theorem dX10_mayBe_23 : decode cX10_mayBe 23 = .ok (.iaload, 1) := by decide +kernel
theorem dX10_mayBe_24 : decode cX10_mayBe 24 = .ok (.if_icmp .eq 16, 3) := by decide +kernel
theorem dX10_mayBe_27 : decode cX10_mayBe 27 = .ok (.aload_n 0, 1) := by decide +kernel
theorem dX10_mayBe_28 : decode cX10_mayBe 28 = .ok (.iload_n 1, 1) := by decide +kernel
theorem dX10_mayBe_29 : decode cX10_mayBe 29 = .ok (.iload_n 2, 1) := by decide +kernel
theorem dX10_mayBe_30 : decode cX10_mayBe 30 = .ok (.invokevirtual 278, 3) := by decide +kernel
theorem dX10_mayBe_33 : decode cX10_mayBe 33 = .ok (.ifCond .eq 7, 3) := by decide +kernel
theorem dX10_mayBe_36 : decode cX10_mayBe 36 = .ok (.iconst 1, 1) := by decide +kernel
theorem dX10_mayBe_37 : decode cX10_mayBe 37 = .ok (.goto 4, 3) := by decide +kernel
theorem dX10_mayBe_40 : decode cX10_mayBe 40 = .ok (.iconst 0, 1) := by decide +kernel
theorem dX10_mayBe_41 : decode cX10_mayBe 41 = .ok (.ireturn, 1) := by decide +kernel
theorem dX10_changed_0 : decode cX10_changed 0 = .ok (.iload_n 1, 1) := by decide +kernel
theorem dX10_changed_1 : decode cX10_changed 1 = .ok (.bipush (-2), 2) := by decide +kernel
theorem dX10_changed_3 : decode cX10_changed 3 = .ok (.if_icmp .ne 18, 3) := by decide +kernel
theorem dX10_changed_6 : decode cX10_changed 6 = .ok (.aload_n 0, 1) := by decide +kernel
theorem dX10_changed_7 : decode cX10_changed 7 = .ok (.iconst 0, 1) := by decide +kernel
theorem dX10_changed_8 : decode cX10_changed 8 = .ok (.iconst 0, 1) := by decide +kernel
theorem dX10_changed_9 : decode cX10_changed 9 = .ok (.invokevirtual 278, 3) := by decide +kernel
theorem dX10_changed_12 : decode cX10_changed 12 = .ok (.ifCond .eq 7, 3) := by decide +kernel
theorem dX10_changed_15 : decode cX10_changed 15 = .ok (.iconst 1, 1) := by decide +kernel
theorem dX10_changed_16 : decode cX10_changed 16 = .ok (.goto 4, 3) := by decide +kernel
theorem dX10_changed_19 : decode cX10_changed 19 = .ok (.iconst 0, 1) := by decide +kernel
theorem dX10_changed_20 : decode cX10_changed 20 = .ok (.ireturn, 1) := by decide +kernel
theorem dX10_changed_21 : decode cX10_changed 21 = .ok (.iconst 0, 1) := by decide +kernel
theorem dX10_changed_22 : decode cX10_changed 22 = .ok (.istore_n 2, 1) := by decide +kernel
theorem dX10_changed_23 : decode cX10_changed 23 = .ok (.iconst 0, 1) := by decide +kernel
theorem dX10_changed_24 : decode cX10_changed 24 = .ok (.istore_n 3, 1) := by decide +kernel
theorem dX10_changed_25 : decode cX10_changed 25 = .ok (.iload_n 3, 1) := by decide +kernel
theorem dX10_changed_26 : decode cX10_changed 26 = .ok (.aload_n 0, 1) := by decide +kernel
theorem dX10_changed_27 : decode cX10_changed 27 = .ok (.getfield 94, 3) := by decide +kernel
theorem dX10_changed_30 : decode cX10_changed 30 = .ok (.if_icmp .ge 55, 3) := by decide +kernel
theorem dX10_changed_33 : decode cX10_changed 33 = .ok (.iload_n 3, 1) := by decide +kernel
theorem dX10_changed_34 : decode cX10_changed 34 = .ok (.iconst 1, 1) := by decide +kernel
theorem dX10_changed_35 : decode cX10_changed 35 = .ok (.iadd, 1) := by decide +kernel
theorem dX10_changed_36 : decode cX10_changed 36 = .ok (.istore 4, 2) := by decide +kernel
theorem dX10_changed_38 : decode cX10_changed 38 = .ok (.iload 4, 2) := by decide +kernel
theorem dX10_changed_40 : decode cX10_changed 40 = .ok (.aload_n 0, 1) := by decide +kernel
theorem dX10_changed_41 : decode cX10_changed 41 = .ok (.getfield 94, 3) := by decide +kernel
theorem dX10_changed_44 : decode cX10_changed 44 = .ok (.if_icmp .ge 35, 3) := by decide +kernel
theorem dX10_changed_47 : decode cX10_changed 47 = .ok (.aload_n 0, 1) := by decide +kernel
theorem dX10_changed_48 : decode cX10_changed 48 = .ok (.iload_n 3, 1) := by decide +kernel
theorem dX10_changed_49 : decode cX10_changed 49 = .ok (.iload 4, 2) := by decide +kernel
theorem dX10_changed_51 : decode cX10_changed 51 = .ok (.invokevirtual 281, 3) := by decide +kernel
theorem dX10_changed_54 : decode cX10_changed 54 = .ok (.ifCond .eq 19, 3) := by decide +kernel
theorem dX10_changed_57 : decode cX10_changed 57 = .ok (.iload_n 2, 1) := by decide +kernel
theorem dX10_changed_58 : decode cX10_changed 58 = .ok (.iload_n 1, 1) := by decide +kernel
theorem dX10_changed_59 : decode cX10_changed 59 = .ok (.if_icmp .ne 11, 3) := by decide +kernel
theorem dX10_changed_62 : decode cX10_changed 62 = .ok (.bipush 10, 2) := by decide +kernel
theorem dX10_changed_64 : decode cX10_changed 64 = .ok (.iload_n 3, 1) := by decide +kernel
theorem dX10_changed_65 : decode cX10_changed 65 = .ok (.imul, 1) := by decide +kernel
theorem dX10_changed_66 : decode cX10_changed 66 = .ok (.iload 4, 2) := by decide +kernel
theorem dX10_changed_68 : decode cX10_changed 68 = .ok (.iadd, 1) := by decide +kernel
theorem dX10_changed_69 : decode cX10_changed 69 = .ok (.ireturn, 1) := by decide +kernel
theorem dX10_changed_70 : decode cX10_changed 70 = .ok (.iinc 2 1, 3) := by decide +kernel
theorem dX10_changed_73 : decode cX10_changed 73 = .ok (.iinc 4 1, 3) := by decide +kernel
theorem dX10_changed_76 : decode cX10_changed 76 = .ok (.goto (-38), 3) := by decide +kernel
theorem dX10_changed_79 : decode cX10_changed 79 = .ok (.iinc 3 1, 3) := by decide +kernel
theorem dX10_changed_82 : decode cX10_changed 82 = .ok (.goto (-57), 3) := by decide +kernel
theorem dX10_changed_85 : decode cX10_changed 85 = .ok (.iload_n 1, 1) := by decide +kernel
theorem dX10_changed_86 : decode cX10_changed 86 = .ok (.iconst (-1), 1) := by decide +kernel
theorem dX10_changed_87 : decode cX10_changed 87 = .ok (.if_icmp .ne 7, 3) := by decide +kernel
theorem dX10_changed_90 : decode cX10_changed 90 = .ok (.iload_n 2, 1) := by decide +kernel
theorem dX10_changed_91 : decode cX10_changed 91 = .ok (.goto 4, 3) := by decide +kernel
theorem dX10_changed_94 : decode cX10_changed 94 = .ok (.iconst (-1), 1) := by decide +kernel
theorem dX10_changed_95 : decode cX10_changed 95 = .ok (.ireturn, 1) := by decide +kernel
theorem dX10_askNext_0 : decode cX10_askNext 0 = .ok (.iconst (-1), 1) := by decide +kernel
theorem dX10_askNext_1 : decode cX10_askNext 1 = .ok (.istore_n 1, 1) := by decide +kernel
theorem dX10_askNext_2 : decode cX10_askNext 2 = .ok (.ldc 251, 2) := by decide +kernel
theorem dX10_askNext_4 : decode cX10_askNext 4 = .ok (.istore_n 2, 1) := by decide +kernel
theorem dX10_askNext_5 : decode cX10_askNext 5 = .ok (.iconst 0, 1) := by decide +kernel
theorem dX10_askNext_6 : decode cX10_askNext 6 = .ok (.istore_n 3, 1) := by decide +kernel
theorem dX10_askNext_7 : decode cX10_askNext 7 = .ok (.iload_n 3, 1) := by decide +kernel
theorem dX10_askNext_8 : decode cX10_askNext 8 = .ok (.aload_n 0, 1) := by decide +kernel
theorem dX10_askNext_9 : decode cX10_askNext 9 = .ok (.getfield 94, 3) := by decide +kernel
theorem dX10_askNext_12 : decode cX10_askNext 12 = .ok (.if_icmp .ge 213, 3) := by decide +kernel
theorem dX10_askNext_15 : decode cX10_askNext 15 = .ok (.iconst 0, 1) := by decide +kernel
theorem dX10_askNext_16 : decode cX10_askNext 16 = .ok (.istore 4, 2) := by decide +kernel
theorem dX10_askNext_18 : decode cX10_askNext 18 = .ok (.iload 4, 2) := by decide +kernel
theorem dX10_askNext_20 : decode cX10_askNext 20 = .ok (.bipush 10, 2) := by decide +kernel
theorem dX10_askNext_22 : decode cX10_askNext 22 = .ok (.if_icmp .ge 197, 3) := by decide +kernel
theorem dX10_askNext_25 : decode cX10_askNext 25 = .ok (.iconst 0, 1) := by decide +kernel
theorem dX10_askNext_26 : decode cX10_askNext 26 = .ok (.istore 5, 2) := by decide +kernel
theorem dX10_askNext_28 : decode cX10_askNext 28 = .ok (.iconst 0, 1) := by decide +kernel
theorem dX10_askNext_29 : decode cX10_askNext 29 = .ok (.istore 6, 2) := by decide +kernel
theorem dX10_askNext_31 : decode cX10_askNext 31 = .ok (.iconst 0, 1) := by decide +kernel
theorem dX10_askNext_32 : decode cX10_askNext 32 = .ok (.istore 7, 2) := by decide +kernel
theorem dX10_askNext_34 : decode cX10_askNext 34 = .ok (.iload 7, 2) := by decide +kernel
theorem dX10_askNext_36 : decode cX10_askNext 36 = .ok (.aload_n 0, 1) := by decide +kernel
theorem dX10_askNext_37 : decode cX10_askNext 37 = .ok (.getfield 94, 3) := by decide +kernel
theorem dX10_askNext_40 : decode cX10_askNext 40 = .ok (.if_icmp .ge 99, 3) := by decide +kernel
theorem dX10_askNext_43 : decode cX10_askNext 43 = .ok (.iload 7, 2) := by decide +kernel
theorem dX10_askNext_45 : decode cX10_askNext 45 = .ok (.istore 8, 2) := by decide +kernel
theorem dX10_askNext_47 : decode cX10_askNext 47 = .ok (.iload 8, 2) := by decide +kernel
theorem dX10_askNext_49 : decode cX10_askNext 49 = .ok (.aload_n 0, 1) := by decide +kernel
theorem dX10_askNext_50 : decode cX10_askNext 50 = .ok (.getfield 94, 3) := by decide +kernel
theorem dX10_askNext_53 : decode cX10_askNext 53 = .ok (.if_icmp .ge 80, 3) := by decide +kernel
theorem dX10_askNext_56 : decode cX10_askNext 56 = .ok (.aload_n 0, 1) := by decide +kernel
theorem dX10_askNext_57 : decode cX10_askNext 57 = .ok (.iload 7, 2) := by decide +kernel
theorem dX10_askNext_59 : decode cX10_askNext 59 = .ok (.iload 8, 2) := by decide +kernel
theorem dX10_askNext_61 : decode cX10_askNext 61 = .ok (.invokevirtual 281, 3) := by decide +kernel
theorem dX10_askNext_64 : decode cX10_askNext 64 = .ok (.istore 9, 2) := by decide +kernel
theorem dX10_askNext_66 : decode cX10_askNext 66 = .ok (.aload_n 0, 1) := by decide +kernel
theorem dX10_askNext_67 : decode cX10_askNext 67 = .ok (.iload_n 3, 1) := by decide +kernel
theorem dX10_askNext_68 : decode cX10_askNext 68 = .ok (.iload 7, 2) := by decide +kernel
theorem dX10_askNext_70 : decode cX10_askNext 70 = .ok (.iload 8, 2) := by decide +kernel
theorem dX10_askNext_72 : decode cX10_askNext 72 = .ok (.invokevirtual 275, 3) := by decide +kernel
theorem dX10_askNext_75 : decode cX10_askNext 75 = .ok (.iload 4, 2) := by decide +kernel
theorem dX10_askNext_77 : decode cX10_askNext 77 = .ok (.if_icmp .ne 7, 3) := by decide +kernel
theorem dX10_askNext_80 : decode cX10_askNext 80 = .ok (.iconst 1, 1) := by decide +kernel
theorem dX10_askNext_81 : decode cX10_askNext 81 = .ok (.goto 4, 3) := by decide +kernel
theorem dX10_askNext_84 : decode cX10_askNext 84 = .ok (.iconst 0, 1) := by decide +kernel
theorem dX10_askNext_85 : decode cX10_askNext 85 = .ok (.istore 10, 2) := by decide +kernel
theorem dX10_askNext_87 : decode cX10_askNext 87 = .ok (.iload 5, 2) := by decide +kernel
theorem dX10_askNext_89 : decode cX10_askNext 89 = .ok (.iload 9, 2) := by decide +kernel
theorem dX10_askNext_91 : decode cX10_askNext 91 = .ok (.ifCond .eq 12, 3) := by decide +kernel
theorem dX10_askNext_94 : decode cX10_askNext 94 = .ok (.iload 10, 2) := by decide +kernel
theorem dX10_askNext_96 : decode cX10_askNext 96 = .ok (.ifCond .eq 7, 3) := by decide +kernel
theorem dX10_askNext_99 : decode cX10_askNext 99 = .ok (.iconst 1, 1) := by decide +kernel
theorem dX10_askNext_100 : decode cX10_askNext 100 = .ok (.goto 4, 3) := by decide +kernel
theorem dX10_askNext_103 : decode cX10_askNext 103 = .ok (.iconst 0, 1) := by decide +kernel
theorem dX10_askNext_104 : decode cX10_askNext 104 = .ok (.iadd, 1) := by decide +kernel
theorem dX10_askNext_105 : decode cX10_askNext 105 = .ok (.istore 5, 2) := by decide +kernel
theorem dX10_askNext_107 : decode cX10_askNext 107 = .ok (.iload 6, 2) := by decide +kernel
theorem dX10_askNext_109 : decode cX10_askNext 109 = .ok (.iload 9, 2) := by decide +kernel
theorem dX10_askNext_111 : decode cX10_askNext 111 = .ok (.ifCond .eq 12, 3) := by decide +kernel
theorem dX10_askNext_114 : decode cX10_askNext 114 = .ok (.iload 10, 2) := by decide +kernel
theorem dX10_askNext_116 : decode cX10_askNext 116 = .ok (.ifCond .ne 7, 3) := by decide +kernel
theorem dX10_askNext_119 : decode cX10_askNext 119 = .ok (.iconst 1, 1) := by decide +kernel
theorem dX10_askNext_120 : decode cX10_askNext 120 = .ok (.goto 4, 3) := by decide +kernel
theorem dX10_askNext_123 : decode cX10_askNext 123 = .ok (.iconst 0, 1) := by decide +kernel
theorem dX10_askNext_124 : decode cX10_askNext 124 = .ok (.iadd, 1) := by decide +kernel
theorem dX10_askNext_125 : decode cX10_askNext 125 = .ok (.istore 6, 2) := by decide +kernel
theorem dX10_askNext_127 : decode cX10_askNext 127 = .ok (.iinc 8 1, 3) := by decide +kernel
theorem dX10_askNext_130 : decode cX10_askNext 130 = .ok (.goto (-83), 3) := by decide +kernel
theorem dX10_askNext_133 : decode cX10_askNext 133 = .ok (.iinc 7 1, 3) := by decide +kernel
theorem dX10_askNext_136 : decode cX10_askNext 136 = .ok (.goto (-102), 3) := by decide +kernel
theorem dX10_askNext_139 : decode cX10_askNext 139 = .ok (.iload 5, 2) := by decide +kernel
theorem dX10_askNext_141 : decode cX10_askNext 141 = .ok (.iload 6, 2) := by decide +kernel
theorem dX10_askNext_143 : decode cX10_askNext 143 = .ok (.if_icmp .le 8, 3) := by decide +kernel
theorem dX10_askNext_146 : decode cX10_askNext 146 = .ok (.iload 5, 2) := by decide +kernel
theorem dX10_askNext_148 : decode cX10_askNext 148 = .ok (.goto 5, 3) := by decide +kernel
theorem dX10_askNext_151 : decode cX10_askNext 151 = .ok (.iload 6, 2) := by decide +kernel
theorem dX10_askNext_153 : decode cX10_askNext 153 = .ok (.istore 7, 2) := by decide +kernel
theorem dX10_askNext_155 : decode cX10_askNext 155 = .ok (.iload 5, 2) := by decide +kernel
theorem dX10_askNext_157 : decode cX10_askNext 157 = .ok (.ifCond .le 12, 3) := by decide +kernel
theorem dX10_askNext_160 : decode cX10_askNext 160 = .ok (.iload 6, 2) := by decide +kernel
theorem dX10_askNext_162 : decode cX10_askNext 162 = .ok (.ifCond .le 7, 3) := by decide +kernel
theorem dX10_askNext_165 : decode cX10_askNext 165 = .ok (.iconst 1, 1) := by decide +kernel
theorem dX10_askNext_166 : decode cX10_askNext 166 = .ok (.goto 4, 3) := by decide +kernel
theorem dX10_askNext_169 : decode cX10_askNext 169 = .ok (.iconst 0, 1) := by decide +kernel
theorem dX10_askNext_170 : decode cX10_askNext 170 = .ok (.istore 8, 2) := by decide +kernel
theorem dX10_askNext_172 : decode cX10_askNext 172 = .ok (.iload 8, 2) := by decide +kernel
theorem dX10_askNext_174 : decode cX10_askNext 174 = .ok (.ifCond .eq 19, 3) := by decide +kernel
theorem dX10_askNext_177 : decode cX10_askNext 177 = .ok (.iload 7, 2) := by decide +kernel
theorem dX10_askNext_179 : decode cX10_askNext 179 = .ok (.iload_n 2, 1) := by decide +kernel
theorem dX10_askNext_180 : decode cX10_askNext 180 = .ok (.if_icmp .ge 13, 3) := by decide +kernel
theorem dX10_askNext_183 : decode cX10_askNext 183 = .ok (.bipush 10, 2) := by decide +kernel
theorem dX10_askNext_185 : decode cX10_askNext 185 = .ok (.iload_n 3, 1) := by decide +kernel
theorem dX10_askNext_186 : decode cX10_askNext 186 = .ok (.imul, 1) := by decide +kernel
theorem dX10_askNext_187 : decode cX10_askNext 187 = .ok (.iload 4, 2) := by decide +kernel
theorem dX10_askNext_189 : decode cX10_askNext 189 = .ok (.iadd, 1) := by decide +kernel
theorem dX10_askNext_190 : decode cX10_askNext 190 = .ok (.goto 4, 3) := by decide +kernel
theorem dX10_askNext_193 : decode cX10_askNext 193 = .ok (.iload_n 1, 1) := by decide +kernel
theorem dX10_askNext_194 : decode cX10_askNext 194 = .ok (.istore_n 1, 1) := by decide +kernel
theorem dX10_askNext_195 : decode cX10_askNext 195 = .ok (.iload 8, 2) := by decide +kernel
theorem dX10_askNext_197 : decode cX10_askNext 197 = .ok (.ifCond .eq 14, 3) := by decide +kernel
theorem dX10_askNext_200 : decode cX10_askNext 200 = .ok (.iload 7, 2) := by decide +kernel
theorem dX10_askNext_202 : decode cX10_askNext 202 = .ok (.iload_n 2, 1) := by decide +kernel
theorem dX10_askNext_203 : decode cX10_askNext 203 = .ok (.if_icmp .ge 8, 3) := by decide +kernel
theorem dX10_askNext_206 : decode cX10_askNext 206 = .ok (.iload 7, 2) := by decide +kernel
theorem dX10_askNext_208 : decode cX10_askNext 208 = .ok (.goto 4, 3) := by decide +kernel
theorem dX10_askNext_211 : decode cX10_askNext 211 = .ok (.iload_n 2, 1) := by decide +kernel
theorem dX10_askNext_212 : decode cX10_askNext 212 = .ok (.istore_n 2, 1) := by decide +kernel
theorem dX10_askNext_213 : decode cX10_askNext 213 = .ok (.iinc 4 1, 3) := by decide +kernel
theorem dX10_askNext_216 : decode cX10_askNext 216 = .ok (.goto (-198), 3) := by decide +kernel
theorem dX10_askNext_219 : decode cX10_askNext 219 = .ok (.iinc 3 1, 3) := by decide +kernel
theorem dX10_askNext_222 : decode cX10_askNext 222 = .ok (.goto (-215), 3) := by decide +kernel
theorem dX10_askNext_225 : decode cX10_askNext 225 = .ok (.iload_n 1, 1) := by decide +kernel
theorem dX10_askNext_226 : decode cX10_askNext 226 = .ok (.ireturn, 1) := by decide +kernel
theorem dX10_called_0 : decode cX10_called 0 = .ok (.aload_n 0, 1) := by decide +kernel
theorem dX10_called_1 : decode cX10_called 1 = .ok (.iload_n 1, 1) := by decide +kernel
theorem dX10_called_2 : decode cX10_called 2 = .ok (.invokevirtual 197, 3) := by decide +kernel
theorem dX10_called_5 : decode cX10_called 5 = .ok (.ifCond .ne 6, 3) := by decide +kernel
theorem dX10_called_8 : decode cX10_called 8 = .ok (.ldc 200, 2) := by decide +kernel
theorem dX10_called_10 : decode cX10_called 10 = .ok (.ireturn, 1) := by decide +kernel
theorem dX10_called_11 : decode cX10_called 11 = .ok (.iconst 0, 1) := by decide +kernel
theorem dX10_called_12 : decode cX10_called 12 = .ok (.istore_n 2, 1) := by decide +kernel
theorem dX10_called_13 : decode cX10_called 13 = .ok (.iconst 0, 1) := by decide +kernel
theorem dX10_called_14 : decode cX10_called 14 = .ok (.istore_n 3, 1) := by decide +kernel
theorem dX10_called_15 : decode cX10_called 15 = .ok (.iload_n 3, 1) := by decide +kernel
theorem dX10_called_16 : decode cX10_called 16 = .ok (.bipush 10, 2) := by decide +kernel
theorem dX10_called_18 : decode cX10_called 18 = .ok (.if_icmp .ge 94, 3) := by decide +kernel
theorem dX10_called_21 : decode cX10_called 21 = .ok (.iconst 1, 1) := by decide +kernel
theorem dX10_called_22 : decode cX10_called 22 = .ok (.istore 4, 2) := by decide +kernel
theorem dX10_called_24 : decode cX10_called 24 = .ok (.iconst 0, 1) := by decide +kernel
theorem dX10_called_25 : decode cX10_called 25 = .ok (.istore 5, 2) := by decide +kernel
theorem dX10_called_27 : decode cX10_called 27 = .ok (.iload 5, 2) := by decide +kernel
theorem dX10_called_29 : decode cX10_called 29 = .ok (.aload_n 0, 1) := by decide +kernel
theorem dX10_called_30 : decode cX10_called 30 = .ok (.getfield 184, 3) := by decide +kernel
theorem dX10_called_33 : decode cX10_called 33 = .ok (.if_icmp .ge 58, 3) := by decide +kernel
theorem dX10_called_36 : decode cX10_called 36 = .ok (.iload 4, 2) := by decide +kernel
theorem dX10_called_38 : decode cX10_called 38 = .ok (.ifCond .eq 44, 3) := by decide +kernel
theorem dX10_called_41 : decode cX10_called 41 = .ok (.aload_n 0, 1) := by decide +kernel
theorem dX10_called_42 : decode cX10_called 42 = .ok (.getfield 69, 3) := by decide +kernel
theorem dX10_called_45 : decode cX10_called 45 = .ok (.iload 5, 2) := by decide +kernel
theorem dX10_called_47 : decode cX10_called 47 = .ok (.iaload, 1) := by decide +kernel
theorem dX10_called_48 : decode cX10_called 48 = .ok (.iload_n 1, 1) := by decide +kernel
theorem dX10_called_49 : decode cX10_called 49 = .ok (.if_icmp .ne 29, 3) := by decide +kernel
theorem dX10_called_52 : decode cX10_called 52 = .ok (.aload_n 0, 1) := by decide +kernel
theorem dX10_called_53 : decode cX10_called 53 = .ok (.getfield 72, 3) := by decide +kernel
theorem dX10_called_56 : decode cX10_called 56 = .ok (.iload 5, 2) := by decide +kernel
theorem dX10_called_58 : decode cX10_called 58 = .ok (.iaload, 1) := by decide +kernel
theorem dX10_called_59 : decode cX10_called 59 = .ok (.iload_n 3, 1) := by decide +kernel
theorem dX10_called_60 : decode cX10_called 60 = .ok (.if_icmp .ne 7, 3) := by decide +kernel
theorem dX10_called_63 : decode cX10_called 63 = .ok (.iconst 1, 1) := by decide +kernel
theorem dX10_called_64 : decode cX10_called 64 = .ok (.goto 4, 3) := by decide +kernel
theorem dX10_called_67 : decode cX10_called 67 = .ok (.iconst 0, 1) := by decide +kernel
theorem dX10_called_68 : decode cX10_called 68 = .ok (.aload_n 0, 1) := by decide +kernel
theorem dX10_called_69 : decode cX10_called 69 = .ok (.getfield 75, 3) := by decide +kernel
theorem dX10_called_72 : decode cX10_called 72 = .ok (.iload 5, 2) := by decide +kernel
theorem dX10_called_74 : decode cX10_called 74 = .ok (.baload, 1) := by decide +kernel
theorem dX10_called_75 : decode cX10_called 75 = .ok (.if_icmp .ne 7, 3) := by decide +kernel
theorem dX10_called_78 : decode cX10_called 78 = .ok (.iconst 1, 1) := by decide +kernel
theorem dX10_called_79 : decode cX10_called 79 = .ok (.goto 4, 3) := by decide +kernel
theorem dX10_called_82 : decode cX10_called 82 = .ok (.iconst 0, 1) := by decide +kernel
theorem dX10_called_83 : decode cX10_called 83 = .ok (.istore 4, 2) := by decide +kernel
theorem dX10_called_85 : decode cX10_called 85 = .ok (.iinc 5 1, 3) := by decide +kernel
theorem dX10_called_88 : decode cX10_called 88 = .ok (.goto (-61), 3) := by decide +kernel
theorem dX10_called_91 : decode cX10_called 91 = .ok (.iload_n 2, 1) := by decide +kernel
theorem dX10_called_92 : decode cX10_called 92 = .ok (.iload 4, 2) := by decide +kernel
theorem dX10_called_94 : decode cX10_called 94 = .ok (.ifCond .eq 9, 3) := by decide +kernel
theorem dX10_called_97 : decode cX10_called 97 = .ok (.iconst 1, 1) := by decide +kernel
theorem dX10_called_98 : decode cX10_called 98 = .ok (.iload_n 3, 1) := by decide +kernel
theorem dX10_called_99 : decode cX10_called 99 = .ok (.ishl, 1) := by decide +kernel
theorem dX10_called_100 : decode cX10_called 100 = .ok (.goto 4, 3) := by decide +kernel
theorem dX10_called_103 : decode cX10_called 103 = .ok (.iconst 0, 1) := by decide +kernel
theorem dX10_called_104 : decode cX10_called 104 = .ok (.ior, 1) := by decide +kernel
theorem dX10_called_105 : decode cX10_called 105 = .ok (.istore_n 2, 1) := by decide +kernel
theorem dX10_called_106 : decode cX10_called 106 = .ok (.iinc 3 1, 3) := by decide +kernel
theorem dX10_called_109 : decode cX10_called 109 = .ok (.goto (-94), 3) := by decide +kernel
theorem dX10_called_112 : decode cX10_called 112 = .ok (.iload_n 2, 1) := by decide +kernel
theorem dX10_called_113 : decode cX10_called 113 = .ok (.ireturn, 1) := by decide +kernel
theorem dX10_write_0 : decode cX10_write 0 = .ok (.aload_n 0, 1) := by decide +kernel
theorem dX10_write_1 : decode cX10_write 1 = .ok (.iload_n 1, 1) := by decide +kernel
theorem dX10_write_2 : decode cX10_write 2 = .ok (.invokevirtual 197, 3) := by decide +kernel
theorem dX10_write_5 : decode cX10_write 5 = .ok (.ifCond .eq 10, 3) := by decide +kernel
theorem dX10_write_8 : decode cX10_write 8 = .ok (.iload_n 2, 1) := by decide +kernel
theorem dX10_write_9 : decode cX10_write 9 = .ok (.invokestatic 232, 3) := by decide +kernel
theorem dX10_write_12 : decode cX10_write 12 = .ok (.ifCond .ne 6, 3) := by decide +kernel
theorem dX10_write_15 : decode cX10_write 15 = .ok (.ldc 200, 2) := by decide +kernel
theorem dX10_write_17 : decode cX10_write 17 = .ok (.ireturn, 1) := by decide +kernel
theorem dX10_write_18 : decode cX10_write 18 = .ok (.aload_n 0, 1) := by decide +kernel
theorem dX10_write_19 : decode cX10_write 19 = .ok (.getfield 187, 3) := by decide +kernel
theorem dX10_write_22 : decode cX10_write 22 = .ok (.bipush 15, 2) := by decide +kernel
theorem dX10_write_24 : decode cX10_write 24 = .ok (.if_icmp .ne 6, 3) := by decide +kernel
theorem dX10_write_27 : decode cX10_write 27 = .ok (.ldc 108, 2) := by decide +kernel
theorem dX10_write_29 : decode cX10_write 29 = .ok (.ireturn, 1) := by decide +kernel
theorem dX10_write_30 : decode cX10_write 30 = .ok (.aload_n 0, 1) := by decide +kernel
theorem dX10_write_31 : decode cX10_write 31 = .ok (.getfield 78, 3) := by decide +kernel
theorem dX10_write_34 : decode cX10_write 34 = .ok (.aload_n 0, 1) := by decide +kernel
theorem dX10_write_35 : decode cX10_write 35 = .ok (.getfield 187, 3) := by decide +kernel
theorem dX10_write_38 : decode cX10_write 38 = .ok (.iload_n 1, 1) := by decide +kernel
theorem dX10_write_39 : decode cX10_write 39 = .ok (.iastore, 1) := by decide +kernel
theorem dX10_write_40 : decode cX10_write 40 = .ok (.aload_n 0, 1) := by decide +kernel
theorem dX10_write_41 : decode cX10_write 41 = .ok (.getfield 81, 3) := by decide +kernel
theorem dX10_write_44 : decode cX10_write 44 = .ok (.aload_n 0, 1) := by decide +kernel
theorem dX10_write_45 : decode cX10_write 45 = .ok (.getfield 187, 3) := by decide +kernel
theorem dX10_write_48 : decode cX10_write 48 = .ok (.iload_n 2, 1) := by decide +kernel
theorem dX10_write_49 : decode cX10_write 49 = .ok (.iastore, 1) := by decide +kernel
theorem dX10_write_50 : decode cX10_write 50 = .ok (.aload_n 0, 1) := by decide +kernel
theorem dX10_write_51 : decode cX10_write 51 = .ok (.dup, 1) := by decide +kernel
theorem dX10_write_52 : decode cX10_write 52 = .ok (.getfield 187, 3) := by decide +kernel
theorem dX10_write_55 : decode cX10_write 55 = .ok (.iconst 1, 1) := by decide +kernel
theorem dX10_write_56 : decode cX10_write 56 = .ok (.iadd, 1) := by decide +kernel
theorem dX10_write_57 : decode cX10_write 57 = .ok (.putfield 187, 3) := by decide +kernel
theorem dX10_write_60 : decode cX10_write 60 = .ok (.aload_n 0, 1) := by decide +kernel
theorem dX10_write_61 : decode cX10_write 61 = .ok (.getfield 187, 3) := by decide +kernel
theorem dX10_write_64 : decode cX10_write 64 = .ok (.ireturn, 1) := by decide +kernel
theorem dX10_tear_0 : decode cX10_tear 0 = .ok (.aload_n 0, 1) := by decide +kernel
theorem dX10_tear_1 : decode cX10_tear 1 = .ok (.getfield 184, 3) := by decide +kernel
theorem dX10_tear_4 : decode cX10_tear 4 = .ok (.aload_n 0, 1) := by decide +kernel
theorem dX10_tear_5 : decode cX10_tear 5 = .ok (.getfield 187, 3) := by decide +kernel
theorem dX10_tear_8 : decode cX10_tear 8 = .ok (.iadd, 1) := by decide +kernel
theorem dX10_tear_9 : decode cX10_tear 9 = .ok (.istore_n 1, 1) := by decide +kernel
theorem dX10_tear_10 : decode cX10_tear 10 = .ok (.aload_n 0, 1) := by decide +kernel
theorem dX10_tear_11 : decode cX10_tear 11 = .ok (.iconst 0, 1) := by decide +kernel
theorem dX10_tear_12 : decode cX10_tear 12 = .ok (.putfield 184, 3) := by decide +kernel
theorem dX10_tear_15 : decode cX10_tear 15 = .ok (.aload_n 0, 1) := by decide +kernel
theorem dX10_tear_16 : decode cX10_tear 16 = .ok (.iconst 0, 1) := by decide +kernel
theorem dX10_tear_17 : decode cX10_tear 17 = .ok (.putfield 187, 3) := by decide +kernel
theorem dX10_tear_20 : decode cX10_tear 20 = .ok (.iload_n 1, 1) := by decide +kernel
theorem dX10_tear_21 : decode cX10_tear 21 = .ok (.ireturn, 1) := by decide +kernel
theorem dX10_judge_0 : decode cX10_judge 0 = .ok (.iconst 0, 1) := by decide +kernel
theorem dX10_judge_1 : decode cX10_judge 1 = .ok (.istore_n 1, 1) := by decide +kernel
theorem dX10_judge_2 : decode cX10_judge 2 = .ok (.iload_n 1, 1) := by decide +kernel
theorem dX10_judge_3 : decode cX10_judge 3 = .ok (.aload_n 0, 1) := by decide +kernel
theorem dX10_judge_4 : decode cX10_judge 4 = .ok (.getfield 187, 3) := by decide +kernel
theorem dX10_judge_7 : decode cX10_judge 7 = .ok (.if_icmp .ge 34, 3) := by decide +kernel
theorem dX10_judge_10 : decode cX10_judge 10 = .ok (.aload_n 0, 1) := by decide +kernel
theorem dX10_judge_11 : decode cX10_judge 11 = .ok (.getfield 7, 3) := by decide +kernel
theorem dX10_judge_14 : decode cX10_judge 14 = .ok (.bipush 8, 2) := by decide +kernel
theorem dX10_judge_16 : decode cX10_judge 16 = .ok (.aload_n 0, 1) := by decide +kernel
theorem dX10_judge_17 : decode cX10_judge 17 = .ok (.getfield 78, 3) := by decide +kernel
theorem dX10_judge_20 : decode cX10_judge 20 = .ok (.iload_n 1, 1) := by decide +kernel
theorem dX10_judge_21 : decode cX10_judge 21 = .ok (.iaload, 1) := by decide +kernel
theorem dX10_judge_22 : decode cX10_judge 22 = .ok (.iadd, 1) := by decide +kernel
theorem dX10_judge_23 : decode cX10_judge 23 = .ok (.iaload, 1) := by decide +kernel
theorem dX10_judge_24 : decode cX10_judge 24 = .ok (.aload_n 0, 1) := by decide +kernel
theorem dX10_judge_25 : decode cX10_judge 25 = .ok (.getfield 81, 3) := by decide +kernel
theorem dX10_judge_28 : decode cX10_judge 28 = .ok (.iload_n 1, 1) := by decide +kernel
theorem dX10_judge_29 : decode cX10_judge 29 = .ok (.iaload, 1) := by decide +kernel
theorem dX10_judge_30 : decode cX10_judge 30 = .ok (.if_icmp .eq 5, 3) := by decide +kernel
theorem dX10_judge_33 : decode cX10_judge 33 = .ok (.iload_n 1, 1) := by decide +kernel
theorem dX10_judge_34 : decode cX10_judge 34 = .ok (.ireturn, 1) := by decide +kernel
theorem dX10_judge_35 : decode cX10_judge 35 = .ok (.iinc 1 1, 3) := by decide +kernel
theorem dX10_judge_38 : decode cX10_judge 38 = .ok (.goto (-36), 3) := by decide +kernel
theorem dX10_judge_41 : decode cX10_judge 41 = .ok (.iconst (-1), 1) := by decide +kernel
theorem dX10_judge_42 : decode cX10_judge 42 = .ok (.ireturn, 1) := by decide +kernel
theorem dX10_seed_0 : decode cX10_seed 0 = .ok (.iload_n 1, 1) := by decide +kernel
theorem dX10_seed_1 : decode cX10_seed 1 = .ok (.ifCond .ge 6, 3) := by decide +kernel
theorem dX10_seed_4 : decode cX10_seed 4 = .ok (.ldc 104, 2) := by decide +kernel
theorem dX10_seed_6 : decode cX10_seed 6 = .ok (.ireturn, 1) := by decide +kernel
theorem dX10_seed_7 : decode cX10_seed 7 = .ok (.aload_n 0, 1) := by decide +kernel
theorem dX10_seed_8 : decode cX10_seed 8 = .ok (.getfield 7, 3) := by decide +kernel
theorem dX10_seed_11 : decode cX10_seed 11 = .ok (.bipush 34, 2) := by decide +kernel
theorem dX10_seed_13 : decode cX10_seed 13 = .ok (.iaload, 1) := by decide +kernel
theorem dX10_seed_14 : decode cX10_seed 14 = .ok (.istore_n 2, 1) := by decide +kernel
theorem dX10_seed_15 : decode cX10_seed 15 = .ok (.aload_n 0, 1) := by decide +kernel
theorem dX10_seed_16 : decode cX10_seed 16 = .ok (.getfield 7, 3) := by decide +kernel
theorem dX10_seed_19 : decode cX10_seed 19 = .ok (.bipush 34, 2) := by decide +kernel
theorem dX10_seed_21 : decode cX10_seed 21 = .ok (.iload_n 1, 1) := by decide +kernel
theorem dX10_seed_22 : decode cX10_seed 22 = .ok (.iastore, 1) := by decide +kernel
theorem dX10_seed_23 : decode cX10_seed 23 = .ok (.iload_n 2, 1) := by decide +kernel
theorem dX10_seed_24 : decode cX10_seed 24 = .ok (.ireturn, 1) := by decide +kernel
theorem dX10_keep_0 : decode cX10_keep 0 = .ok (.iload_n 1, 1) := by decide +kernel
theorem dX10_keep_1 : decode cX10_keep 1 = .ok (.i2l, 1) := by decide +kernel
theorem dX10_keep_2 : decode cX10_keep 2 = .ok (.lconst 0, 1) := by decide +kernel
theorem dX10_keep_3 : decode cX10_keep 3 = .ok (.lconst 1, 1) := by decide +kernel
theorem dX10_keep_4 : decode cX10_keep 4 = .ok (.invokestatic 87, 3) := by decide +kernel
theorem dX10_keep_7 : decode cX10_keep 7 = .ok (.ifCond .ne 6, 3) := by decide +kernel
theorem dX10_keep_10 : decode cX10_keep 10 = .ok (.ldc 200, 2) := by decide +kernel
theorem dX10_keep_12 : decode cX10_keep 12 = .ok (.ireturn, 1) := by decide +kernel
theorem dX10_keep_13 : decode cX10_keep 13 = .ok (.aload_n 0, 1) := by decide +kernel
theorem dX10_keep_14 : decode cX10_keep 14 = .ok (.iconst 0, 1) := by decide +kernel
theorem dX10_keep_15 : decode cX10_keep 15 = .ok (.bipush 35, 2) := by decide +kernel
theorem dX10_keep_17 : decode cX10_keep 17 = .ok (.bipush 35, 2) := by decide +kernel
theorem dX10_keep_19 : decode cX10_keep 19 = .ok (.iload_n 1, 1) := by decide +kernel
theorem dX10_keep_20 : decode cX10_keep 20 = .ok (.imul, 1) := by decide +kernel
theorem dX10_keep_21 : decode cX10_keep 21 = .ok (.iadd, 1) := by decide +kernel
theorem dX10_keep_22 : decode cX10_keep 22 = .ok (.invokevirtual 216, 3) := by decide +kernel
theorem dX10_keep_25 : decode cX10_keep 25 = .ok (.aload_n 0, 1) := by decide +kernel
theorem dX10_keep_26 : decode cX10_keep 26 = .ok (.getfield 13, 3) := by decide +kernel
theorem dX10_keep_29 : decode cX10_keep 29 = .ok (.iload_n 1, 1) := by decide +kernel
theorem dX10_keep_30 : decode cX10_keep 30 = .ok (.iconst 1, 1) := by decide +kernel
theorem dX10_keep_31 : decode cX10_keep 31 = .ok (.bastore, 1) := by decide +kernel
theorem dX10_keep_32 : decode cX10_keep 32 = .ok (.aload_n 0, 1) := by decide +kernel
theorem dX10_keep_33 : decode cX10_keep 33 = .ok (.iconst 0, 1) := by decide +kernel
theorem dX10_keep_34 : decode cX10_keep 34 = .ok (.putfield 190, 3) := by decide +kernel
theorem dX10_keep_37 : decode cX10_keep 37 = .ok (.iconst 1, 1) := by decide +kernel
theorem dX10_keep_38 : decode cX10_keep 38 = .ok (.ireturn, 1) := by decide +kernel
theorem dX10_goBack_0 : decode cX10_goBack 0 = .ok (.iload_n 1, 1) := by decide +kernel
theorem dX10_goBack_1 : decode cX10_goBack 1 = .ok (.i2l, 1) := by decide +kernel
theorem dX10_goBack_2 : decode cX10_goBack 2 = .ok (.lconst 0, 1) := by decide +kernel
theorem dX10_goBack_3 : decode cX10_goBack 3 = .ok (.lconst 1, 1) := by decide +kernel
theorem dX10_goBack_4 : decode cX10_goBack 4 = .ok (.invokestatic 87, 3) := by decide +kernel
theorem dX10_goBack_7 : decode cX10_goBack 7 = .ok (.ifCond .ne 6, 3) := by decide +kernel
theorem dX10_goBack_10 : decode cX10_goBack 10 = .ok (.ldc 200, 2) := by decide +kernel
theorem dX10_goBack_12 : decode cX10_goBack 12 = .ok (.ireturn, 1) := by decide +kernel
theorem dX10_goBack_13 : decode cX10_goBack 13 = .ok (.aload_n 0, 1) := by decide +kernel
theorem dX10_goBack_14 : decode cX10_goBack 14 = .ok (.getfield 13, 3) := by decide +kernel
theorem dX10_goBack_17 : decode cX10_goBack 17 = .ok (.iload_n 1, 1) := by decide +kernel
theorem dX10_goBack_18 : decode cX10_goBack 18 = .ok (.baload, 1) := by decide +kernel
theorem dX10_goBack_19 : decode cX10_goBack 19 = .ok (.ifCond .ne 6, 3) := by decide +kernel
theorem dX10_goBack_22 : decode cX10_goBack 22 = .ok (.ldc 220, 2) := by decide +kernel
theorem dX10_goBack_24 : decode cX10_goBack 24 = .ok (.ireturn, 1) := by decide +kernel
theorem dX10_goBack_25 : decode cX10_goBack 25 = .ok (.aload_n 0, 1) := by decide +kernel
theorem dX10_goBack_26 : decode cX10_goBack 26 = .ok (.bipush 35, 2) := by decide +kernel
theorem dX10_goBack_28 : decode cX10_goBack 28 = .ok (.bipush 35, 2) := by decide +kernel
theorem dX10_goBack_30 : decode cX10_goBack 30 = .ok (.iload_n 1, 1) := by decide +kernel
theorem dX10_goBack_31 : decode cX10_goBack 31 = .ok (.imul, 1) := by decide +kernel
theorem dX10_goBack_32 : decode cX10_goBack 32 = .ok (.iadd, 1) := by decide +kernel
theorem dX10_goBack_33 : decode cX10_goBack 33 = .ok (.iconst 0, 1) := by decide +kernel
theorem dX10_goBack_34 : decode cX10_goBack 34 = .ok (.invokevirtual 216, 3) := by decide +kernel
theorem dX10_goBack_37 : decode cX10_goBack 37 = .ok (.aload_n 0, 1) := by decide +kernel
theorem dX10_goBack_38 : decode cX10_goBack 38 = .ok (.iconst 0, 1) := by decide +kernel
theorem dX10_goBack_39 : decode cX10_goBack 39 = .ok (.putfield 190, 3) := by decide +kernel
theorem dX10_goBack_42 : decode cX10_goBack 42 = .ok (.iconst 1, 1) := by decide +kernel
theorem dX10_goBack_43 : decode cX10_goBack 43 = .ok (.ireturn, 1) := by decide +kernel
theorem dL_law_0 : decode cL_law 0 = .ok (.new 7, 3) := by decide +kernel
theorem dL_law_3 : decode cL_law 3 = .ok (.dup, 1) := by decide +kernel
theorem dL_law_4 : decode cL_law 4 = .ok (.invokespecial 9, 3) := by decide +kernel
theorem dL_law_7 : decode cL_law 7 = .ok (.astore_n 1, 1) := by decide +kernel
theorem dL_law_8 : decode cL_law 8 = .ok (.new 10, 3) := by decide +kernel
theorem dL_law_11 : decode cL_law 11 = .ok (.dup, 1) := by decide +kernel
theorem dL_law_12 : decode cL_law 12 = .ok (.invokespecial 12, 3) := by decide +kernel
theorem dL_law_15 : decode cL_law 15 = .ok (.astore_n 2, 1) := by decide +kernel
theorem dL_law_16 : decode cL_law 16 = .ok (.iconst 0, 1) := by decide +kernel
theorem dL_law_17 : decode cL_law 17 = .ok (.istore_n 3, 1) := by decide +kernel
theorem dL_law_18 : decode cL_law 18 = .ok (.iload_n 3, 1) := by decide +kernel
theorem dL_law_19 : decode cL_law 19 = .ok (.aload_n 0, 1) := by decide +kernel
theorem dL_law_20 : decode cL_law 20 = .ok (.arraylength, 1) := by decide +kernel
theorem dL_law_21 : decode cL_law 21 = .ok (.iconst 4, 1) := by decide +kernel
theorem dL_law_22 : decode cL_law 22 = .ok (.isub, 1) := by decide +kernel
theorem dL_law_23 : decode cL_law 23 = .ok (.if_icmp .gt 1000, 3) := by decide +kernel
theorem dL_law_26 : decode cL_law 26 = .ok (.aload_n 0, 1) := by decide +kernel
theorem dL_law_27 : decode cL_law 27 = .ok (.iload_n 3, 1) := by decide +kernel
theorem dL_law_28 : decode cL_law 28 = .ok (.iaload, 1) := by decide +kernel
theorem dL_law_29 : decode cL_law 29 = .ok (.bipush 63, 2) := by decide +kernel
theorem dL_law_31 : decode cL_law 31 = .ok (.iand, 1) := by decide +kernel
theorem dL_law_32 : decode cL_law 32 = .ok (.tableswitch 985 0 32 #[148, 171, 184, 197, 220, 253, 286, 309, 342, 365, 398, 447, 496, 509, 532, 565, 588, 601, 634, 647, 670, 693, 706, 739, 798, 821, 834, 857, 890, 903, 916, 939, 962], 148) := by decide +kernel
theorem dL_law_180 : decode cL_law 180 = .ok (.aload_n 1, 1) := by decide +kernel
theorem dL_law_181 : decode cL_law 181 = .ok (.aload_n 0, 1) := by decide +kernel
theorem dL_law_182 : decode cL_law 182 = .ok (.iload_n 3, 1) := by decide +kernel
theorem dL_law_183 : decode cL_law 183 = .ok (.iconst 1, 1) := by decide +kernel
theorem dL_law_184 : decode cL_law 184 = .ok (.iadd, 1) := by decide +kernel
theorem dL_law_185 : decode cL_law 185 = .ok (.iaload, 1) := by decide +kernel
theorem dL_law_186 : decode cL_law 186 = .ok (.invokevirtual 13, 3) := by decide +kernel
theorem dL_law_189 : decode cL_law 189 = .ok (.aload_n 2, 1) := by decide +kernel
theorem dL_law_190 : decode cL_law 190 = .ok (.aload_n 0, 1) := by decide +kernel
theorem dL_law_191 : decode cL_law 191 = .ok (.iload_n 3, 1) := by decide +kernel
theorem dL_law_192 : decode cL_law 192 = .ok (.iconst 1, 1) := by decide +kernel
theorem dL_law_193 : decode cL_law 193 = .ok (.iadd, 1) := by decide +kernel
theorem dL_law_194 : decode cL_law 194 = .ok (.iaload, 1) := by decide +kernel
theorem dL_law_195 : decode cL_law 195 = .ok (.invokevirtual 17, 3) := by decide +kernel
theorem dL_law_198 : decode cL_law 198 = .ok (.if_icmp .eq 819, 3) := by decide +kernel
theorem dL_law_201 : decode cL_law 201 = .ok (.iconst 0, 1) := by decide +kernel
theorem dL_law_202 : decode cL_law 202 = .ok (.ireturn, 1) := by decide +kernel
theorem dL_law_203 : decode cL_law 203 = .ok (.aload_n 1, 1) := by decide +kernel
theorem dL_law_204 : decode cL_law 204 = .ok (.invokevirtual 18, 3) := by decide +kernel
theorem dL_law_207 : decode cL_law 207 = .ok (.aload_n 2, 1) := by decide +kernel
theorem dL_law_208 : decode cL_law 208 = .ok (.invokevirtual 22, 3) := by decide +kernel
theorem dL_law_211 : decode cL_law 211 = .ok (.if_icmp .eq 806, 3) := by decide +kernel
theorem dL_law_214 : decode cL_law 214 = .ok (.iconst 0, 1) := by decide +kernel
theorem dL_law_215 : decode cL_law 215 = .ok (.ireturn, 1) := by decide +kernel
theorem dL_law_216 : decode cL_law 216 = .ok (.aload_n 1, 1) := by decide +kernel
theorem dL_law_217 : decode cL_law 217 = .ok (.invokevirtual 23, 3) := by decide +kernel
theorem dL_law_220 : decode cL_law 220 = .ok (.aload_n 2, 1) := by decide +kernel
theorem dL_law_221 : decode cL_law 221 = .ok (.invokevirtual 26, 3) := by decide +kernel
theorem dL_law_224 : decode cL_law 224 = .ok (.if_icmp .eq 793, 3) := by decide +kernel
theorem dL_law_227 : decode cL_law 227 = .ok (.iconst 0, 1) := by decide +kernel
theorem dL_law_228 : decode cL_law 228 = .ok (.ireturn, 1) := by decide +kernel
theorem dL_law_229 : decode cL_law 229 = .ok (.aload_n 1, 1) := by decide +kernel
theorem dL_law_230 : decode cL_law 230 = .ok (.aload_n 0, 1) := by decide +kernel
theorem dL_law_231 : decode cL_law 231 = .ok (.iload_n 3, 1) := by decide +kernel
theorem dL_law_232 : decode cL_law 232 = .ok (.iconst 1, 1) := by decide +kernel
theorem dL_law_233 : decode cL_law 233 = .ok (.iadd, 1) := by decide +kernel
theorem dL_law_234 : decode cL_law 234 = .ok (.iaload, 1) := by decide +kernel
theorem dL_law_235 : decode cL_law 235 = .ok (.invokevirtual 27, 3) := by decide +kernel
theorem dL_law_238 : decode cL_law 238 = .ok (.aload_n 2, 1) := by decide +kernel
theorem dL_law_239 : decode cL_law 239 = .ok (.aload_n 0, 1) := by decide +kernel
theorem dL_law_240 : decode cL_law 240 = .ok (.iload_n 3, 1) := by decide +kernel
theorem dL_law_241 : decode cL_law 241 = .ok (.iconst 1, 1) := by decide +kernel
theorem dL_law_242 : decode cL_law 242 = .ok (.iadd, 1) := by decide +kernel
theorem dL_law_243 : decode cL_law 243 = .ok (.iaload, 1) := by decide +kernel
theorem dL_law_244 : decode cL_law 244 = .ok (.invokevirtual 30, 3) := by decide +kernel
theorem dL_law_247 : decode cL_law 247 = .ok (.if_icmp .eq 770, 3) := by decide +kernel
theorem dL_law_250 : decode cL_law 250 = .ok (.iconst 0, 1) := by decide +kernel
theorem dL_law_251 : decode cL_law 251 = .ok (.ireturn, 1) := by decide +kernel
theorem dL_law_252 : decode cL_law 252 = .ok (.aload_n 1, 1) := by decide +kernel
theorem dL_law_253 : decode cL_law 253 = .ok (.aload_n 0, 1) := by decide +kernel
theorem dL_law_254 : decode cL_law 254 = .ok (.iload_n 3, 1) := by decide +kernel
theorem dL_law_255 : decode cL_law 255 = .ok (.iconst 1, 1) := by decide +kernel
theorem dL_law_256 : decode cL_law 256 = .ok (.iadd, 1) := by decide +kernel
theorem dL_law_257 : decode cL_law 257 = .ok (.iaload, 1) := by decide +kernel
theorem dL_law_258 : decode cL_law 258 = .ok (.aload_n 0, 1) := by decide +kernel
theorem dL_law_259 : decode cL_law 259 = .ok (.iload_n 3, 1) := by decide +kernel
theorem dL_law_260 : decode cL_law 260 = .ok (.iconst 2, 1) := by decide +kernel
theorem dL_law_261 : decode cL_law 261 = .ok (.iadd, 1) := by decide +kernel
theorem dL_law_262 : decode cL_law 262 = .ok (.iaload, 1) := by decide +kernel
theorem dL_law_263 : decode cL_law 263 = .ok (.invokevirtual 31, 3) := by decide +kernel
theorem dL_law_266 : decode cL_law 266 = .ok (.aload_n 2, 1) := by decide +kernel
theorem dL_law_267 : decode cL_law 267 = .ok (.aload_n 0, 1) := by decide +kernel
theorem dL_law_268 : decode cL_law 268 = .ok (.iload_n 3, 1) := by decide +kernel
theorem dL_law_269 : decode cL_law 269 = .ok (.iconst 1, 1) := by decide +kernel
theorem dL_law_270 : decode cL_law 270 = .ok (.iadd, 1) := by decide +kernel
theorem dL_law_271 : decode cL_law 271 = .ok (.iaload, 1) := by decide +kernel
theorem dL_law_272 : decode cL_law 272 = .ok (.aload_n 0, 1) := by decide +kernel
theorem dL_law_273 : decode cL_law 273 = .ok (.iload_n 3, 1) := by decide +kernel
theorem dL_law_274 : decode cL_law 274 = .ok (.iconst 2, 1) := by decide +kernel
theorem dL_law_275 : decode cL_law 275 = .ok (.iadd, 1) := by decide +kernel
theorem dL_law_276 : decode cL_law 276 = .ok (.iaload, 1) := by decide +kernel
theorem dL_law_277 : decode cL_law 277 = .ok (.invokevirtual 35, 3) := by decide +kernel
theorem dL_law_280 : decode cL_law 280 = .ok (.if_icmp .eq 737, 3) := by decide +kernel
theorem dL_law_283 : decode cL_law 283 = .ok (.iconst 0, 1) := by decide +kernel
theorem dL_law_284 : decode cL_law 284 = .ok (.ireturn, 1) := by decide +kernel
theorem dL_law_285 : decode cL_law 285 = .ok (.aload_n 1, 1) := by decide +kernel
theorem dL_law_286 : decode cL_law 286 = .ok (.aload_n 0, 1) := by decide +kernel
theorem dL_law_287 : decode cL_law 287 = .ok (.iload_n 3, 1) := by decide +kernel
theorem dL_law_288 : decode cL_law 288 = .ok (.iconst 1, 1) := by decide +kernel
theorem dL_law_289 : decode cL_law 289 = .ok (.iadd, 1) := by decide +kernel
theorem dL_law_290 : decode cL_law 290 = .ok (.iaload, 1) := by decide +kernel
theorem dL_law_291 : decode cL_law 291 = .ok (.aload_n 0, 1) := by decide +kernel
theorem dL_law_292 : decode cL_law 292 = .ok (.iload_n 3, 1) := by decide +kernel
theorem dL_law_293 : decode cL_law 293 = .ok (.iconst 2, 1) := by decide +kernel
theorem dL_law_294 : decode cL_law 294 = .ok (.iadd, 1) := by decide +kernel
theorem dL_law_295 : decode cL_law 295 = .ok (.iaload, 1) := by decide +kernel
theorem dL_law_296 : decode cL_law 296 = .ok (.invokevirtual 36, 3) := by decide +kernel
theorem dL_law_299 : decode cL_law 299 = .ok (.aload_n 2, 1) := by decide +kernel
theorem dL_law_300 : decode cL_law 300 = .ok (.aload_n 0, 1) := by decide +kernel
theorem dL_law_301 : decode cL_law 301 = .ok (.iload_n 3, 1) := by decide +kernel
theorem dL_law_302 : decode cL_law 302 = .ok (.iconst 1, 1) := by decide +kernel
theorem dL_law_303 : decode cL_law 303 = .ok (.iadd, 1) := by decide +kernel
theorem dL_law_304 : decode cL_law 304 = .ok (.iaload, 1) := by decide +kernel
theorem dL_law_305 : decode cL_law 305 = .ok (.aload_n 0, 1) := by decide +kernel
theorem dL_law_306 : decode cL_law 306 = .ok (.iload_n 3, 1) := by decide +kernel
theorem dL_law_307 : decode cL_law 307 = .ok (.iconst 2, 1) := by decide +kernel
theorem dL_law_308 : decode cL_law 308 = .ok (.iadd, 1) := by decide +kernel
theorem dL_law_309 : decode cL_law 309 = .ok (.iaload, 1) := by decide +kernel
theorem dL_law_310 : decode cL_law 310 = .ok (.invokevirtual 39, 3) := by decide +kernel
theorem dL_law_313 : decode cL_law 313 = .ok (.if_icmp .eq 704, 3) := by decide +kernel
theorem dL_law_316 : decode cL_law 316 = .ok (.iconst 0, 1) := by decide +kernel
theorem dL_law_317 : decode cL_law 317 = .ok (.ireturn, 1) := by decide +kernel
theorem dL_law_318 : decode cL_law 318 = .ok (.aload_n 1, 1) := by decide +kernel
theorem dL_law_319 : decode cL_law 319 = .ok (.aload_n 0, 1) := by decide +kernel
theorem dL_law_320 : decode cL_law 320 = .ok (.iload_n 3, 1) := by decide +kernel
theorem dL_law_321 : decode cL_law 321 = .ok (.iconst 1, 1) := by decide +kernel
theorem dL_law_322 : decode cL_law 322 = .ok (.iadd, 1) := by decide +kernel
theorem dL_law_323 : decode cL_law 323 = .ok (.iaload, 1) := by decide +kernel
theorem dL_law_324 : decode cL_law 324 = .ok (.invokevirtual 40, 3) := by decide +kernel
theorem dL_law_327 : decode cL_law 327 = .ok (.aload_n 2, 1) := by decide +kernel
theorem dL_law_328 : decode cL_law 328 = .ok (.aload_n 0, 1) := by decide +kernel
theorem dL_law_329 : decode cL_law 329 = .ok (.iload_n 3, 1) := by decide +kernel
theorem dL_law_330 : decode cL_law 330 = .ok (.iconst 1, 1) := by decide +kernel
theorem dL_law_331 : decode cL_law 331 = .ok (.iadd, 1) := by decide +kernel
theorem dL_law_332 : decode cL_law 332 = .ok (.iaload, 1) := by decide +kernel
theorem dL_law_333 : decode cL_law 333 = .ok (.invokevirtual 43, 3) := by decide +kernel
theorem dL_law_336 : decode cL_law 336 = .ok (.if_icmp .eq 681, 3) := by decide +kernel
theorem dL_law_339 : decode cL_law 339 = .ok (.iconst 0, 1) := by decide +kernel
theorem dL_law_340 : decode cL_law 340 = .ok (.ireturn, 1) := by decide +kernel
theorem dL_law_341 : decode cL_law 341 = .ok (.aload_n 1, 1) := by decide +kernel
theorem dL_law_342 : decode cL_law 342 = .ok (.aload_n 0, 1) := by decide +kernel
theorem dL_law_343 : decode cL_law 343 = .ok (.iload_n 3, 1) := by decide +kernel
theorem dL_law_344 : decode cL_law 344 = .ok (.iconst 1, 1) := by decide +kernel
theorem dL_law_345 : decode cL_law 345 = .ok (.iadd, 1) := by decide +kernel
theorem dL_law_346 : decode cL_law 346 = .ok (.iaload, 1) := by decide +kernel
theorem dL_law_347 : decode cL_law 347 = .ok (.aload_n 0, 1) := by decide +kernel
theorem dL_law_348 : decode cL_law 348 = .ok (.iload_n 3, 1) := by decide +kernel
theorem dL_law_349 : decode cL_law 349 = .ok (.iconst 2, 1) := by decide +kernel
theorem dL_law_350 : decode cL_law 350 = .ok (.iadd, 1) := by decide +kernel
theorem dL_law_351 : decode cL_law 351 = .ok (.iaload, 1) := by decide +kernel
theorem dL_law_352 : decode cL_law 352 = .ok (.invokevirtual 44, 3) := by decide +kernel
theorem dL_law_355 : decode cL_law 355 = .ok (.aload_n 2, 1) := by decide +kernel
theorem dL_law_356 : decode cL_law 356 = .ok (.aload_n 0, 1) := by decide +kernel
theorem dL_law_357 : decode cL_law 357 = .ok (.iload_n 3, 1) := by decide +kernel
theorem dL_law_358 : decode cL_law 358 = .ok (.iconst 1, 1) := by decide +kernel
theorem dL_law_359 : decode cL_law 359 = .ok (.iadd, 1) := by decide +kernel
theorem dL_law_360 : decode cL_law 360 = .ok (.iaload, 1) := by decide +kernel
theorem dL_law_361 : decode cL_law 361 = .ok (.aload_n 0, 1) := by decide +kernel
theorem dL_law_362 : decode cL_law 362 = .ok (.iload_n 3, 1) := by decide +kernel
theorem dL_law_363 : decode cL_law 363 = .ok (.iconst 2, 1) := by decide +kernel
theorem dL_law_364 : decode cL_law 364 = .ok (.iadd, 1) := by decide +kernel
theorem dL_law_365 : decode cL_law 365 = .ok (.iaload, 1) := by decide +kernel
theorem dL_law_366 : decode cL_law 366 = .ok (.invokevirtual 47, 3) := by decide +kernel
theorem dL_law_369 : decode cL_law 369 = .ok (.if_icmp .eq 648, 3) := by decide +kernel
theorem dL_law_372 : decode cL_law 372 = .ok (.iconst 0, 1) := by decide +kernel
theorem dL_law_373 : decode cL_law 373 = .ok (.ireturn, 1) := by decide +kernel
theorem dL_law_374 : decode cL_law 374 = .ok (.aload_n 1, 1) := by decide +kernel
theorem dL_law_375 : decode cL_law 375 = .ok (.aload_n 0, 1) := by decide +kernel
theorem dL_law_376 : decode cL_law 376 = .ok (.iload_n 3, 1) := by decide +kernel
theorem dL_law_377 : decode cL_law 377 = .ok (.iconst 1, 1) := by decide +kernel
theorem dL_law_378 : decode cL_law 378 = .ok (.iadd, 1) := by decide +kernel
theorem dL_law_379 : decode cL_law 379 = .ok (.iaload, 1) := by decide +kernel
theorem dL_law_380 : decode cL_law 380 = .ok (.invokevirtual 48, 3) := by decide +kernel
theorem dL_law_383 : decode cL_law 383 = .ok (.aload_n 2, 1) := by decide +kernel
theorem dL_law_384 : decode cL_law 384 = .ok (.aload_n 0, 1) := by decide +kernel
theorem dL_law_385 : decode cL_law 385 = .ok (.iload_n 3, 1) := by decide +kernel
theorem dL_law_386 : decode cL_law 386 = .ok (.iconst 1, 1) := by decide +kernel
theorem dL_law_387 : decode cL_law 387 = .ok (.iadd, 1) := by decide +kernel
theorem dL_law_388 : decode cL_law 388 = .ok (.iaload, 1) := by decide +kernel
theorem dL_law_389 : decode cL_law 389 = .ok (.invokevirtual 51, 3) := by decide +kernel
theorem dL_law_392 : decode cL_law 392 = .ok (.if_icmp .eq 625, 3) := by decide +kernel
theorem dL_law_395 : decode cL_law 395 = .ok (.iconst 0, 1) := by decide +kernel
theorem dL_law_396 : decode cL_law 396 = .ok (.ireturn, 1) := by decide +kernel
theorem dL_law_397 : decode cL_law 397 = .ok (.aload_n 1, 1) := by decide +kernel
theorem dL_law_398 : decode cL_law 398 = .ok (.aload_n 0, 1) := by decide +kernel
theorem dL_law_399 : decode cL_law 399 = .ok (.iload_n 3, 1) := by decide +kernel
theorem dL_law_400 : decode cL_law 400 = .ok (.iconst 1, 1) := by decide +kernel
theorem dL_law_401 : decode cL_law 401 = .ok (.iadd, 1) := by decide +kernel
theorem dL_law_402 : decode cL_law 402 = .ok (.iaload, 1) := by decide +kernel
theorem dL_law_403 : decode cL_law 403 = .ok (.aload_n 0, 1) := by decide +kernel
theorem dL_law_404 : decode cL_law 404 = .ok (.iload_n 3, 1) := by decide +kernel
theorem dL_law_405 : decode cL_law 405 = .ok (.iconst 2, 1) := by decide +kernel
theorem dL_law_406 : decode cL_law 406 = .ok (.iadd, 1) := by decide +kernel
theorem dL_law_407 : decode cL_law 407 = .ok (.iaload, 1) := by decide +kernel
theorem dL_law_408 : decode cL_law 408 = .ok (.invokevirtual 52, 3) := by decide +kernel
theorem dL_law_411 : decode cL_law 411 = .ok (.aload_n 2, 1) := by decide +kernel
theorem dL_law_412 : decode cL_law 412 = .ok (.aload_n 0, 1) := by decide +kernel
theorem dL_law_413 : decode cL_law 413 = .ok (.iload_n 3, 1) := by decide +kernel
theorem dL_law_414 : decode cL_law 414 = .ok (.iconst 1, 1) := by decide +kernel
theorem dL_law_415 : decode cL_law 415 = .ok (.iadd, 1) := by decide +kernel
theorem dL_law_416 : decode cL_law 416 = .ok (.iaload, 1) := by decide +kernel
theorem dL_law_417 : decode cL_law 417 = .ok (.aload_n 0, 1) := by decide +kernel
theorem dL_law_418 : decode cL_law 418 = .ok (.iload_n 3, 1) := by decide +kernel
theorem dL_law_419 : decode cL_law 419 = .ok (.iconst 2, 1) := by decide +kernel
theorem dL_law_420 : decode cL_law 420 = .ok (.iadd, 1) := by decide +kernel
theorem dL_law_421 : decode cL_law 421 = .ok (.iaload, 1) := by decide +kernel
theorem dL_law_422 : decode cL_law 422 = .ok (.invokevirtual 55, 3) := by decide +kernel
theorem dL_law_425 : decode cL_law 425 = .ok (.if_icmp .eq 592, 3) := by decide +kernel
theorem dL_law_428 : decode cL_law 428 = .ok (.iconst 0, 1) := by decide +kernel
theorem dL_law_429 : decode cL_law 429 = .ok (.ireturn, 1) := by decide +kernel
theorem dL_law_430 : decode cL_law 430 = .ok (.aload_n 1, 1) := by decide +kernel
theorem dL_law_431 : decode cL_law 431 = .ok (.aload_n 0, 1) := by decide +kernel
theorem dL_law_432 : decode cL_law 432 = .ok (.iload_n 3, 1) := by decide +kernel
theorem dL_law_433 : decode cL_law 433 = .ok (.iconst 1, 1) := by decide +kernel
theorem dL_law_434 : decode cL_law 434 = .ok (.iadd, 1) := by decide +kernel
theorem dL_law_435 : decode cL_law 435 = .ok (.iaload, 1) := by decide +kernel
theorem dL_law_436 : decode cL_law 436 = .ok (.aload_n 0, 1) := by decide +kernel
theorem dL_law_437 : decode cL_law 437 = .ok (.iload_n 3, 1) := by decide +kernel
theorem dL_law_438 : decode cL_law 438 = .ok (.iconst 2, 1) := by decide +kernel
theorem dL_law_439 : decode cL_law 439 = .ok (.iadd, 1) := by decide +kernel
theorem dL_law_440 : decode cL_law 440 = .ok (.iaload, 1) := by decide +kernel
theorem dL_law_441 : decode cL_law 441 = .ok (.ifCond .eq 7, 3) := by decide +kernel
theorem dL_law_444 : decode cL_law 444 = .ok (.iconst 1, 1) := by decide +kernel
theorem dL_law_445 : decode cL_law 445 = .ok (.goto 4, 3) := by decide +kernel
theorem dL_law_448 : decode cL_law 448 = .ok (.iconst 0, 1) := by decide +kernel
theorem dL_law_449 : decode cL_law 449 = .ok (.invokevirtual 56, 3) := by decide +kernel
theorem dL_law_452 : decode cL_law 452 = .ok (.aload_n 2, 1) := by decide +kernel
theorem dL_law_453 : decode cL_law 453 = .ok (.aload_n 0, 1) := by decide +kernel
theorem dL_law_454 : decode cL_law 454 = .ok (.iload_n 3, 1) := by decide +kernel
theorem dL_law_455 : decode cL_law 455 = .ok (.iconst 1, 1) := by decide +kernel
theorem dL_law_456 : decode cL_law 456 = .ok (.iadd, 1) := by decide +kernel
theorem dL_law_457 : decode cL_law 457 = .ok (.iaload, 1) := by decide +kernel
theorem dL_law_458 : decode cL_law 458 = .ok (.aload_n 0, 1) := by decide +kernel
theorem dL_law_459 : decode cL_law 459 = .ok (.iload_n 3, 1) := by decide +kernel
theorem dL_law_460 : decode cL_law 460 = .ok (.iconst 2, 1) := by decide +kernel
theorem dL_law_461 : decode cL_law 461 = .ok (.iadd, 1) := by decide +kernel
theorem dL_law_462 : decode cL_law 462 = .ok (.iaload, 1) := by decide +kernel
theorem dL_law_463 : decode cL_law 463 = .ok (.ifCond .eq 7, 3) := by decide +kernel
theorem dL_law_466 : decode cL_law 466 = .ok (.iconst 1, 1) := by decide +kernel
theorem dL_law_467 : decode cL_law 467 = .ok (.goto 4, 3) := by decide +kernel
theorem dL_law_470 : decode cL_law 470 = .ok (.iconst 0, 1) := by decide +kernel
theorem dL_law_471 : decode cL_law 471 = .ok (.invokevirtual 60, 3) := by decide +kernel
theorem dL_law_474 : decode cL_law 474 = .ok (.if_icmp .eq 543, 3) := by decide +kernel
theorem dL_law_477 : decode cL_law 477 = .ok (.iconst 0, 1) := by decide +kernel
theorem dL_law_478 : decode cL_law 478 = .ok (.ireturn, 1) := by decide +kernel
theorem dL_law_479 : decode cL_law 479 = .ok (.aload_n 1, 1) := by decide +kernel
theorem dL_law_480 : decode cL_law 480 = .ok (.aload_n 0, 1) := by decide +kernel
theorem dL_law_481 : decode cL_law 481 = .ok (.iload_n 3, 1) := by decide +kernel
theorem dL_law_482 : decode cL_law 482 = .ok (.iconst 1, 1) := by decide +kernel
theorem dL_law_483 : decode cL_law 483 = .ok (.iadd, 1) := by decide +kernel
theorem dL_law_484 : decode cL_law 484 = .ok (.iaload, 1) := by decide +kernel
theorem dL_law_485 : decode cL_law 485 = .ok (.aload_n 0, 1) := by decide +kernel
theorem dL_law_486 : decode cL_law 486 = .ok (.iload_n 3, 1) := by decide +kernel
theorem dL_law_487 : decode cL_law 487 = .ok (.iconst 2, 1) := by decide +kernel
theorem dL_law_488 : decode cL_law 488 = .ok (.iadd, 1) := by decide +kernel
theorem dL_law_489 : decode cL_law 489 = .ok (.iaload, 1) := by decide +kernel
theorem dL_law_490 : decode cL_law 490 = .ok (.ifCond .eq 7, 3) := by decide +kernel
theorem dL_law_493 : decode cL_law 493 = .ok (.iconst 1, 1) := by decide +kernel
theorem dL_law_494 : decode cL_law 494 = .ok (.goto 4, 3) := by decide +kernel
theorem dL_law_497 : decode cL_law 497 = .ok (.iconst 0, 1) := by decide +kernel
theorem dL_law_498 : decode cL_law 498 = .ok (.invokevirtual 61, 3) := by decide +kernel
theorem dL_law_501 : decode cL_law 501 = .ok (.aload_n 2, 1) := by decide +kernel
theorem dL_law_502 : decode cL_law 502 = .ok (.aload_n 0, 1) := by decide +kernel
theorem dL_law_503 : decode cL_law 503 = .ok (.iload_n 3, 1) := by decide +kernel
theorem dL_law_504 : decode cL_law 504 = .ok (.iconst 1, 1) := by decide +kernel
theorem dL_law_505 : decode cL_law 505 = .ok (.iadd, 1) := by decide +kernel
theorem dL_law_506 : decode cL_law 506 = .ok (.iaload, 1) := by decide +kernel
theorem dL_law_507 : decode cL_law 507 = .ok (.aload_n 0, 1) := by decide +kernel
theorem dL_law_508 : decode cL_law 508 = .ok (.iload_n 3, 1) := by decide +kernel
theorem dL_law_509 : decode cL_law 509 = .ok (.iconst 2, 1) := by decide +kernel
theorem dL_law_510 : decode cL_law 510 = .ok (.iadd, 1) := by decide +kernel
theorem dL_law_511 : decode cL_law 511 = .ok (.iaload, 1) := by decide +kernel
theorem dL_law_512 : decode cL_law 512 = .ok (.ifCond .eq 7, 3) := by decide +kernel
theorem dL_law_515 : decode cL_law 515 = .ok (.iconst 1, 1) := by decide +kernel
theorem dL_law_516 : decode cL_law 516 = .ok (.goto 4, 3) := by decide +kernel
theorem dL_law_519 : decode cL_law 519 = .ok (.iconst 0, 1) := by decide +kernel
theorem dL_law_520 : decode cL_law 520 = .ok (.invokevirtual 64, 3) := by decide +kernel
theorem dL_law_523 : decode cL_law 523 = .ok (.if_icmp .eq 494, 3) := by decide +kernel
theorem dL_law_526 : decode cL_law 526 = .ok (.iconst 0, 1) := by decide +kernel
theorem dL_law_527 : decode cL_law 527 = .ok (.ireturn, 1) := by decide +kernel
theorem dL_law_528 : decode cL_law 528 = .ok (.aload_n 1, 1) := by decide +kernel
theorem dL_law_529 : decode cL_law 529 = .ok (.invokevirtual 65, 3) := by decide +kernel
theorem dL_law_532 : decode cL_law 532 = .ok (.aload_n 2, 1) := by decide +kernel
theorem dL_law_533 : decode cL_law 533 = .ok (.invokevirtual 68, 3) := by decide +kernel
theorem dL_law_536 : decode cL_law 536 = .ok (.if_icmp .eq 481, 3) := by decide +kernel
theorem dL_law_539 : decode cL_law 539 = .ok (.iconst 0, 1) := by decide +kernel
theorem dL_law_540 : decode cL_law 540 = .ok (.ireturn, 1) := by decide +kernel
theorem dL_law_541 : decode cL_law 541 = .ok (.aload_n 1, 1) := by decide +kernel
theorem dL_law_542 : decode cL_law 542 = .ok (.aload_n 0, 1) := by decide +kernel
theorem dL_law_543 : decode cL_law 543 = .ok (.iload_n 3, 1) := by decide +kernel
theorem dL_law_544 : decode cL_law 544 = .ok (.iconst 1, 1) := by decide +kernel
theorem dL_law_545 : decode cL_law 545 = .ok (.iadd, 1) := by decide +kernel
theorem dL_law_546 : decode cL_law 546 = .ok (.iaload, 1) := by decide +kernel
theorem dL_law_547 : decode cL_law 547 = .ok (.invokevirtual 69, 3) := by decide +kernel
theorem dL_law_550 : decode cL_law 550 = .ok (.aload_n 2, 1) := by decide +kernel
theorem dL_law_551 : decode cL_law 551 = .ok (.aload_n 0, 1) := by decide +kernel
theorem dL_law_552 : decode cL_law 552 = .ok (.iload_n 3, 1) := by decide +kernel
theorem dL_law_553 : decode cL_law 553 = .ok (.iconst 1, 1) := by decide +kernel
theorem dL_law_554 : decode cL_law 554 = .ok (.iadd, 1) := by decide +kernel
theorem dL_law_555 : decode cL_law 555 = .ok (.iaload, 1) := by decide +kernel
theorem dL_law_556 : decode cL_law 556 = .ok (.invokevirtual 72, 3) := by decide +kernel
theorem dL_law_559 : decode cL_law 559 = .ok (.if_icmp .eq 458, 3) := by decide +kernel
theorem dL_law_562 : decode cL_law 562 = .ok (.iconst 0, 1) := by decide +kernel
theorem dL_law_563 : decode cL_law 563 = .ok (.ireturn, 1) := by decide +kernel
theorem dL_law_564 : decode cL_law 564 = .ok (.aload_n 1, 1) := by decide +kernel
theorem dL_law_565 : decode cL_law 565 = .ok (.aload_n 0, 1) := by decide +kernel
theorem dL_law_566 : decode cL_law 566 = .ok (.iload_n 3, 1) := by decide +kernel
theorem dL_law_567 : decode cL_law 567 = .ok (.iconst 1, 1) := by decide +kernel
theorem dL_law_568 : decode cL_law 568 = .ok (.iadd, 1) := by decide +kernel
theorem dL_law_569 : decode cL_law 569 = .ok (.iaload, 1) := by decide +kernel
theorem dL_law_570 : decode cL_law 570 = .ok (.aload_n 0, 1) := by decide +kernel
theorem dL_law_571 : decode cL_law 571 = .ok (.iload_n 3, 1) := by decide +kernel
theorem dL_law_572 : decode cL_law 572 = .ok (.iconst 2, 1) := by decide +kernel
theorem dL_law_573 : decode cL_law 573 = .ok (.iadd, 1) := by decide +kernel
theorem dL_law_574 : decode cL_law 574 = .ok (.iaload, 1) := by decide +kernel
theorem dL_law_575 : decode cL_law 575 = .ok (.invokevirtual 73, 3) := by decide +kernel
theorem dL_law_578 : decode cL_law 578 = .ok (.aload_n 2, 1) := by decide +kernel
theorem dL_law_579 : decode cL_law 579 = .ok (.aload_n 0, 1) := by decide +kernel
theorem dL_law_580 : decode cL_law 580 = .ok (.iload_n 3, 1) := by decide +kernel
theorem dL_law_581 : decode cL_law 581 = .ok (.iconst 1, 1) := by decide +kernel
theorem dL_law_582 : decode cL_law 582 = .ok (.iadd, 1) := by decide +kernel
theorem dL_law_583 : decode cL_law 583 = .ok (.iaload, 1) := by decide +kernel
theorem dL_law_584 : decode cL_law 584 = .ok (.aload_n 0, 1) := by decide +kernel
theorem dL_law_585 : decode cL_law 585 = .ok (.iload_n 3, 1) := by decide +kernel
theorem dL_law_586 : decode cL_law 586 = .ok (.iconst 2, 1) := by decide +kernel
theorem dL_law_587 : decode cL_law 587 = .ok (.iadd, 1) := by decide +kernel
theorem dL_law_588 : decode cL_law 588 = .ok (.iaload, 1) := by decide +kernel
theorem dL_law_589 : decode cL_law 589 = .ok (.invokevirtual 76, 3) := by decide +kernel
theorem dL_law_592 : decode cL_law 592 = .ok (.if_icmp .eq 425, 3) := by decide +kernel
theorem dL_law_595 : decode cL_law 595 = .ok (.iconst 0, 1) := by decide +kernel
theorem dL_law_596 : decode cL_law 596 = .ok (.ireturn, 1) := by decide +kernel
theorem dL_law_597 : decode cL_law 597 = .ok (.aload_n 1, 1) := by decide +kernel
theorem dL_law_598 : decode cL_law 598 = .ok (.aload_n 0, 1) := by decide +kernel
theorem dL_law_599 : decode cL_law 599 = .ok (.iload_n 3, 1) := by decide +kernel
theorem dL_law_600 : decode cL_law 600 = .ok (.iconst 1, 1) := by decide +kernel
theorem dL_law_601 : decode cL_law 601 = .ok (.iadd, 1) := by decide +kernel
theorem dL_law_602 : decode cL_law 602 = .ok (.iaload, 1) := by decide +kernel
theorem dL_law_603 : decode cL_law 603 = .ok (.invokevirtual 77, 3) := by decide +kernel
theorem dL_law_606 : decode cL_law 606 = .ok (.aload_n 2, 1) := by decide +kernel
theorem dL_law_607 : decode cL_law 607 = .ok (.aload_n 0, 1) := by decide +kernel
theorem dL_law_608 : decode cL_law 608 = .ok (.iload_n 3, 1) := by decide +kernel
theorem dL_law_609 : decode cL_law 609 = .ok (.iconst 1, 1) := by decide +kernel
theorem dL_law_610 : decode cL_law 610 = .ok (.iadd, 1) := by decide +kernel
theorem dL_law_611 : decode cL_law 611 = .ok (.iaload, 1) := by decide +kernel
theorem dL_law_612 : decode cL_law 612 = .ok (.invokevirtual 80, 3) := by decide +kernel
theorem dL_law_615 : decode cL_law 615 = .ok (.if_icmp .eq 402, 3) := by decide +kernel
theorem dL_law_618 : decode cL_law 618 = .ok (.iconst 0, 1) := by decide +kernel
theorem dL_law_619 : decode cL_law 619 = .ok (.ireturn, 1) := by decide +kernel
theorem dL_law_620 : decode cL_law 620 = .ok (.aload_n 1, 1) := by decide +kernel
theorem dL_law_621 : decode cL_law 621 = .ok (.invokevirtual 81, 3) := by decide +kernel
theorem dL_law_624 : decode cL_law 624 = .ok (.aload_n 2, 1) := by decide +kernel
theorem dL_law_625 : decode cL_law 625 = .ok (.invokevirtual 84, 3) := by decide +kernel
theorem dL_law_628 : decode cL_law 628 = .ok (.if_icmp .eq 389, 3) := by decide +kernel
theorem dL_law_631 : decode cL_law 631 = .ok (.iconst 0, 1) := by decide +kernel
theorem dL_law_632 : decode cL_law 632 = .ok (.ireturn, 1) := by decide +kernel
theorem dL_law_633 : decode cL_law 633 = .ok (.aload_n 1, 1) := by decide +kernel
theorem dL_law_634 : decode cL_law 634 = .ok (.aload_n 0, 1) := by decide +kernel
theorem dL_law_635 : decode cL_law 635 = .ok (.iload_n 3, 1) := by decide +kernel
theorem dL_law_636 : decode cL_law 636 = .ok (.iconst 1, 1) := by decide +kernel
theorem dL_law_637 : decode cL_law 637 = .ok (.iadd, 1) := by decide +kernel
theorem dL_law_638 : decode cL_law 638 = .ok (.iaload, 1) := by decide +kernel
theorem dL_law_639 : decode cL_law 639 = .ok (.aload_n 0, 1) := by decide +kernel
theorem dL_law_640 : decode cL_law 640 = .ok (.iload_n 3, 1) := by decide +kernel
theorem dL_law_641 : decode cL_law 641 = .ok (.iconst 2, 1) := by decide +kernel
theorem dL_law_642 : decode cL_law 642 = .ok (.iadd, 1) := by decide +kernel
theorem dL_law_643 : decode cL_law 643 = .ok (.iaload, 1) := by decide +kernel
theorem dL_law_644 : decode cL_law 644 = .ok (.invokevirtual 85, 3) := by decide +kernel
theorem dL_law_647 : decode cL_law 647 = .ok (.aload_n 2, 1) := by decide +kernel
theorem dL_law_648 : decode cL_law 648 = .ok (.aload_n 0, 1) := by decide +kernel
theorem dL_law_649 : decode cL_law 649 = .ok (.iload_n 3, 1) := by decide +kernel
theorem dL_law_650 : decode cL_law 650 = .ok (.iconst 1, 1) := by decide +kernel
theorem dL_law_651 : decode cL_law 651 = .ok (.iadd, 1) := by decide +kernel
theorem dL_law_652 : decode cL_law 652 = .ok (.iaload, 1) := by decide +kernel
theorem dL_law_653 : decode cL_law 653 = .ok (.aload_n 0, 1) := by decide +kernel
theorem dL_law_654 : decode cL_law 654 = .ok (.iload_n 3, 1) := by decide +kernel
theorem dL_law_655 : decode cL_law 655 = .ok (.iconst 2, 1) := by decide +kernel
theorem dL_law_656 : decode cL_law 656 = .ok (.iadd, 1) := by decide +kernel
theorem dL_law_657 : decode cL_law 657 = .ok (.iaload, 1) := by decide +kernel
theorem dL_law_658 : decode cL_law 658 = .ok (.invokevirtual 88, 3) := by decide +kernel
theorem dL_law_661 : decode cL_law 661 = .ok (.if_icmp .eq 356, 3) := by decide +kernel
theorem dL_law_664 : decode cL_law 664 = .ok (.iconst 0, 1) := by decide +kernel
theorem dL_law_665 : decode cL_law 665 = .ok (.ireturn, 1) := by decide +kernel
theorem dL_law_666 : decode cL_law 666 = .ok (.aload_n 1, 1) := by decide +kernel
theorem dL_law_667 : decode cL_law 667 = .ok (.invokevirtual 89, 3) := by decide +kernel
theorem dL_law_670 : decode cL_law 670 = .ok (.aload_n 2, 1) := by decide +kernel
theorem dL_law_671 : decode cL_law 671 = .ok (.invokevirtual 92, 3) := by decide +kernel
theorem dL_law_674 : decode cL_law 674 = .ok (.if_icmp .eq 343, 3) := by decide +kernel
theorem dL_law_677 : decode cL_law 677 = .ok (.iconst 0, 1) := by decide +kernel
theorem dL_law_678 : decode cL_law 678 = .ok (.ireturn, 1) := by decide +kernel
theorem dL_law_679 : decode cL_law 679 = .ok (.aload_n 1, 1) := by decide +kernel
theorem dL_law_680 : decode cL_law 680 = .ok (.aload_n 0, 1) := by decide +kernel
theorem dL_law_681 : decode cL_law 681 = .ok (.iload_n 3, 1) := by decide +kernel
theorem dL_law_682 : decode cL_law 682 = .ok (.iconst 1, 1) := by decide +kernel
theorem dL_law_683 : decode cL_law 683 = .ok (.iadd, 1) := by decide +kernel
theorem dL_law_684 : decode cL_law 684 = .ok (.iaload, 1) := by decide +kernel
theorem dL_law_685 : decode cL_law 685 = .ok (.invokevirtual 93, 3) := by decide +kernel
theorem dL_law_688 : decode cL_law 688 = .ok (.aload_n 2, 1) := by decide +kernel
theorem dL_law_689 : decode cL_law 689 = .ok (.aload_n 0, 1) := by decide +kernel
theorem dL_law_690 : decode cL_law 690 = .ok (.iload_n 3, 1) := by decide +kernel
theorem dL_law_691 : decode cL_law 691 = .ok (.iconst 1, 1) := by decide +kernel
theorem dL_law_692 : decode cL_law 692 = .ok (.iadd, 1) := by decide +kernel
theorem dL_law_693 : decode cL_law 693 = .ok (.iaload, 1) := by decide +kernel
theorem dL_law_694 : decode cL_law 694 = .ok (.invokevirtual 96, 3) := by decide +kernel
theorem dL_law_697 : decode cL_law 697 = .ok (.if_icmp .eq 320, 3) := by decide +kernel
theorem dL_law_700 : decode cL_law 700 = .ok (.iconst 0, 1) := by decide +kernel
theorem dL_law_701 : decode cL_law 701 = .ok (.ireturn, 1) := by decide +kernel
theorem dL_law_702 : decode cL_law 702 = .ok (.aload_n 1, 1) := by decide +kernel
theorem dL_law_703 : decode cL_law 703 = .ok (.aload_n 0, 1) := by decide +kernel
theorem dL_law_704 : decode cL_law 704 = .ok (.iload_n 3, 1) := by decide +kernel
theorem dL_law_705 : decode cL_law 705 = .ok (.iconst 1, 1) := by decide +kernel
theorem dL_law_706 : decode cL_law 706 = .ok (.iadd, 1) := by decide +kernel
theorem dL_law_707 : decode cL_law 707 = .ok (.iaload, 1) := by decide +kernel
theorem dL_law_708 : decode cL_law 708 = .ok (.invokevirtual 97, 3) := by decide +kernel
theorem dL_law_711 : decode cL_law 711 = .ok (.aload_n 2, 1) := by decide +kernel
theorem dL_law_712 : decode cL_law 712 = .ok (.aload_n 0, 1) := by decide +kernel
theorem dL_law_713 : decode cL_law 713 = .ok (.iload_n 3, 1) := by decide +kernel
theorem dL_law_714 : decode cL_law 714 = .ok (.iconst 1, 1) := by decide +kernel
theorem dL_law_715 : decode cL_law 715 = .ok (.iadd, 1) := by decide +kernel
theorem dL_law_716 : decode cL_law 716 = .ok (.iaload, 1) := by decide +kernel
theorem dL_law_717 : decode cL_law 717 = .ok (.invokevirtual 100, 3) := by decide +kernel
theorem dL_law_720 : decode cL_law 720 = .ok (.if_icmp .eq 297, 3) := by decide +kernel
theorem dL_law_723 : decode cL_law 723 = .ok (.iconst 0, 1) := by decide +kernel
theorem dL_law_724 : decode cL_law 724 = .ok (.ireturn, 1) := by decide +kernel
theorem dL_law_725 : decode cL_law 725 = .ok (.aload_n 1, 1) := by decide +kernel
theorem dL_law_726 : decode cL_law 726 = .ok (.invokevirtual 101, 3) := by decide +kernel
theorem dL_law_729 : decode cL_law 729 = .ok (.aload_n 2, 1) := by decide +kernel
theorem dL_law_730 : decode cL_law 730 = .ok (.invokevirtual 104, 3) := by decide +kernel
theorem dL_law_733 : decode cL_law 733 = .ok (.if_icmp .eq 284, 3) := by decide +kernel
theorem dL_law_736 : decode cL_law 736 = .ok (.iconst 0, 1) := by decide +kernel
theorem dL_law_737 : decode cL_law 737 = .ok (.ireturn, 1) := by decide +kernel
theorem dL_law_738 : decode cL_law 738 = .ok (.aload_n 1, 1) := by decide +kernel
theorem dL_law_739 : decode cL_law 739 = .ok (.aload_n 0, 1) := by decide +kernel
theorem dL_law_740 : decode cL_law 740 = .ok (.iload_n 3, 1) := by decide +kernel
theorem dL_law_741 : decode cL_law 741 = .ok (.iconst 1, 1) := by decide +kernel
theorem dL_law_742 : decode cL_law 742 = .ok (.iadd, 1) := by decide +kernel
theorem dL_law_743 : decode cL_law 743 = .ok (.iaload, 1) := by decide +kernel
theorem dL_law_744 : decode cL_law 744 = .ok (.aload_n 0, 1) := by decide +kernel
theorem dL_law_745 : decode cL_law 745 = .ok (.iload_n 3, 1) := by decide +kernel
theorem dL_law_746 : decode cL_law 746 = .ok (.iconst 2, 1) := by decide +kernel
theorem dL_law_747 : decode cL_law 747 = .ok (.iadd, 1) := by decide +kernel
theorem dL_law_748 : decode cL_law 748 = .ok (.iaload, 1) := by decide +kernel
theorem dL_law_749 : decode cL_law 749 = .ok (.invokevirtual 105, 3) := by decide +kernel
theorem dL_law_752 : decode cL_law 752 = .ok (.aload_n 2, 1) := by decide +kernel
theorem dL_law_753 : decode cL_law 753 = .ok (.aload_n 0, 1) := by decide +kernel
theorem dL_law_754 : decode cL_law 754 = .ok (.iload_n 3, 1) := by decide +kernel
theorem dL_law_755 : decode cL_law 755 = .ok (.iconst 1, 1) := by decide +kernel
theorem dL_law_756 : decode cL_law 756 = .ok (.iadd, 1) := by decide +kernel
theorem dL_law_757 : decode cL_law 757 = .ok (.iaload, 1) := by decide +kernel
theorem dL_law_758 : decode cL_law 758 = .ok (.aload_n 0, 1) := by decide +kernel
theorem dL_law_759 : decode cL_law 759 = .ok (.iload_n 3, 1) := by decide +kernel
theorem dL_law_760 : decode cL_law 760 = .ok (.iconst 2, 1) := by decide +kernel
theorem dL_law_761 : decode cL_law 761 = .ok (.iadd, 1) := by decide +kernel
theorem dL_law_762 : decode cL_law 762 = .ok (.iaload, 1) := by decide +kernel
theorem dL_law_763 : decode cL_law 763 = .ok (.invokevirtual 108, 3) := by decide +kernel
theorem dL_law_766 : decode cL_law 766 = .ok (.if_icmp .eq 251, 3) := by decide +kernel
theorem dL_law_769 : decode cL_law 769 = .ok (.iconst 0, 1) := by decide +kernel
theorem dL_law_770 : decode cL_law 770 = .ok (.ireturn, 1) := by decide +kernel
theorem dL_law_771 : decode cL_law 771 = .ok (.aload_n 1, 1) := by decide +kernel
theorem dL_law_772 : decode cL_law 772 = .ok (.aload_n 0, 1) := by decide +kernel
theorem dL_law_773 : decode cL_law 773 = .ok (.iload_n 3, 1) := by decide +kernel
theorem dL_law_774 : decode cL_law 774 = .ok (.iconst 1, 1) := by decide +kernel
theorem dL_law_775 : decode cL_law 775 = .ok (.iadd, 1) := by decide +kernel
theorem dL_law_776 : decode cL_law 776 = .ok (.iaload, 1) := by decide +kernel
theorem dL_law_777 : decode cL_law 777 = .ok (.aload_n 0, 1) := by decide +kernel
theorem dL_law_778 : decode cL_law 778 = .ok (.iload_n 3, 1) := by decide +kernel
theorem dL_law_779 : decode cL_law 779 = .ok (.iconst 2, 1) := by decide +kernel
theorem dL_law_780 : decode cL_law 780 = .ok (.iadd, 1) := by decide +kernel
theorem dL_law_781 : decode cL_law 781 = .ok (.iaload, 1) := by decide +kernel
theorem dL_law_782 : decode cL_law 782 = .ok (.aload_n 0, 1) := by decide +kernel
theorem dL_law_783 : decode cL_law 783 = .ok (.iload_n 3, 1) := by decide +kernel
theorem dL_law_784 : decode cL_law 784 = .ok (.iconst 3, 1) := by decide +kernel
theorem dL_law_785 : decode cL_law 785 = .ok (.iadd, 1) := by decide +kernel
theorem dL_law_786 : decode cL_law 786 = .ok (.iaload, 1) := by decide +kernel
theorem dL_law_787 : decode cL_law 787 = .ok (.ifCond .eq 7, 3) := by decide +kernel
theorem dL_law_790 : decode cL_law 790 = .ok (.iconst 1, 1) := by decide +kernel
theorem dL_law_791 : decode cL_law 791 = .ok (.goto 4, 3) := by decide +kernel
theorem dL_law_794 : decode cL_law 794 = .ok (.iconst 0, 1) := by decide +kernel
theorem dL_law_795 : decode cL_law 795 = .ok (.invokevirtual 109, 3) := by decide +kernel
theorem dL_law_798 : decode cL_law 798 = .ok (.aload_n 2, 1) := by decide +kernel
theorem dL_law_799 : decode cL_law 799 = .ok (.aload_n 0, 1) := by decide +kernel
theorem dL_law_800 : decode cL_law 800 = .ok (.iload_n 3, 1) := by decide +kernel
theorem dL_law_801 : decode cL_law 801 = .ok (.iconst 1, 1) := by decide +kernel
theorem dL_law_802 : decode cL_law 802 = .ok (.iadd, 1) := by decide +kernel
theorem dL_law_803 : decode cL_law 803 = .ok (.iaload, 1) := by decide +kernel
theorem dL_law_804 : decode cL_law 804 = .ok (.aload_n 0, 1) := by decide +kernel
theorem dL_law_805 : decode cL_law 805 = .ok (.iload_n 3, 1) := by decide +kernel
theorem dL_law_806 : decode cL_law 806 = .ok (.iconst 2, 1) := by decide +kernel
theorem dL_law_807 : decode cL_law 807 = .ok (.iadd, 1) := by decide +kernel
theorem dL_law_808 : decode cL_law 808 = .ok (.iaload, 1) := by decide +kernel
theorem dL_law_809 : decode cL_law 809 = .ok (.aload_n 0, 1) := by decide +kernel
theorem dL_law_810 : decode cL_law 810 = .ok (.iload_n 3, 1) := by decide +kernel
theorem dL_law_811 : decode cL_law 811 = .ok (.iconst 3, 1) := by decide +kernel
theorem dL_law_812 : decode cL_law 812 = .ok (.iadd, 1) := by decide +kernel
theorem dL_law_813 : decode cL_law 813 = .ok (.iaload, 1) := by decide +kernel
theorem dL_law_814 : decode cL_law 814 = .ok (.ifCond .eq 7, 3) := by decide +kernel
theorem dL_law_817 : decode cL_law 817 = .ok (.iconst 1, 1) := by decide +kernel
theorem dL_law_818 : decode cL_law 818 = .ok (.goto 4, 3) := by decide +kernel
theorem dL_law_821 : decode cL_law 821 = .ok (.iconst 0, 1) := by decide +kernel
theorem dL_law_822 : decode cL_law 822 = .ok (.invokevirtual 113, 3) := by decide +kernel
theorem dL_law_825 : decode cL_law 825 = .ok (.if_icmp .eq 192, 3) := by decide +kernel
theorem dL_law_828 : decode cL_law 828 = .ok (.iconst 0, 1) := by decide +kernel
theorem dL_law_829 : decode cL_law 829 = .ok (.ireturn, 1) := by decide +kernel
theorem dL_law_830 : decode cL_law 830 = .ok (.aload_n 1, 1) := by decide +kernel
theorem dL_law_831 : decode cL_law 831 = .ok (.aload_n 0, 1) := by decide +kernel
theorem dL_law_832 : decode cL_law 832 = .ok (.iload_n 3, 1) := by decide +kernel
theorem dL_law_833 : decode cL_law 833 = .ok (.iconst 1, 1) := by decide +kernel
theorem dL_law_834 : decode cL_law 834 = .ok (.iadd, 1) := by decide +kernel
theorem dL_law_835 : decode cL_law 835 = .ok (.iaload, 1) := by decide +kernel
theorem dL_law_836 : decode cL_law 836 = .ok (.invokevirtual 114, 3) := by decide +kernel
theorem dL_law_839 : decode cL_law 839 = .ok (.aload_n 2, 1) := by decide +kernel
theorem dL_law_840 : decode cL_law 840 = .ok (.aload_n 0, 1) := by decide +kernel
theorem dL_law_841 : decode cL_law 841 = .ok (.iload_n 3, 1) := by decide +kernel
theorem dL_law_842 : decode cL_law 842 = .ok (.iconst 1, 1) := by decide +kernel
theorem dL_law_843 : decode cL_law 843 = .ok (.iadd, 1) := by decide +kernel
theorem dL_law_844 : decode cL_law 844 = .ok (.iaload, 1) := by decide +kernel
theorem dL_law_845 : decode cL_law 845 = .ok (.invokevirtual 117, 3) := by decide +kernel
theorem dL_law_848 : decode cL_law 848 = .ok (.if_icmp .eq 169, 3) := by decide +kernel
theorem dL_law_851 : decode cL_law 851 = .ok (.iconst 0, 1) := by decide +kernel
theorem dL_law_852 : decode cL_law 852 = .ok (.ireturn, 1) := by decide +kernel
theorem dL_law_853 : decode cL_law 853 = .ok (.aload_n 1, 1) := by decide +kernel
theorem dL_law_854 : decode cL_law 854 = .ok (.invokevirtual 118, 3) := by decide +kernel
theorem dL_law_857 : decode cL_law 857 = .ok (.aload_n 2, 1) := by decide +kernel
theorem dL_law_858 : decode cL_law 858 = .ok (.invokevirtual 121, 3) := by decide +kernel
theorem dL_law_861 : decode cL_law 861 = .ok (.if_icmp .eq 156, 3) := by decide +kernel
theorem dL_law_864 : decode cL_law 864 = .ok (.iconst 0, 1) := by decide +kernel
theorem dL_law_865 : decode cL_law 865 = .ok (.ireturn, 1) := by decide +kernel
theorem dL_law_866 : decode cL_law 866 = .ok (.aload_n 1, 1) := by decide +kernel
theorem dL_law_867 : decode cL_law 867 = .ok (.aload_n 0, 1) := by decide +kernel
theorem dL_law_868 : decode cL_law 868 = .ok (.iload_n 3, 1) := by decide +kernel
theorem dL_law_869 : decode cL_law 869 = .ok (.iconst 1, 1) := by decide +kernel
theorem dL_law_870 : decode cL_law 870 = .ok (.iadd, 1) := by decide +kernel
theorem dL_law_871 : decode cL_law 871 = .ok (.iaload, 1) := by decide +kernel
theorem dL_law_872 : decode cL_law 872 = .ok (.invokevirtual 122, 3) := by decide +kernel
theorem dL_law_875 : decode cL_law 875 = .ok (.aload_n 2, 1) := by decide +kernel
theorem dL_law_876 : decode cL_law 876 = .ok (.aload_n 0, 1) := by decide +kernel
theorem dL_law_877 : decode cL_law 877 = .ok (.iload_n 3, 1) := by decide +kernel
theorem dL_law_878 : decode cL_law 878 = .ok (.iconst 1, 1) := by decide +kernel
theorem dL_law_879 : decode cL_law 879 = .ok (.iadd, 1) := by decide +kernel
theorem dL_law_880 : decode cL_law 880 = .ok (.iaload, 1) := by decide +kernel
theorem dL_law_881 : decode cL_law 881 = .ok (.invokevirtual 125, 3) := by decide +kernel
theorem dL_law_884 : decode cL_law 884 = .ok (.if_icmp .eq 133, 3) := by decide +kernel
theorem dL_law_887 : decode cL_law 887 = .ok (.iconst 0, 1) := by decide +kernel
theorem dL_law_888 : decode cL_law 888 = .ok (.ireturn, 1) := by decide +kernel
theorem dL_law_889 : decode cL_law 889 = .ok (.aload_n 1, 1) := by decide +kernel
theorem dL_law_890 : decode cL_law 890 = .ok (.aload_n 0, 1) := by decide +kernel
theorem dL_law_891 : decode cL_law 891 = .ok (.iload_n 3, 1) := by decide +kernel
theorem dL_law_892 : decode cL_law 892 = .ok (.iconst 1, 1) := by decide +kernel
theorem dL_law_893 : decode cL_law 893 = .ok (.iadd, 1) := by decide +kernel
theorem dL_law_894 : decode cL_law 894 = .ok (.iaload, 1) := by decide +kernel
theorem dL_law_895 : decode cL_law 895 = .ok (.aload_n 0, 1) := by decide +kernel
theorem dL_law_896 : decode cL_law 896 = .ok (.iload_n 3, 1) := by decide +kernel
theorem dL_law_897 : decode cL_law 897 = .ok (.iconst 2, 1) := by decide +kernel
theorem dL_law_898 : decode cL_law 898 = .ok (.iadd, 1) := by decide +kernel
theorem dL_law_899 : decode cL_law 899 = .ok (.iaload, 1) := by decide +kernel
theorem dL_law_900 : decode cL_law 900 = .ok (.invokevirtual 126, 3) := by decide +kernel
theorem dL_law_903 : decode cL_law 903 = .ok (.aload_n 2, 1) := by decide +kernel
theorem dL_law_904 : decode cL_law 904 = .ok (.aload_n 0, 1) := by decide +kernel
theorem dL_law_905 : decode cL_law 905 = .ok (.iload_n 3, 1) := by decide +kernel
theorem dL_law_906 : decode cL_law 906 = .ok (.iconst 1, 1) := by decide +kernel
theorem dL_law_907 : decode cL_law 907 = .ok (.iadd, 1) := by decide +kernel
theorem dL_law_908 : decode cL_law 908 = .ok (.iaload, 1) := by decide +kernel
theorem dL_law_909 : decode cL_law 909 = .ok (.aload_n 0, 1) := by decide +kernel
theorem dL_law_910 : decode cL_law 910 = .ok (.iload_n 3, 1) := by decide +kernel
theorem dL_law_911 : decode cL_law 911 = .ok (.iconst 2, 1) := by decide +kernel
theorem dL_law_912 : decode cL_law 912 = .ok (.iadd, 1) := by decide +kernel
theorem dL_law_913 : decode cL_law 913 = .ok (.iaload, 1) := by decide +kernel
theorem dL_law_914 : decode cL_law 914 = .ok (.invokevirtual 129, 3) := by decide +kernel
theorem dL_law_917 : decode cL_law 917 = .ok (.if_icmp .eq 100, 3) := by decide +kernel
theorem dL_law_920 : decode cL_law 920 = .ok (.iconst 0, 1) := by decide +kernel
theorem dL_law_921 : decode cL_law 921 = .ok (.ireturn, 1) := by decide +kernel
theorem dL_law_922 : decode cL_law 922 = .ok (.aload_n 1, 1) := by decide +kernel
theorem dL_law_923 : decode cL_law 923 = .ok (.invokevirtual 130, 3) := by decide +kernel
theorem dL_law_926 : decode cL_law 926 = .ok (.aload_n 2, 1) := by decide +kernel
theorem dL_law_927 : decode cL_law 927 = .ok (.invokevirtual 133, 3) := by decide +kernel
theorem dL_law_930 : decode cL_law 930 = .ok (.if_icmp .eq 87, 3) := by decide +kernel
theorem dL_law_933 : decode cL_law 933 = .ok (.iconst 0, 1) := by decide +kernel
theorem dL_law_934 : decode cL_law 934 = .ok (.ireturn, 1) := by decide +kernel
theorem dL_law_935 : decode cL_law 935 = .ok (.aload_n 1, 1) := by decide +kernel
theorem dL_law_936 : decode cL_law 936 = .ok (.invokevirtual 134, 3) := by decide +kernel
theorem dL_law_939 : decode cL_law 939 = .ok (.aload_n 2, 1) := by decide +kernel
theorem dL_law_940 : decode cL_law 940 = .ok (.invokevirtual 137, 3) := by decide +kernel
theorem dL_law_943 : decode cL_law 943 = .ok (.if_icmp .eq 74, 3) := by decide +kernel
theorem dL_law_946 : decode cL_law 946 = .ok (.iconst 0, 1) := by decide +kernel
theorem dL_law_947 : decode cL_law 947 = .ok (.ireturn, 1) := by decide +kernel
theorem dL_law_948 : decode cL_law 948 = .ok (.aload_n 1, 1) := by decide +kernel
theorem dL_law_949 : decode cL_law 949 = .ok (.aload_n 0, 1) := by decide +kernel
theorem dL_law_950 : decode cL_law 950 = .ok (.iload_n 3, 1) := by decide +kernel
theorem dL_law_951 : decode cL_law 951 = .ok (.iconst 1, 1) := by decide +kernel
theorem dL_law_952 : decode cL_law 952 = .ok (.iadd, 1) := by decide +kernel
theorem dL_law_953 : decode cL_law 953 = .ok (.iaload, 1) := by decide +kernel
theorem dL_law_954 : decode cL_law 954 = .ok (.invokevirtual 138, 3) := by decide +kernel
theorem dL_law_957 : decode cL_law 957 = .ok (.aload_n 2, 1) := by decide +kernel
theorem dL_law_958 : decode cL_law 958 = .ok (.aload_n 0, 1) := by decide +kernel
theorem dL_law_959 : decode cL_law 959 = .ok (.iload_n 3, 1) := by decide +kernel
theorem dL_law_960 : decode cL_law 960 = .ok (.iconst 1, 1) := by decide +kernel
theorem dL_law_961 : decode cL_law 961 = .ok (.iadd, 1) := by decide +kernel
theorem dL_law_962 : decode cL_law 962 = .ok (.iaload, 1) := by decide +kernel
theorem dL_law_963 : decode cL_law 963 = .ok (.invokevirtual 141, 3) := by decide +kernel
theorem dL_law_966 : decode cL_law 966 = .ok (.if_icmp .eq 51, 3) := by decide +kernel
theorem dL_law_969 : decode cL_law 969 = .ok (.iconst 0, 1) := by decide +kernel
theorem dL_law_970 : decode cL_law 970 = .ok (.ireturn, 1) := by decide +kernel
theorem dL_law_971 : decode cL_law 971 = .ok (.aload_n 1, 1) := by decide +kernel
theorem dL_law_972 : decode cL_law 972 = .ok (.aload_n 0, 1) := by decide +kernel
theorem dL_law_973 : decode cL_law 973 = .ok (.iload_n 3, 1) := by decide +kernel
theorem dL_law_974 : decode cL_law 974 = .ok (.iconst 1, 1) := by decide +kernel
theorem dL_law_975 : decode cL_law 975 = .ok (.iadd, 1) := by decide +kernel
theorem dL_law_976 : decode cL_law 976 = .ok (.iaload, 1) := by decide +kernel
theorem dL_law_977 : decode cL_law 977 = .ok (.invokevirtual 142, 3) := by decide +kernel
theorem dL_law_980 : decode cL_law 980 = .ok (.aload_n 2, 1) := by decide +kernel
theorem dL_law_981 : decode cL_law 981 = .ok (.aload_n 0, 1) := by decide +kernel
theorem dL_law_982 : decode cL_law 982 = .ok (.iload_n 3, 1) := by decide +kernel
theorem dL_law_983 : decode cL_law 983 = .ok (.iconst 1, 1) := by decide +kernel
theorem dL_law_984 : decode cL_law 984 = .ok (.iadd, 1) := by decide +kernel
theorem dL_law_985 : decode cL_law 985 = .ok (.iaload, 1) := by decide +kernel
theorem dL_law_986 : decode cL_law 986 = .ok (.invokevirtual 145, 3) := by decide +kernel
theorem dL_law_989 : decode cL_law 989 = .ok (.if_icmp .eq 28, 3) := by decide +kernel
theorem dL_law_992 : decode cL_law 992 = .ok (.iconst 0, 1) := by decide +kernel
theorem dL_law_993 : decode cL_law 993 = .ok (.ireturn, 1) := by decide +kernel
theorem dL_law_994 : decode cL_law 994 = .ok (.aload_n 1, 1) := by decide +kernel
theorem dL_law_995 : decode cL_law 995 = .ok (.aload_n 0, 1) := by decide +kernel
theorem dL_law_996 : decode cL_law 996 = .ok (.iload_n 3, 1) := by decide +kernel
theorem dL_law_997 : decode cL_law 997 = .ok (.iconst 1, 1) := by decide +kernel
theorem dL_law_998 : decode cL_law 998 = .ok (.iadd, 1) := by decide +kernel
theorem dL_law_999 : decode cL_law 999 = .ok (.iaload, 1) := by decide +kernel
theorem dL_law_1000 : decode cL_law 1000 = .ok (.invokevirtual 146, 3) := by decide +kernel
theorem dL_law_1003 : decode cL_law 1003 = .ok (.aload_n 2, 1) := by decide +kernel
theorem dL_law_1004 : decode cL_law 1004 = .ok (.aload_n 0, 1) := by decide +kernel
theorem dL_law_1005 : decode cL_law 1005 = .ok (.iload_n 3, 1) := by decide +kernel
theorem dL_law_1006 : decode cL_law 1006 = .ok (.iconst 1, 1) := by decide +kernel
theorem dL_law_1007 : decode cL_law 1007 = .ok (.iadd, 1) := by decide +kernel
theorem dL_law_1008 : decode cL_law 1008 = .ok (.iaload, 1) := by decide +kernel
theorem dL_law_1009 : decode cL_law 1009 = .ok (.invokevirtual 149, 3) := by decide +kernel
theorem dL_law_1012 : decode cL_law 1012 = .ok (.if_icmp .eq 5, 3) := by decide +kernel
theorem dL_law_1015 : decode cL_law 1015 = .ok (.iconst 0, 1) := by decide +kernel
theorem dL_law_1016 : decode cL_law 1016 = .ok (.ireturn, 1) := by decide +kernel
theorem dL_law_1017 : decode cL_law 1017 = .ok (.iinc 3 4, 3) := by decide +kernel
theorem dL_law_1020 : decode cL_law 1020 = .ok (.goto (-1002), 3) := by decide +kernel
theorem dL_law_1023 : decode cL_law 1023 = .ok (.iconst 1, 1) := by decide +kernel
theorem dL_law_1024 : decode cL_law 1024 = .ok (.ireturn, 1) := by decide +kernel

theorem d_ND_init_0 : decode c_ND_init 0 = .ok (.aload_n 0, 1) := by decide +kernel
theorem d_ND_init_1 : decode c_ND_init 1 = .ok (.invokespecial 3, 3) := by decide +kernel
theorem d_ND_init_4 : decode c_ND_init 4 = .ok (.aload_n 0, 1) := by decide +kernel
theorem d_ND_init_5 : decode c_ND_init 5 = .ok (.sipush 1200, 3) := by decide +kernel
theorem d_ND_init_8 : decode c_ND_init 8 = .ok (.newarray .int, 2) := by decide +kernel
theorem d_ND_init_10 : decode c_ND_init 10 = .ok (.putfield 11, 3) := by decide +kernel
theorem d_ND_init_13 : decode c_ND_init 13 = .ok (.aload_n 0, 1) := by decide +kernel
theorem d_ND_init_14 : decode c_ND_init 14 = .ok (.sipush 1200, 3) := by decide +kernel
theorem d_ND_init_17 : decode c_ND_init 17 = .ok (.newarray .int, 2) := by decide +kernel
theorem d_ND_init_19 : decode c_ND_init 19 = .ok (.putfield 15, 3) := by decide +kernel
theorem d_ND_init_22 : decode c_ND_init 22 = .ok (.aload_n 0, 1) := by decide +kernel
theorem d_ND_init_23 : decode c_ND_init 23 = .ok (.sipush 1200, 3) := by decide +kernel
theorem d_ND_init_26 : decode c_ND_init 26 = .ok (.newarray .long, 2) := by decide +kernel
theorem d_ND_init_28 : decode c_ND_init 28 = .ok (.putfield 18, 3) := by decide +kernel
theorem d_ND_init_31 : decode c_ND_init 31 = .ok (.aload_n 0, 1) := by decide +kernel
theorem d_ND_init_32 : decode c_ND_init 32 = .ok (.sipush 1200, 3) := by decide +kernel
theorem d_ND_init_35 : decode c_ND_init 35 = .ok (.newarray .int, 2) := by decide +kernel
theorem d_ND_init_37 : decode c_ND_init 37 = .ok (.putfield 22, 3) := by decide +kernel
theorem d_ND_init_40 : decode c_ND_init 40 = .ok (.aload_n 0, 1) := by decide +kernel
theorem d_ND_init_41 : decode c_ND_init 41 = .ok (.sipush 1200, 3) := by decide +kernel
theorem d_ND_init_44 : decode c_ND_init 44 = .ok (.newarray .int, 2) := by decide +kernel
theorem d_ND_init_46 : decode c_ND_init 46 = .ok (.putfield 25, 3) := by decide +kernel
theorem d_ND_init_49 : decode c_ND_init 49 = .ok (.aload_n 0, 1) := by decide +kernel
theorem d_ND_init_50 : decode c_ND_init 50 = .ok (.sipush 9600, 3) := by decide +kernel
theorem d_ND_init_53 : decode c_ND_init 53 = .ok (.newarray .long, 2) := by decide +kernel
theorem d_ND_init_55 : decode c_ND_init 55 = .ok (.putfield 28, 3) := by decide +kernel
theorem d_ND_init_58 : decode c_ND_init 58 = .ok (.return_, 1) := by decide +kernel
theorem d_ND_begin_0 : decode c_ND_begin 0 = .ok (.aload_n 0, 1) := by decide +kernel
theorem d_ND_begin_1 : decode c_ND_begin 1 = .ok (.getfield 11, 3) := by decide +kernel
theorem d_ND_begin_4 : decode c_ND_begin 4 = .ok (.iload_n 1, 1) := by decide +kernel
theorem d_ND_begin_5 : decode c_ND_begin 5 = .ok (.iload_n 2, 1) := by decide +kernel
theorem d_ND_begin_6 : decode c_ND_begin 6 = .ok (.iastore, 1) := by decide +kernel
theorem d_ND_begin_7 : decode c_ND_begin 7 = .ok (.aload_n 0, 1) := by decide +kernel
theorem d_ND_begin_8 : decode c_ND_begin 8 = .ok (.getfield 15, 3) := by decide +kernel
theorem d_ND_begin_11 : decode c_ND_begin 11 = .ok (.iload_n 1, 1) := by decide +kernel
theorem d_ND_begin_12 : decode c_ND_begin 12 = .ok (.iload_n 3, 1) := by decide +kernel
theorem d_ND_begin_13 : decode c_ND_begin 13 = .ok (.iastore, 1) := by decide +kernel
theorem d_ND_begin_14 : decode c_ND_begin 14 = .ok (.aload_n 0, 1) := by decide +kernel
theorem d_ND_begin_15 : decode c_ND_begin 15 = .ok (.getfield 18, 3) := by decide +kernel
theorem d_ND_begin_18 : decode c_ND_begin 18 = .ok (.iload_n 1, 1) := by decide +kernel
theorem d_ND_begin_19 : decode c_ND_begin 19 = .ok (.lload 4, 2) := by decide +kernel
theorem d_ND_begin_21 : decode c_ND_begin 21 = .ok (.lastore, 1) := by decide +kernel
theorem d_ND_begin_22 : decode c_ND_begin 22 = .ok (.iconst 0, 1) := by decide +kernel
theorem d_ND_begin_23 : decode c_ND_begin 23 = .ok (.istore 6, 2) := by decide +kernel
theorem d_ND_begin_25 : decode c_ND_begin 25 = .ok (.iload 6, 2) := by decide +kernel
theorem d_ND_begin_27 : decode c_ND_begin 27 = .ok (.bipush 8, 2) := by decide +kernel
theorem d_ND_begin_29 : decode c_ND_begin 29 = .ok (.if_icmp .ge 22, 3) := by decide +kernel
theorem d_ND_begin_32 : decode c_ND_begin 32 = .ok (.aload_n 0, 1) := by decide +kernel
theorem d_ND_begin_33 : decode c_ND_begin 33 = .ok (.getfield 28, 3) := by decide +kernel
theorem d_ND_begin_36 : decode c_ND_begin 36 = .ok (.iload_n 1, 1) := by decide +kernel
theorem d_ND_begin_37 : decode c_ND_begin 37 = .ok (.bipush 8, 2) := by decide +kernel
theorem d_ND_begin_39 : decode c_ND_begin 39 = .ok (.imul, 1) := by decide +kernel
theorem d_ND_begin_40 : decode c_ND_begin 40 = .ok (.iload 6, 2) := by decide +kernel
theorem d_ND_begin_42 : decode c_ND_begin 42 = .ok (.iadd, 1) := by decide +kernel
theorem d_ND_begin_43 : decode c_ND_begin 43 = .ok (.lconst 0, 1) := by decide +kernel
theorem d_ND_begin_44 : decode c_ND_begin 44 = .ok (.lastore, 1) := by decide +kernel
theorem d_ND_begin_45 : decode c_ND_begin 45 = .ok (.iinc 6 1, 3) := by decide +kernel
theorem d_ND_begin_48 : decode c_ND_begin 48 = .ok (.goto (-23), 3) := by decide +kernel
theorem d_ND_begin_51 : decode c_ND_begin 51 = .ok (.aload_n 0, 1) := by decide +kernel
theorem d_ND_begin_52 : decode c_ND_begin 52 = .ok (.iload_n 1, 1) := by decide +kernel
theorem d_ND_begin_53 : decode c_ND_begin 53 = .ok (.iconst 1, 1) := by decide +kernel
theorem d_ND_begin_54 : decode c_ND_begin 54 = .ok (.iconst 1, 1) := by decide +kernel
theorem d_ND_begin_55 : decode c_ND_begin 55 = .ok (.invokevirtual 31, 3) := by decide +kernel
theorem d_ND_begin_58 : decode c_ND_begin 58 = .ok (.return_, 1) := by decide +kernel
theorem d_ND_finish_0 : decode c_ND_finish 0 = .ok (.aload_n 0, 1) := by decide +kernel
theorem d_ND_finish_1 : decode c_ND_finish 1 = .ok (.getfield 22, 3) := by decide +kernel
theorem d_ND_finish_4 : decode c_ND_finish 4 = .ok (.iload_n 1, 1) := by decide +kernel
theorem d_ND_finish_5 : decode c_ND_finish 5 = .ok (.iload_n 2, 1) := by decide +kernel
theorem d_ND_finish_6 : decode c_ND_finish 6 = .ok (.iastore, 1) := by decide +kernel
theorem d_ND_finish_7 : decode c_ND_finish 7 = .ok (.aload_n 0, 1) := by decide +kernel
theorem d_ND_finish_8 : decode c_ND_finish 8 = .ok (.getfield 25, 3) := by decide +kernel
theorem d_ND_finish_11 : decode c_ND_finish 11 = .ok (.iload_n 1, 1) := by decide +kernel
theorem d_ND_finish_12 : decode c_ND_finish 12 = .ok (.iload_n 3, 1) := by decide +kernel
theorem d_ND_finish_13 : decode c_ND_finish 13 = .ok (.iastore, 1) := by decide +kernel
theorem d_ND_finish_14 : decode c_ND_finish 14 = .ok (.return_, 1) := by decide +kernel
theorem d_ND_shift_0 : decode c_ND_shift 0 = .ok (.aload_n 0, 1) := by decide +kernel
theorem d_ND_shift_1 : decode c_ND_shift 1 = .ok (.getfield 11, 3) := by decide +kernel
theorem d_ND_shift_4 : decode c_ND_shift 4 = .ok (.iload_n 1, 1) := by decide +kernel
theorem d_ND_shift_5 : decode c_ND_shift 5 = .ok (.aload_n 0, 1) := by decide +kernel
theorem d_ND_shift_6 : decode c_ND_shift 6 = .ok (.getfield 11, 3) := by decide +kernel
theorem d_ND_shift_9 : decode c_ND_shift 9 = .ok (.iload_n 2, 1) := by decide +kernel
theorem d_ND_shift_10 : decode c_ND_shift 10 = .ok (.iload_n 3, 1) := by decide +kernel
theorem d_ND_shift_11 : decode c_ND_shift 11 = .ok (.invokestatic 35, 3) := by decide +kernel
theorem d_ND_shift_14 : decode c_ND_shift 14 = .ok (.aload_n 0, 1) := by decide +kernel
theorem d_ND_shift_15 : decode c_ND_shift 15 = .ok (.getfield 15, 3) := by decide +kernel
theorem d_ND_shift_18 : decode c_ND_shift 18 = .ok (.iload_n 1, 1) := by decide +kernel
theorem d_ND_shift_19 : decode c_ND_shift 19 = .ok (.aload_n 0, 1) := by decide +kernel
theorem d_ND_shift_20 : decode c_ND_shift 20 = .ok (.getfield 15, 3) := by decide +kernel
theorem d_ND_shift_23 : decode c_ND_shift 23 = .ok (.iload_n 2, 1) := by decide +kernel
theorem d_ND_shift_24 : decode c_ND_shift 24 = .ok (.iload_n 3, 1) := by decide +kernel
theorem d_ND_shift_25 : decode c_ND_shift 25 = .ok (.invokestatic 35, 3) := by decide +kernel
theorem d_ND_shift_28 : decode c_ND_shift 28 = .ok (.aload_n 0, 1) := by decide +kernel
theorem d_ND_shift_29 : decode c_ND_shift 29 = .ok (.getfield 18, 3) := by decide +kernel
theorem d_ND_shift_32 : decode c_ND_shift 32 = .ok (.iload_n 1, 1) := by decide +kernel
theorem d_ND_shift_33 : decode c_ND_shift 33 = .ok (.aload_n 0, 1) := by decide +kernel
theorem d_ND_shift_34 : decode c_ND_shift 34 = .ok (.getfield 18, 3) := by decide +kernel
theorem d_ND_shift_37 : decode c_ND_shift 37 = .ok (.iload_n 2, 1) := by decide +kernel
theorem d_ND_shift_38 : decode c_ND_shift 38 = .ok (.iload_n 3, 1) := by decide +kernel
theorem d_ND_shift_39 : decode c_ND_shift 39 = .ok (.invokestatic 35, 3) := by decide +kernel
theorem d_ND_shift_42 : decode c_ND_shift 42 = .ok (.aload_n 0, 1) := by decide +kernel
theorem d_ND_shift_43 : decode c_ND_shift 43 = .ok (.getfield 22, 3) := by decide +kernel
theorem d_ND_shift_46 : decode c_ND_shift 46 = .ok (.iload_n 1, 1) := by decide +kernel
theorem d_ND_shift_47 : decode c_ND_shift 47 = .ok (.aload_n 0, 1) := by decide +kernel
theorem d_ND_shift_48 : decode c_ND_shift 48 = .ok (.getfield 22, 3) := by decide +kernel
theorem d_ND_shift_51 : decode c_ND_shift 51 = .ok (.iload_n 2, 1) := by decide +kernel
theorem d_ND_shift_52 : decode c_ND_shift 52 = .ok (.iload_n 3, 1) := by decide +kernel
theorem d_ND_shift_53 : decode c_ND_shift 53 = .ok (.invokestatic 35, 3) := by decide +kernel
theorem d_ND_shift_56 : decode c_ND_shift 56 = .ok (.aload_n 0, 1) := by decide +kernel
theorem d_ND_shift_57 : decode c_ND_shift 57 = .ok (.getfield 25, 3) := by decide +kernel
theorem d_ND_shift_60 : decode c_ND_shift 60 = .ok (.iload_n 1, 1) := by decide +kernel
theorem d_ND_shift_61 : decode c_ND_shift 61 = .ok (.aload_n 0, 1) := by decide +kernel
theorem d_ND_shift_62 : decode c_ND_shift 62 = .ok (.getfield 25, 3) := by decide +kernel
theorem d_ND_shift_65 : decode c_ND_shift 65 = .ok (.iload_n 2, 1) := by decide +kernel
theorem d_ND_shift_66 : decode c_ND_shift 66 = .ok (.iload_n 3, 1) := by decide +kernel
theorem d_ND_shift_67 : decode c_ND_shift 67 = .ok (.invokestatic 35, 3) := by decide +kernel
theorem d_ND_shift_70 : decode c_ND_shift 70 = .ok (.aload_n 0, 1) := by decide +kernel
theorem d_ND_shift_71 : decode c_ND_shift 71 = .ok (.getfield 28, 3) := by decide +kernel
theorem d_ND_shift_74 : decode c_ND_shift 74 = .ok (.iload_n 1, 1) := by decide +kernel
theorem d_ND_shift_75 : decode c_ND_shift 75 = .ok (.bipush 8, 2) := by decide +kernel
theorem d_ND_shift_77 : decode c_ND_shift 77 = .ok (.imul, 1) := by decide +kernel
theorem d_ND_shift_78 : decode c_ND_shift 78 = .ok (.aload_n 0, 1) := by decide +kernel
theorem d_ND_shift_79 : decode c_ND_shift 79 = .ok (.getfield 28, 3) := by decide +kernel
theorem d_ND_shift_82 : decode c_ND_shift 82 = .ok (.iload_n 2, 1) := by decide +kernel
theorem d_ND_shift_83 : decode c_ND_shift 83 = .ok (.bipush 8, 2) := by decide +kernel
theorem d_ND_shift_85 : decode c_ND_shift 85 = .ok (.imul, 1) := by decide +kernel
theorem d_ND_shift_86 : decode c_ND_shift 86 = .ok (.iload_n 3, 1) := by decide +kernel
theorem d_ND_shift_87 : decode c_ND_shift 87 = .ok (.bipush 8, 2) := by decide +kernel
theorem d_ND_shift_89 : decode c_ND_shift 89 = .ok (.imul, 1) := by decide +kernel
theorem d_ND_shift_90 : decode c_ND_shift 90 = .ok (.invokestatic 35, 3) := by decide +kernel
theorem d_ND_shift_93 : decode c_ND_shift 93 = .ok (.return_, 1) := by decide +kernel
theorem d_ND_addByte_0 : decode c_ND_addByte 0 = .ok (.aload_n 0, 1) := by decide +kernel
theorem d_ND_addByte_1 : decode c_ND_addByte 1 = .ok (.getfield 15, 3) := by decide +kernel
theorem d_ND_addByte_4 : decode c_ND_addByte 4 = .ok (.iload_n 1, 1) := by decide +kernel
theorem d_ND_addByte_5 : decode c_ND_addByte 5 = .ok (.iaload, 1) := by decide +kernel
theorem d_ND_addByte_6 : decode c_ND_addByte 6 = .ok (.istore_n 3, 1) := by decide +kernel
theorem d_ND_addByte_7 : decode c_ND_addByte 7 = .ok (.iload_n 3, 1) := by decide +kernel
theorem d_ND_addByte_8 : decode c_ND_addByte 8 = .ok (.bipush 64, 2) := by decide +kernel
theorem d_ND_addByte_10 : decode c_ND_addByte 10 = .ok (.if_icmp .ge 36, 3) := by decide +kernel
theorem d_ND_addByte_13 : decode c_ND_addByte 13 = .ok (.aload_n 0, 1) := by decide +kernel
theorem d_ND_addByte_14 : decode c_ND_addByte 14 = .ok (.getfield 28, 3) := by decide +kernel
theorem d_ND_addByte_17 : decode c_ND_addByte 17 = .ok (.iload_n 1, 1) := by decide +kernel
theorem d_ND_addByte_18 : decode c_ND_addByte 18 = .ok (.bipush 8, 2) := by decide +kernel
theorem d_ND_addByte_20 : decode c_ND_addByte 20 = .ok (.imul, 1) := by decide +kernel
theorem d_ND_addByte_21 : decode c_ND_addByte 21 = .ok (.iload_n 3, 1) := by decide +kernel
theorem d_ND_addByte_22 : decode c_ND_addByte 22 = .ok (.bipush 8, 2) := by decide +kernel
theorem d_ND_addByte_24 : decode c_ND_addByte 24 = .ok (.idiv, 1) := by decide +kernel
theorem d_ND_addByte_25 : decode c_ND_addByte 25 = .ok (.iadd, 1) := by decide +kernel
theorem d_ND_addByte_26 : decode c_ND_addByte 26 = .ok (.dup2, 1) := by decide +kernel
theorem d_ND_addByte_27 : decode c_ND_addByte 27 = .ok (.laload, 1) := by decide +kernel
theorem d_ND_addByte_28 : decode c_ND_addByte 28 = .ok (.iload_n 2, 1) := by decide +kernel
theorem d_ND_addByte_29 : decode c_ND_addByte 29 = .ok (.i2l, 1) := by decide +kernel
theorem d_ND_addByte_30 : decode c_ND_addByte 30 = .ok (.iload_n 3, 1) := by decide +kernel
theorem d_ND_addByte_31 : decode c_ND_addByte 31 = .ok (.invokestatic 41, 3) := by decide +kernel
theorem d_ND_addByte_34 : decode c_ND_addByte 34 = .ok (.lshl, 1) := by decide +kernel
theorem d_ND_addByte_35 : decode c_ND_addByte 35 = .ok (.lor, 1) := by decide +kernel
theorem d_ND_addByte_36 : decode c_ND_addByte 36 = .ok (.lastore, 1) := by decide +kernel
theorem d_ND_addByte_37 : decode c_ND_addByte 37 = .ok (.aload_n 0, 1) := by decide +kernel
theorem d_ND_addByte_38 : decode c_ND_addByte 38 = .ok (.getfield 15, 3) := by decide +kernel
theorem d_ND_addByte_41 : decode c_ND_addByte 41 = .ok (.iload_n 1, 1) := by decide +kernel
theorem d_ND_addByte_42 : decode c_ND_addByte 42 = .ok (.iload_n 3, 1) := by decide +kernel
theorem d_ND_addByte_43 : decode c_ND_addByte 43 = .ok (.iconst 1, 1) := by decide +kernel
theorem d_ND_addByte_44 : decode c_ND_addByte 44 = .ok (.iadd, 1) := by decide +kernel
theorem d_ND_addByte_45 : decode c_ND_addByte 45 = .ok (.iastore, 1) := by decide +kernel
theorem d_ND_addByte_46 : decode c_ND_addByte 46 = .ok (.return_, 1) := by decide +kernel
theorem d_ND_addLowest_0 : decode c_ND_addLowest 0 = .ok (.iload 4, 2) := by decide +kernel
theorem d_ND_addLowest_2 : decode c_ND_addLowest 2 = .ok (.iconst 1, 1) := by decide +kernel
theorem d_ND_addLowest_3 : decode c_ND_addLowest 3 = .ok (.isub, 1) := by decide +kernel
theorem d_ND_addLowest_4 : decode c_ND_addLowest 4 = .ok (.istore 5, 2) := by decide +kernel
theorem d_ND_addLowest_6 : decode c_ND_addLowest 6 = .ok (.iload 5, 2) := by decide +kernel
theorem d_ND_addLowest_8 : decode c_ND_addLowest 8 = .ok (.ifCond .lt 20, 3) := by decide +kernel
theorem d_ND_addLowest_11 : decode c_ND_addLowest 11 = .ok (.aload_n 0, 1) := by decide +kernel
theorem d_ND_addLowest_12 : decode c_ND_addLowest 12 = .ok (.iload_n 1, 1) := by decide +kernel
theorem d_ND_addLowest_13 : decode c_ND_addLowest 13 = .ok (.lload_n 2, 1) := by decide +kernel
theorem d_ND_addLowest_14 : decode c_ND_addLowest 14 = .ok (.iload 5, 2) := by decide +kernel
theorem d_ND_addLowest_16 : decode c_ND_addLowest 16 = .ok (.invokestatic 45, 3) := by decide +kernel
theorem d_ND_addLowest_19 : decode c_ND_addLowest 19 = .ok (.invokevirtual 49, 3) := by decide +kernel
theorem d_ND_addLowest_22 : decode c_ND_addLowest 22 = .ok (.iinc 5 (-1), 3) := by decide +kernel
theorem d_ND_addLowest_25 : decode c_ND_addLowest 25 = .ok (.goto (-19), 3) := by decide +kernel
theorem d_ND_addLowest_28 : decode c_ND_addLowest 28 = .ok (.return_, 1) := by decide +kernel
theorem d_ND_heldByte_0 : decode c_ND_heldByte 0 = .ok (.aload_n 0, 1) := by decide +kernel
theorem d_ND_heldByte_1 : decode c_ND_heldByte 1 = .ok (.getfield 28, 3) := by decide +kernel
theorem d_ND_heldByte_4 : decode c_ND_heldByte 4 = .ok (.iload_n 1, 1) := by decide +kernel
theorem d_ND_heldByte_5 : decode c_ND_heldByte 5 = .ok (.bipush 8, 2) := by decide +kernel
theorem d_ND_heldByte_7 : decode c_ND_heldByte 7 = .ok (.imul, 1) := by decide +kernel
theorem d_ND_heldByte_8 : decode c_ND_heldByte 8 = .ok (.iload_n 2, 1) := by decide +kernel
theorem d_ND_heldByte_9 : decode c_ND_heldByte 9 = .ok (.bipush 8, 2) := by decide +kernel
theorem d_ND_heldByte_11 : decode c_ND_heldByte 11 = .ok (.idiv, 1) := by decide +kernel
theorem d_ND_heldByte_12 : decode c_ND_heldByte 12 = .ok (.iadd, 1) := by decide +kernel
theorem d_ND_heldByte_13 : decode c_ND_heldByte 13 = .ok (.laload, 1) := by decide +kernel
theorem d_ND_heldByte_14 : decode c_ND_heldByte 14 = .ok (.iload_n 2, 1) := by decide +kernel
theorem d_ND_heldByte_15 : decode c_ND_heldByte 15 = .ok (.invokestatic 41, 3) := by decide +kernel
theorem d_ND_heldByte_18 : decode c_ND_heldByte 18 = .ok (.lushr, 1) := by decide +kernel
theorem d_ND_heldByte_19 : decode c_ND_heldByte 19 = .ok (.l2i, 1) := by decide +kernel
theorem d_ND_heldByte_20 : decode c_ND_heldByte 20 = .ok (.sipush 255, 3) := by decide +kernel
theorem d_ND_heldByte_23 : decode c_ND_heldByte 23 = .ok (.iand, 1) := by decide +kernel
theorem d_ND_heldByte_24 : decode c_ND_heldByte 24 = .ok (.ireturn, 1) := by decide +kernel
theorem d_ND_wordShift_0 : decode c_ND_wordShift 0 = .ok (.bipush 8, 2) := by decide +kernel
theorem d_ND_wordShift_2 : decode c_ND_wordShift 2 = .ok (.bipush 7, 2) := by decide +kernel
theorem d_ND_wordShift_4 : decode c_ND_wordShift 4 = .ok (.iload_n 0, 1) := by decide +kernel
theorem d_ND_wordShift_5 : decode c_ND_wordShift 5 = .ok (.bipush 8, 2) := by decide +kernel
theorem d_ND_wordShift_7 : decode c_ND_wordShift 7 = .ok (.irem, 1) := by decide +kernel
theorem d_ND_wordShift_8 : decode c_ND_wordShift 8 = .ok (.isub, 1) := by decide +kernel
theorem d_ND_wordShift_9 : decode c_ND_wordShift 9 = .ok (.imul, 1) := by decide +kernel
theorem d_ND_wordShift_10 : decode c_ND_wordShift 10 = .ok (.ireturn, 1) := by decide +kernel
theorem d_ND_holdsData_0 : decode c_ND_holdsData 0 = .ok (.aload_n 0, 1) := by decide +kernel
theorem d_ND_holdsData_1 : decode c_ND_holdsData 1 = .ok (.getfield 11, 3) := by decide +kernel
theorem d_ND_holdsData_4 : decode c_ND_holdsData 4 = .ok (.iload_n 1, 1) := by decide +kernel
theorem d_ND_holdsData_5 : decode c_ND_holdsData 5 = .ok (.iaload, 1) := by decide +kernel
theorem d_ND_holdsData_6 : decode c_ND_holdsData 6 = .ok (.iconst 4, 1) := by decide +kernel
theorem d_ND_holdsData_7 : decode c_ND_holdsData 7 = .ok (.if_icmp .eq 24, 3) := by decide +kernel
theorem d_ND_holdsData_10 : decode c_ND_holdsData 10 = .ok (.aload_n 0, 1) := by decide +kernel
theorem d_ND_holdsData_11 : decode c_ND_holdsData 11 = .ok (.getfield 11, 3) := by decide +kernel
theorem d_ND_holdsData_14 : decode c_ND_holdsData 14 = .ok (.iload_n 1, 1) := by decide +kernel
theorem d_ND_holdsData_15 : decode c_ND_holdsData 15 = .ok (.iaload, 1) := by decide +kernel
theorem d_ND_holdsData_16 : decode c_ND_holdsData 16 = .ok (.iconst 5, 1) := by decide +kernel
theorem d_ND_holdsData_17 : decode c_ND_holdsData 17 = .ok (.if_icmp .eq 14, 3) := by decide +kernel
theorem d_ND_holdsData_20 : decode c_ND_holdsData 20 = .ok (.aload_n 0, 1) := by decide +kernel
theorem d_ND_holdsData_21 : decode c_ND_holdsData 21 = .ok (.getfield 11, 3) := by decide +kernel
theorem d_ND_holdsData_24 : decode c_ND_holdsData 24 = .ok (.iload_n 1, 1) := by decide +kernel
theorem d_ND_holdsData_25 : decode c_ND_holdsData 25 = .ok (.iaload, 1) := by decide +kernel
theorem d_ND_holdsData_26 : decode c_ND_holdsData 26 = .ok (.bipush 6, 2) := by decide +kernel
theorem d_ND_holdsData_28 : decode c_ND_holdsData 28 = .ok (.if_icmp .ne 7, 3) := by decide +kernel
theorem d_ND_holdsData_31 : decode c_ND_holdsData 31 = .ok (.iconst 1, 1) := by decide +kernel
theorem d_ND_holdsData_32 : decode c_ND_holdsData 32 = .ok (.goto 4, 3) := by decide +kernel
theorem d_ND_holdsData_35 : decode c_ND_holdsData 35 = .ok (.iconst 0, 1) := by decide +kernel
theorem d_ND_holdsData_36 : decode c_ND_holdsData 36 = .ok (.ireturn, 1) := by decide +kernel
theorem d_ND_within_0 : decode c_ND_within 0 = .ok (.aload_n 0, 1) := by decide +kernel
theorem d_ND_within_1 : decode c_ND_within 1 = .ok (.getfield 11, 3) := by decide +kernel
theorem d_ND_within_4 : decode c_ND_within 4 = .ok (.iload_n 1, 1) := by decide +kernel
theorem d_ND_within_5 : decode c_ND_within 5 = .ok (.iaload, 1) := by decide +kernel
theorem d_ND_within_6 : decode c_ND_within 6 = .ok (.iconst 5, 1) := by decide +kernel
theorem d_ND_within_7 : decode c_ND_within 7 = .ok (.if_icmp .ne 14, 3) := by decide +kernel
theorem d_ND_within_10 : decode c_ND_within 10 = .ok (.iconst 2, 1) := by decide +kernel
theorem d_ND_within_11 : decode c_ND_within 11 = .ok (.aload_n 0, 1) := by decide +kernel
theorem d_ND_within_12 : decode c_ND_within 12 = .ok (.getfield 15, 3) := by decide +kernel
theorem d_ND_within_15 : decode c_ND_within 15 = .ok (.iload_n 1, 1) := by decide +kernel
theorem d_ND_within_16 : decode c_ND_within 16 = .ok (.iaload, 1) := by decide +kernel
theorem d_ND_within_17 : decode c_ND_within 17 = .ok (.imul, 1) := by decide +kernel
theorem d_ND_within_18 : decode c_ND_within 18 = .ok (.goto 9, 3) := by decide +kernel
theorem d_ND_within_21 : decode c_ND_within 21 = .ok (.aload_n 0, 1) := by decide +kernel
theorem d_ND_within_22 : decode c_ND_within 22 = .ok (.getfield 15, 3) := by decide +kernel
theorem d_ND_within_25 : decode c_ND_within 25 = .ok (.iload_n 1, 1) := by decide +kernel
theorem d_ND_within_26 : decode c_ND_within 26 = .ok (.iaload, 1) := by decide +kernel
theorem d_ND_within_27 : decode c_ND_within 27 = .ok (.ireturn, 1) := by decide +kernel
theorem d_ND_around_0 : decode c_ND_around 0 = .ok (.iload_n 2, 1) := by decide +kernel
theorem d_ND_around_1 : decode c_ND_around 1 = .ok (.iconst 1, 1) := by decide +kernel
theorem d_ND_around_2 : decode c_ND_around 2 = .ok (.isub, 1) := by decide +kernel
theorem d_ND_around_3 : decode c_ND_around 3 = .ok (.istore_n 3, 1) := by decide +kernel
theorem d_ND_around_4 : decode c_ND_around 4 = .ok (.iload_n 3, 1) := by decide +kernel
theorem d_ND_around_5 : decode c_ND_around 5 = .ok (.ifCond .lt 25, 3) := by decide +kernel
theorem d_ND_around_8 : decode c_ND_around 8 = .ok (.iload_n 3, 1) := by decide +kernel
theorem d_ND_around_9 : decode c_ND_around 9 = .ok (.aload_n 0, 1) := by decide +kernel
theorem d_ND_around_10 : decode c_ND_around 10 = .ok (.getfield 22, 3) := by decide +kernel
theorem d_ND_around_13 : decode c_ND_around 13 = .ok (.iload_n 1, 1) := by decide +kernel
theorem d_ND_around_14 : decode c_ND_around 14 = .ok (.iload_n 3, 1) := by decide +kernel
theorem d_ND_around_15 : decode c_ND_around 15 = .ok (.iadd, 1) := by decide +kernel
theorem d_ND_around_16 : decode c_ND_around 16 = .ok (.iaload, 1) := by decide +kernel
theorem d_ND_around_17 : decode c_ND_around 17 = .ok (.iadd, 1) := by decide +kernel
theorem d_ND_around_18 : decode c_ND_around 18 = .ok (.iload_n 2, 1) := by decide +kernel
theorem d_ND_around_19 : decode c_ND_around 19 = .ok (.if_icmp .le 5, 3) := by decide +kernel
theorem d_ND_around_22 : decode c_ND_around 22 = .ok (.iload_n 3, 1) := by decide +kernel
theorem d_ND_around_23 : decode c_ND_around 23 = .ok (.ireturn, 1) := by decide +kernel
theorem d_ND_around_24 : decode c_ND_around 24 = .ok (.iinc 3 (-1), 3) := by decide +kernel
theorem d_ND_around_27 : decode c_ND_around 27 = .ok (.goto (-23), 3) := by decide +kernel
theorem d_ND_around_30 : decode c_ND_around 30 = .ok (.iconst (-1), 1) := by decide +kernel
theorem d_ND_around_31 : decode c_ND_around 31 = .ok (.ireturn, 1) := by decide +kernel
theorem d_ND_same_0 : decode c_ND_same 0 = .ok (.aload_n 0, 1) := by decide +kernel
theorem d_ND_same_1 : decode c_ND_same 1 = .ok (.getfield 11, 3) := by decide +kernel
theorem d_ND_same_4 : decode c_ND_same 4 = .ok (.iload_n 1, 1) := by decide +kernel
theorem d_ND_same_5 : decode c_ND_same 5 = .ok (.iaload, 1) := by decide +kernel
theorem d_ND_same_6 : decode c_ND_same 6 = .ok (.aload_n 0, 1) := by decide +kernel
theorem d_ND_same_7 : decode c_ND_same 7 = .ok (.getfield 11, 3) := by decide +kernel
theorem d_ND_same_10 : decode c_ND_same 10 = .ok (.iload_n 2, 1) := by decide +kernel
theorem d_ND_same_11 : decode c_ND_same 11 = .ok (.iaload, 1) := by decide +kernel
theorem d_ND_same_12 : decode c_ND_same 12 = .ok (.if_icmp .ne 34, 3) := by decide +kernel
theorem d_ND_same_15 : decode c_ND_same 15 = .ok (.aload_n 0, 1) := by decide +kernel
theorem d_ND_same_16 : decode c_ND_same 16 = .ok (.getfield 15, 3) := by decide +kernel
theorem d_ND_same_19 : decode c_ND_same 19 = .ok (.iload_n 1, 1) := by decide +kernel
theorem d_ND_same_20 : decode c_ND_same 20 = .ok (.iaload, 1) := by decide +kernel
theorem d_ND_same_21 : decode c_ND_same 21 = .ok (.aload_n 0, 1) := by decide +kernel
theorem d_ND_same_22 : decode c_ND_same 22 = .ok (.getfield 15, 3) := by decide +kernel
theorem d_ND_same_25 : decode c_ND_same 25 = .ok (.iload_n 2, 1) := by decide +kernel
theorem d_ND_same_26 : decode c_ND_same 26 = .ok (.iaload, 1) := by decide +kernel
theorem d_ND_same_27 : decode c_ND_same 27 = .ok (.if_icmp .ne 19, 3) := by decide +kernel
theorem d_ND_same_30 : decode c_ND_same 30 = .ok (.aload_n 0, 1) := by decide +kernel
theorem d_ND_same_31 : decode c_ND_same 31 = .ok (.getfield 18, 3) := by decide +kernel
theorem d_ND_same_34 : decode c_ND_same 34 = .ok (.iload_n 1, 1) := by decide +kernel
theorem d_ND_same_35 : decode c_ND_same 35 = .ok (.laload, 1) := by decide +kernel
theorem d_ND_same_36 : decode c_ND_same 36 = .ok (.aload_n 0, 1) := by decide +kernel
theorem d_ND_same_37 : decode c_ND_same 37 = .ok (.getfield 18, 3) := by decide +kernel
theorem d_ND_same_40 : decode c_ND_same 40 = .ok (.iload_n 2, 1) := by decide +kernel
theorem d_ND_same_41 : decode c_ND_same 41 = .ok (.laload, 1) := by decide +kernel
theorem d_ND_same_42 : decode c_ND_same 42 = .ok (.lcmp, 1) := by decide +kernel
theorem d_ND_same_43 : decode c_ND_same 43 = .ok (.ifCond .eq 5, 3) := by decide +kernel
theorem d_ND_same_46 : decode c_ND_same 46 = .ok (.iconst 0, 1) := by decide +kernel
theorem d_ND_same_47 : decode c_ND_same 47 = .ok (.ireturn, 1) := by decide +kernel
theorem d_ND_same_48 : decode c_ND_same 48 = .ok (.iconst 0, 1) := by decide +kernel
theorem d_ND_same_49 : decode c_ND_same 49 = .ok (.istore_n 3, 1) := by decide +kernel
theorem d_ND_same_50 : decode c_ND_same 50 = .ok (.iload_n 3, 1) := by decide +kernel
theorem d_ND_same_51 : decode c_ND_same 51 = .ok (.bipush 8, 2) := by decide +kernel
theorem d_ND_same_53 : decode c_ND_same 53 = .ok (.if_icmp .ge 37, 3) := by decide +kernel
theorem d_ND_same_56 : decode c_ND_same 56 = .ok (.aload_n 0, 1) := by decide +kernel
theorem d_ND_same_57 : decode c_ND_same 57 = .ok (.getfield 28, 3) := by decide +kernel
theorem d_ND_same_60 : decode c_ND_same 60 = .ok (.iload_n 1, 1) := by decide +kernel
theorem d_ND_same_61 : decode c_ND_same 61 = .ok (.bipush 8, 2) := by decide +kernel
theorem d_ND_same_63 : decode c_ND_same 63 = .ok (.imul, 1) := by decide +kernel
theorem d_ND_same_64 : decode c_ND_same 64 = .ok (.iload_n 3, 1) := by decide +kernel
theorem d_ND_same_65 : decode c_ND_same 65 = .ok (.iadd, 1) := by decide +kernel
theorem d_ND_same_66 : decode c_ND_same 66 = .ok (.laload, 1) := by decide +kernel
theorem d_ND_same_67 : decode c_ND_same 67 = .ok (.aload_n 0, 1) := by decide +kernel
theorem d_ND_same_68 : decode c_ND_same 68 = .ok (.getfield 28, 3) := by decide +kernel
theorem d_ND_same_71 : decode c_ND_same 71 = .ok (.iload_n 2, 1) := by decide +kernel
theorem d_ND_same_72 : decode c_ND_same 72 = .ok (.bipush 8, 2) := by decide +kernel
theorem d_ND_same_74 : decode c_ND_same 74 = .ok (.imul, 1) := by decide +kernel
theorem d_ND_same_75 : decode c_ND_same 75 = .ok (.iload_n 3, 1) := by decide +kernel
theorem d_ND_same_76 : decode c_ND_same 76 = .ok (.iadd, 1) := by decide +kernel
theorem d_ND_same_77 : decode c_ND_same 77 = .ok (.laload, 1) := by decide +kernel
theorem d_ND_same_78 : decode c_ND_same 78 = .ok (.lcmp, 1) := by decide +kernel
theorem d_ND_same_79 : decode c_ND_same 79 = .ok (.ifCond .eq 5, 3) := by decide +kernel
theorem d_ND_same_82 : decode c_ND_same 82 = .ok (.iconst 0, 1) := by decide +kernel
theorem d_ND_same_83 : decode c_ND_same 83 = .ok (.ireturn, 1) := by decide +kernel
theorem d_ND_same_84 : decode c_ND_same 84 = .ok (.iinc 3 1, 3) := by decide +kernel
theorem d_ND_same_87 : decode c_ND_same 87 = .ok (.goto (-37), 3) := by decide +kernel
theorem d_ND_same_90 : decode c_ND_same 90 = .ok (.iconst 1, 1) := by decide +kernel
theorem d_ND_same_91 : decode c_ND_same 91 = .ok (.ireturn, 1) := by decide +kernel
theorem d_ND_treeLength_0 : decode c_ND_treeLength 0 = .ok (.iconst 0, 1) := by decide +kernel
theorem d_ND_treeLength_1 : decode c_ND_treeLength 1 = .ok (.istore_n 2, 1) := by decide +kernel
theorem d_ND_treeLength_2 : decode c_ND_treeLength 2 = .ok (.iload_n 1, 1) := by decide +kernel
theorem d_ND_treeLength_3 : decode c_ND_treeLength 3 = .ok (.aload_n 0, 1) := by decide +kernel
theorem d_ND_treeLength_4 : decode c_ND_treeLength 4 = .ok (.getfield 22, 3) := by decide +kernel
theorem d_ND_treeLength_7 : decode c_ND_treeLength 7 = .ok (.iload_n 1, 1) := by decide +kernel
theorem d_ND_treeLength_8 : decode c_ND_treeLength 8 = .ok (.iaload, 1) := by decide +kernel
theorem d_ND_treeLength_9 : decode c_ND_treeLength 9 = .ok (.iadd, 1) := by decide +kernel
theorem d_ND_treeLength_10 : decode c_ND_treeLength 10 = .ok (.istore_n 3, 1) := by decide +kernel
theorem d_ND_treeLength_11 : decode c_ND_treeLength 11 = .ok (.iload_n 1, 1) := by decide +kernel
theorem d_ND_treeLength_12 : decode c_ND_treeLength 12 = .ok (.istore 4, 2) := by decide +kernel
theorem d_ND_treeLength_14 : decode c_ND_treeLength 14 = .ok (.iload 4, 2) := by decide +kernel
theorem d_ND_treeLength_16 : decode c_ND_treeLength 16 = .ok (.iload_n 3, 1) := by decide +kernel
theorem d_ND_treeLength_17 : decode c_ND_treeLength 17 = .ok (.if_icmp .ge 18, 3) := by decide +kernel
theorem d_ND_treeLength_20 : decode c_ND_treeLength 20 = .ok (.iload_n 2, 1) := by decide +kernel
theorem d_ND_treeLength_21 : decode c_ND_treeLength 21 = .ok (.aload_n 0, 1) := by decide +kernel
theorem d_ND_treeLength_22 : decode c_ND_treeLength 22 = .ok (.iload 4, 2) := by decide +kernel
theorem d_ND_treeLength_24 : decode c_ND_treeLength 24 = .ok (.invokevirtual 53, 3) := by decide +kernel
theorem d_ND_treeLength_27 : decode c_ND_treeLength 27 = .ok (.iadd, 1) := by decide +kernel
theorem d_ND_treeLength_28 : decode c_ND_treeLength 28 = .ok (.istore_n 2, 1) := by decide +kernel
theorem d_ND_treeLength_29 : decode c_ND_treeLength 29 = .ok (.iinc 4 1, 3) := by decide +kernel
theorem d_ND_treeLength_32 : decode c_ND_treeLength 32 = .ok (.goto (-18), 3) := by decide +kernel
theorem d_ND_treeLength_35 : decode c_ND_treeLength 35 = .ok (.iload_n 2, 1) := by decide +kernel
theorem d_ND_treeLength_36 : decode c_ND_treeLength 36 = .ok (.ireturn, 1) := by decide +kernel
theorem d_ND_nodeLength_0 : decode c_ND_nodeLength 0 = .ok (.aload_n 0, 1) := by decide +kernel
theorem d_ND_nodeLength_1 : decode c_ND_nodeLength 1 = .ok (.iload_n 1, 1) := by decide +kernel
theorem d_ND_nodeLength_2 : decode c_ND_nodeLength 2 = .ok (.invokevirtual 56, 3) := by decide +kernel
theorem d_ND_nodeLength_5 : decode c_ND_nodeLength 5 = .ok (.invokestatic 60, 3) := by decide +kernel
theorem d_ND_nodeLength_8 : decode c_ND_nodeLength 8 = .ok (.istore_n 2, 1) := by decide +kernel
theorem d_ND_nodeLength_9 : decode c_ND_nodeLength 9 = .ok (.aload_n 0, 1) := by decide +kernel
theorem d_ND_nodeLength_10 : decode c_ND_nodeLength 10 = .ok (.getfield 11, 3) := by decide +kernel
theorem d_ND_nodeLength_13 : decode c_ND_nodeLength 13 = .ok (.iload_n 1, 1) := by decide +kernel
theorem d_ND_nodeLength_14 : decode c_ND_nodeLength 14 = .ok (.iaload, 1) := by decide +kernel
theorem d_ND_nodeLength_15 : decode c_ND_nodeLength 15 = .ok (.iconst 2, 1) := by decide +kernel
theorem d_ND_nodeLength_16 : decode c_ND_nodeLength 16 = .ok (.if_icmp .ne 12, 3) := by decide +kernel
theorem d_ND_nodeLength_19 : decode c_ND_nodeLength 19 = .ok (.iload_n 2, 1) := by decide +kernel
theorem d_ND_nodeLength_20 : decode c_ND_nodeLength 20 = .ok (.aload_n 0, 1) := by decide +kernel
theorem d_ND_nodeLength_21 : decode c_ND_nodeLength 21 = .ok (.getfield 15, 3) := by decide +kernel
theorem d_ND_nodeLength_24 : decode c_ND_nodeLength 24 = .ok (.iload_n 1, 1) := by decide +kernel
theorem d_ND_nodeLength_25 : decode c_ND_nodeLength 25 = .ok (.iaload, 1) := by decide +kernel
theorem d_ND_nodeLength_26 : decode c_ND_nodeLength 26 = .ok (.iadd, 1) := by decide +kernel
theorem d_ND_nodeLength_27 : decode c_ND_nodeLength 27 = .ok (.istore_n 2, 1) := by decide +kernel
theorem d_ND_nodeLength_28 : decode c_ND_nodeLength 28 = .ok (.aload_n 0, 1) := by decide +kernel
theorem d_ND_nodeLength_29 : decode c_ND_nodeLength 29 = .ok (.getfield 11, 3) := by decide +kernel
theorem d_ND_nodeLength_32 : decode c_ND_nodeLength 32 = .ok (.iload_n 1, 1) := by decide +kernel
theorem d_ND_nodeLength_33 : decode c_ND_nodeLength 33 = .ok (.iaload, 1) := by decide +kernel
theorem d_ND_nodeLength_34 : decode c_ND_nodeLength 34 = .ok (.bipush 6, 2) := by decide +kernel
theorem d_ND_nodeLength_36 : decode c_ND_nodeLength 36 = .ok (.if_icmp .ne 16, 3) := by decide +kernel
theorem d_ND_nodeLength_39 : decode c_ND_nodeLength 39 = .ok (.iload_n 2, 1) := by decide +kernel
theorem d_ND_nodeLength_40 : decode c_ND_nodeLength 40 = .ok (.aload_n 0, 1) := by decide +kernel
theorem d_ND_nodeLength_41 : decode c_ND_nodeLength 41 = .ok (.getfield 15, 3) := by decide +kernel
theorem d_ND_nodeLength_44 : decode c_ND_nodeLength 44 = .ok (.iload_n 1, 1) := by decide +kernel
theorem d_ND_nodeLength_45 : decode c_ND_nodeLength 45 = .ok (.iaload, 1) := by decide +kernel
theorem d_ND_nodeLength_46 : decode c_ND_nodeLength 46 = .ok (.i2l, 1) := by decide +kernel
theorem d_ND_nodeLength_47 : decode c_ND_nodeLength 47 = .ok (.invokestatic 60, 3) := by decide +kernel
theorem d_ND_nodeLength_50 : decode c_ND_nodeLength 50 = .ok (.iadd, 1) := by decide +kernel
theorem d_ND_nodeLength_51 : decode c_ND_nodeLength 51 = .ok (.istore_n 2, 1) := by decide +kernel
theorem d_ND_nodeLength_52 : decode c_ND_nodeLength 52 = .ok (.iload_n 2, 1) := by decide +kernel
theorem d_ND_nodeLength_53 : decode c_ND_nodeLength 53 = .ok (.ireturn, 1) := by decide +kernel
theorem d_ND_writeNode_0 : decode c_ND_writeNode 0 = .ok (.aload_n 0, 1) := by decide +kernel
theorem d_ND_writeNode_1 : decode c_ND_writeNode 1 = .ok (.getfield 11, 3) := by decide +kernel
theorem d_ND_writeNode_4 : decode c_ND_writeNode 4 = .ok (.iload_n 1, 1) := by decide +kernel
theorem d_ND_writeNode_5 : decode c_ND_writeNode 5 = .ok (.iaload, 1) := by decide +kernel
theorem d_ND_writeNode_6 : decode c_ND_writeNode 6 = .ok (.ifCond .ne 18, 3) := by decide +kernel
theorem d_ND_writeNode_9 : decode c_ND_writeNode 9 = .ok (.aload_n 0, 1) := by decide +kernel
theorem d_ND_writeNode_10 : decode c_ND_writeNode 10 = .ok (.getfield 18, 3) := by decide +kernel
theorem d_ND_writeNode_13 : decode c_ND_writeNode 13 = .ok (.iload_n 1, 1) := by decide +kernel
theorem d_ND_writeNode_14 : decode c_ND_writeNode 14 = .ok (.laload, 1) := by decide +kernel
theorem d_ND_writeNode_15 : decode c_ND_writeNode 15 = .ok (.lconst 0, 1) := by decide +kernel
theorem d_ND_writeNode_16 : decode c_ND_writeNode 16 = .ok (.lcmp, 1) := by decide +kernel
theorem d_ND_writeNode_17 : decode c_ND_writeNode 17 = .ok (.ifCond .ge 7, 3) := by decide +kernel
theorem d_ND_writeNode_20 : decode c_ND_writeNode 20 = .ok (.iconst 1, 1) := by decide +kernel
theorem d_ND_writeNode_21 : decode c_ND_writeNode 21 = .ok (.goto 4, 3) := by decide +kernel
theorem d_ND_writeNode_24 : decode c_ND_writeNode 24 = .ok (.iconst 0, 1) := by decide +kernel
theorem d_ND_writeNode_25 : decode c_ND_writeNode 25 = .ok (.istore_n 3, 1) := by decide +kernel
theorem d_ND_writeNode_26 : decode c_ND_writeNode 26 = .ok (.aload_n 2, 1) := by decide +kernel
theorem d_ND_writeNode_27 : decode c_ND_writeNode 27 = .ok (.iload_n 3, 1) := by decide +kernel
theorem d_ND_writeNode_28 : decode c_ND_writeNode 28 = .ok (.ifCond .eq 7, 3) := by decide +kernel
theorem d_ND_writeNode_31 : decode c_ND_writeNode 31 = .ok (.iconst 1, 1) := by decide +kernel
theorem d_ND_writeNode_32 : decode c_ND_writeNode 32 = .ok (.goto 9, 3) := by decide +kernel
theorem d_ND_writeNode_35 : decode c_ND_writeNode 35 = .ok (.aload_n 0, 1) := by decide +kernel
theorem d_ND_writeNode_36 : decode c_ND_writeNode 36 = .ok (.getfield 11, 3) := by decide +kernel
theorem d_ND_writeNode_39 : decode c_ND_writeNode 39 = .ok (.iload_n 1, 1) := by decide +kernel
theorem d_ND_writeNode_40 : decode c_ND_writeNode 40 = .ok (.iaload, 1) := by decide +kernel
theorem d_ND_writeNode_41 : decode c_ND_writeNode 41 = .ok (.aload_n 0, 1) := by decide +kernel
theorem d_ND_writeNode_42 : decode c_ND_writeNode 42 = .ok (.iload_n 1, 1) := by decide +kernel
theorem d_ND_writeNode_43 : decode c_ND_writeNode 43 = .ok (.invokevirtual 56, 3) := by decide +kernel
theorem d_ND_writeNode_46 : decode c_ND_writeNode 46 = .ok (.invokevirtual 64, 3) := by decide +kernel
theorem d_ND_writeNode_49 : decode c_ND_writeNode 49 = .ok (.aload_n 0, 1) := by decide +kernel
theorem d_ND_writeNode_50 : decode c_ND_writeNode 50 = .ok (.getfield 11, 3) := by decide +kernel
theorem d_ND_writeNode_53 : decode c_ND_writeNode 53 = .ok (.iload_n 1, 1) := by decide +kernel
theorem d_ND_writeNode_54 : decode c_ND_writeNode 54 = .ok (.iaload, 1) := by decide +kernel
theorem d_ND_writeNode_55 : decode c_ND_writeNode 55 = .ok (.iconst 2, 1) := by decide +kernel
theorem d_ND_writeNode_56 : decode c_ND_writeNode 56 = .ok (.if_icmp .ne 34, 3) := by decide +kernel
theorem d_ND_writeNode_59 : decode c_ND_writeNode 59 = .ok (.iconst 0, 1) := by decide +kernel
theorem d_ND_writeNode_60 : decode c_ND_writeNode 60 = .ok (.istore 4, 2) := by decide +kernel
theorem d_ND_writeNode_62 : decode c_ND_writeNode 62 = .ok (.iload 4, 2) := by decide +kernel
theorem d_ND_writeNode_64 : decode c_ND_writeNode 64 = .ok (.aload_n 0, 1) := by decide +kernel
theorem d_ND_writeNode_65 : decode c_ND_writeNode 65 = .ok (.getfield 15, 3) := by decide +kernel
theorem d_ND_writeNode_68 : decode c_ND_writeNode 68 = .ok (.iload_n 1, 1) := by decide +kernel
theorem d_ND_writeNode_69 : decode c_ND_writeNode 69 = .ok (.iaload, 1) := by decide +kernel
theorem d_ND_writeNode_70 : decode c_ND_writeNode 70 = .ok (.if_icmp .ge 20, 3) := by decide +kernel
theorem d_ND_writeNode_73 : decode c_ND_writeNode 73 = .ok (.aload_n 2, 1) := by decide +kernel
theorem d_ND_writeNode_74 : decode c_ND_writeNode 74 = .ok (.aload_n 0, 1) := by decide +kernel
theorem d_ND_writeNode_75 : decode c_ND_writeNode 75 = .ok (.iload_n 1, 1) := by decide +kernel
theorem d_ND_writeNode_76 : decode c_ND_writeNode 76 = .ok (.iload 4, 2) := by decide +kernel
theorem d_ND_writeNode_78 : decode c_ND_writeNode 78 = .ok (.invokevirtual 70, 3) := by decide +kernel
theorem d_ND_writeNode_81 : decode c_ND_writeNode 81 = .ok (.invokevirtual 74, 3) := by decide +kernel
theorem d_ND_writeNode_84 : decode c_ND_writeNode 84 = .ok (.iinc 4 1, 3) := by decide +kernel
theorem d_ND_writeNode_87 : decode c_ND_writeNode 87 = .ok (.goto (-25), 3) := by decide +kernel
theorem d_ND_writeNode_90 : decode c_ND_writeNode 90 = .ok (.aload_n 0, 1) := by decide +kernel
theorem d_ND_writeNode_91 : decode c_ND_writeNode 91 = .ok (.getfield 11, 3) := by decide +kernel
theorem d_ND_writeNode_94 : decode c_ND_writeNode 94 = .ok (.iload_n 1, 1) := by decide +kernel
theorem d_ND_writeNode_95 : decode c_ND_writeNode 95 = .ok (.iaload, 1) := by decide +kernel
theorem d_ND_writeNode_96 : decode c_ND_writeNode 96 = .ok (.bipush 6, 2) := by decide +kernel
theorem d_ND_writeNode_98 : decode c_ND_writeNode 98 = .ok (.if_icmp .ne 15, 3) := by decide +kernel
theorem d_ND_writeNode_101 : decode c_ND_writeNode 101 = .ok (.aload_n 2, 1) := by decide +kernel
theorem d_ND_writeNode_102 : decode c_ND_writeNode 102 = .ok (.iconst 4, 1) := by decide +kernel
theorem d_ND_writeNode_103 : decode c_ND_writeNode 103 = .ok (.aload_n 0, 1) := by decide +kernel
theorem d_ND_writeNode_104 : decode c_ND_writeNode 104 = .ok (.getfield 15, 3) := by decide +kernel
theorem d_ND_writeNode_107 : decode c_ND_writeNode 107 = .ok (.iload_n 1, 1) := by decide +kernel
theorem d_ND_writeNode_108 : decode c_ND_writeNode 108 = .ok (.iaload, 1) := by decide +kernel
theorem d_ND_writeNode_109 : decode c_ND_writeNode 109 = .ok (.i2l, 1) := by decide +kernel
theorem d_ND_writeNode_110 : decode c_ND_writeNode 110 = .ok (.invokevirtual 64, 3) := by decide +kernel
theorem d_ND_writeNode_113 : decode c_ND_writeNode 113 = .ok (.return_, 1) := by decide +kernel
theorem d_ND_headNumber_0 : decode c_ND_headNumber 0 = .ok (.aload_n 0, 1) := by decide +kernel
theorem d_ND_headNumber_1 : decode c_ND_headNumber 1 = .ok (.getfield 11, 3) := by decide +kernel
theorem d_ND_headNumber_4 : decode c_ND_headNumber 4 = .ok (.iload_n 1, 1) := by decide +kernel
theorem d_ND_headNumber_5 : decode c_ND_headNumber 5 = .ok (.iaload, 1) := by decide +kernel
theorem d_ND_headNumber_6 : decode c_ND_headNumber 6 = .ok (.ifCond .ne 34, 3) := by decide +kernel
theorem d_ND_headNumber_9 : decode c_ND_headNumber 9 = .ok (.aload_n 0, 1) := by decide +kernel
theorem d_ND_headNumber_10 : decode c_ND_headNumber 10 = .ok (.getfield 18, 3) := by decide +kernel
theorem d_ND_headNumber_13 : decode c_ND_headNumber 13 = .ok (.iload_n 1, 1) := by decide +kernel
theorem d_ND_headNumber_14 : decode c_ND_headNumber 14 = .ok (.laload, 1) := by decide +kernel
theorem d_ND_headNumber_15 : decode c_ND_headNumber 15 = .ok (.lconst 0, 1) := by decide +kernel
theorem d_ND_headNumber_16 : decode c_ND_headNumber 16 = .ok (.lcmp, 1) := by decide +kernel
theorem d_ND_headNumber_17 : decode c_ND_headNumber 17 = .ok (.ifCond .ge 16, 3) := by decide +kernel
theorem d_ND_headNumber_20 : decode c_ND_headNumber 20 = .ok (.ldc2_w 78, 3) := by decide +kernel
theorem d_ND_headNumber_23 : decode c_ND_headNumber 23 = .ok (.aload_n 0, 1) := by decide +kernel
theorem d_ND_headNumber_24 : decode c_ND_headNumber 24 = .ok (.getfield 18, 3) := by decide +kernel
theorem d_ND_headNumber_27 : decode c_ND_headNumber 27 = .ok (.iload_n 1, 1) := by decide +kernel
theorem d_ND_headNumber_28 : decode c_ND_headNumber 28 = .ok (.laload, 1) := by decide +kernel
theorem d_ND_headNumber_29 : decode c_ND_headNumber 29 = .ok (.lsub, 1) := by decide +kernel
theorem d_ND_headNumber_30 : decode c_ND_headNumber 30 = .ok (.goto 9, 3) := by decide +kernel
theorem d_ND_headNumber_33 : decode c_ND_headNumber 33 = .ok (.aload_n 0, 1) := by decide +kernel
theorem d_ND_headNumber_34 : decode c_ND_headNumber 34 = .ok (.getfield 18, 3) := by decide +kernel
theorem d_ND_headNumber_37 : decode c_ND_headNumber 37 = .ok (.iload_n 1, 1) := by decide +kernel
theorem d_ND_headNumber_38 : decode c_ND_headNumber 38 = .ok (.laload, 1) := by decide +kernel
theorem d_ND_headNumber_39 : decode c_ND_headNumber 39 = .ok (.lreturn, 1) := by decide +kernel
theorem d_ND_headNumber_40 : decode c_ND_headNumber 40 = .ok (.aload_n 0, 1) := by decide +kernel
theorem d_ND_headNumber_41 : decode c_ND_headNumber 41 = .ok (.getfield 11, 3) := by decide +kernel
theorem d_ND_headNumber_44 : decode c_ND_headNumber 44 = .ok (.iload_n 1, 1) := by decide +kernel
theorem d_ND_headNumber_45 : decode c_ND_headNumber 45 = .ok (.iaload, 1) := by decide +kernel
theorem d_ND_headNumber_46 : decode c_ND_headNumber 46 = .ok (.bipush 6, 2) := by decide +kernel
theorem d_ND_headNumber_48 : decode c_ND_headNumber 48 = .ok (.if_icmp .ne 40, 3) := by decide +kernel
theorem d_ND_headNumber_51 : decode c_ND_headNumber 51 = .ok (.aload_n 0, 1) := by decide +kernel
theorem d_ND_headNumber_52 : decode c_ND_headNumber 52 = .ok (.getfield 18, 3) := by decide +kernel
theorem d_ND_headNumber_55 : decode c_ND_headNumber 55 = .ok (.iload_n 1, 1) := by decide +kernel
theorem d_ND_headNumber_56 : decode c_ND_headNumber 56 = .ok (.laload, 1) := by decide +kernel
theorem d_ND_headNumber_57 : decode c_ND_headNumber 57 = .ok (.ldc2_w 80, 3) := by decide +kernel
theorem d_ND_headNumber_60 : decode c_ND_headNumber 60 = .ok (.lcmp, 1) := by decide +kernel
theorem d_ND_headNumber_61 : decode c_ND_headNumber 61 = .ok (.ifCond .ge 16, 3) := by decide +kernel
theorem d_ND_headNumber_64 : decode c_ND_headNumber 64 = .ok (.ldc2_w 82, 3) := by decide +kernel
theorem d_ND_headNumber_67 : decode c_ND_headNumber 67 = .ok (.aload_n 0, 1) := by decide +kernel
theorem d_ND_headNumber_68 : decode c_ND_headNumber 68 = .ok (.getfield 18, 3) := by decide +kernel
theorem d_ND_headNumber_71 : decode c_ND_headNumber 71 = .ok (.iload_n 1, 1) := by decide +kernel
theorem d_ND_headNumber_72 : decode c_ND_headNumber 72 = .ok (.laload, 1) := by decide +kernel
theorem d_ND_headNumber_73 : decode c_ND_headNumber 73 = .ok (.ladd, 1) := by decide +kernel
theorem d_ND_headNumber_74 : decode c_ND_headNumber 74 = .ok (.goto 13, 3) := by decide +kernel
theorem d_ND_headNumber_77 : decode c_ND_headNumber 77 = .ok (.ldc2_w 84, 3) := by decide +kernel
theorem d_ND_headNumber_80 : decode c_ND_headNumber 80 = .ok (.aload_n 0, 1) := by decide +kernel
theorem d_ND_headNumber_81 : decode c_ND_headNumber 81 = .ok (.getfield 18, 3) := by decide +kernel
theorem d_ND_headNumber_84 : decode c_ND_headNumber 84 = .ok (.iload_n 1, 1) := by decide +kernel
theorem d_ND_headNumber_85 : decode c_ND_headNumber 85 = .ok (.laload, 1) := by decide +kernel
theorem d_ND_headNumber_86 : decode c_ND_headNumber 86 = .ok (.ladd, 1) := by decide +kernel
theorem d_ND_headNumber_87 : decode c_ND_headNumber 87 = .ok (.lreturn, 1) := by decide +kernel
theorem d_ND_headNumber_88 : decode c_ND_headNumber 88 = .ok (.aload_n 0, 1) := by decide +kernel
theorem d_ND_headNumber_89 : decode c_ND_headNumber 89 = .ok (.getfield 15, 3) := by decide +kernel
theorem d_ND_headNumber_92 : decode c_ND_headNumber 92 = .ok (.iload_n 1, 1) := by decide +kernel
theorem d_ND_headNumber_93 : decode c_ND_headNumber 93 = .ok (.iaload, 1) := by decide +kernel
theorem d_ND_headNumber_94 : decode c_ND_headNumber 94 = .ok (.i2l, 1) := by decide +kernel
theorem d_ND_headNumber_95 : decode c_ND_headNumber 95 = .ok (.lreturn, 1) := by decide +kernel

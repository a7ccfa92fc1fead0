theorem d_MD_init_0 : decode c_MD_init 0 = .ok (.aload_n 0, 1) := by decide +kernel
theorem d_MD_init_1 : decode c_MD_init 1 = .ok (.invokespecial 1, 3) := by decide +kernel
theorem d_MD_init_4 : decode c_MD_init 4 = .ok (.aload_n 0, 1) := by decide +kernel
theorem d_MD_init_5 : decode c_MD_init 5 = .ok (.sipush 1201, 3) := by decide +kernel
theorem d_MD_init_8 : decode c_MD_init 8 = .ok (.newarray .int, 2) := by decide +kernel
theorem d_MD_init_10 : decode c_MD_init 10 = .ok (.putfield 7, 3) := by decide +kernel
theorem d_MD_init_13 : decode c_MD_init 13 = .ok (.aload_n 0, 1) := by decide +kernel
theorem d_MD_init_14 : decode c_MD_init 14 = .ok (.sipush 1201, 3) := by decide +kernel
theorem d_MD_init_17 : decode c_MD_init 17 = .ok (.newarray .long, 2) := by decide +kernel
theorem d_MD_init_19 : decode c_MD_init 19 = .ok (.putfield 13, 3) := by decide +kernel
theorem d_MD_init_22 : decode c_MD_init 22 = .ok (.aload_n 0, 1) := by decide +kernel
theorem d_MD_init_23 : decode c_MD_init 23 = .ok (.sipush 1201, 3) := by decide +kernel
theorem d_MD_init_26 : decode c_MD_init 26 = .ok (.newarray .int, 2) := by decide +kernel
theorem d_MD_init_28 : decode c_MD_init 28 = .ok (.putfield 17, 3) := by decide +kernel
theorem d_MD_init_31 : decode c_MD_init 31 = .ok (.aload_n 0, 1) := by decide +kernel
theorem d_MD_init_32 : decode c_MD_init 32 = .ok (.ldc 20, 2) := by decide +kernel
theorem d_MD_init_34 : decode c_MD_init 34 = .ok (.newarray .byte, 2) := by decide +kernel
theorem d_MD_init_36 : decode c_MD_init 36 = .ok (.putfield 21, 3) := by decide +kernel
theorem d_MD_init_39 : decode c_MD_init 39 = .ok (.aload_n 0, 1) := by decide +kernel
theorem d_MD_init_40 : decode c_MD_init 40 = .ok (.bipush 17, 2) := by decide +kernel
theorem d_MD_init_42 : decode c_MD_init 42 = .ok (.newarray .int, 2) := by decide +kernel
theorem d_MD_init_44 : decode c_MD_init 44 = .ok (.putfield 25, 3) := by decide +kernel
theorem d_MD_init_47 : decode c_MD_init 47 = .ok (.aload_n 0, 1) := by decide +kernel
theorem d_MD_init_48 : decode c_MD_init 48 = .ok (.sipush 4096, 3) := by decide +kernel
theorem d_MD_init_51 : decode c_MD_init 51 = .ok (.newarray .byte, 2) := by decide +kernel
theorem d_MD_init_53 : decode c_MD_init 53 = .ok (.putfield 28, 3) := by decide +kernel
theorem d_MD_init_56 : decode c_MD_init 56 = .ok (.aload_n 0, 1) := by decide +kernel
theorem d_MD_init_57 : decode c_MD_init 57 = .ok (.sipush 4096, 3) := by decide +kernel
theorem d_MD_init_60 : decode c_MD_init 60 = .ok (.newarray .byte, 2) := by decide +kernel
theorem d_MD_init_62 : decode c_MD_init 62 = .ok (.putfield 31, 3) := by decide +kernel
theorem d_MD_init_65 : decode c_MD_init 65 = .ok (.aload_n 0, 1) := by decide +kernel
theorem d_MD_init_66 : decode c_MD_init 66 = .ok (.iconst (-1), 1) := by decide +kernel
theorem d_MD_init_67 : decode c_MD_init 67 = .ok (.putfield 34, 3) := by decide +kernel
theorem d_MD_init_70 : decode c_MD_init 70 = .ok (.aload_n 0, 1) := by decide +kernel
theorem d_MD_init_71 : decode c_MD_init 71 = .ok (.sipush 16384, 3) := by decide +kernel
theorem d_MD_init_74 : decode c_MD_init 74 = .ok (.newarray .byte, 2) := by decide +kernel
theorem d_MD_init_76 : decode c_MD_init 76 = .ok (.putfield 38, 3) := by decide +kernel
theorem d_MD_init_79 : decode c_MD_init 79 = .ok (.aload_n 0, 1) := by decide +kernel
theorem d_MD_init_80 : decode c_MD_init 80 = .ok (.sipush 16384, 3) := by decide +kernel
theorem d_MD_init_83 : decode c_MD_init 83 = .ok (.newarray .byte, 2) := by decide +kernel
theorem d_MD_init_85 : decode c_MD_init 85 = .ok (.putfield 41, 3) := by decide +kernel
theorem d_MD_init_88 : decode c_MD_init 88 = .ok (.aload_n 0, 1) := by decide +kernel
theorem d_MD_init_89 : decode c_MD_init 89 = .ok (.bipush 14, 2) := by decide +kernel
theorem d_MD_init_91 : decode c_MD_init 91 = .ok (.newarray .long, 2) := by decide +kernel
theorem d_MD_init_93 : decode c_MD_init 93 = .ok (.putfield 44, 3) := by decide +kernel
theorem d_MD_init_96 : decode c_MD_init 96 = .ok (.aload_n 0, 1) := by decide +kernel
theorem d_MD_init_97 : decode c_MD_init 97 = .ok (.sipush 1210, 3) := by decide +kernel
theorem d_MD_init_100 : decode c_MD_init 100 = .ok (.newarray .int, 2) := by decide +kernel
theorem d_MD_init_102 : decode c_MD_init 102 = .ok (.putfield 47, 3) := by decide +kernel
theorem d_MD_init_105 : decode c_MD_init 105 = .ok (.return_, 1) := by decide +kernel
theorem d_MD_thrown_0 : decode c_MD_thrown 0 = .ok (.aload_n 0, 1) := by decide +kernel
theorem d_MD_thrown_1 : decode c_MD_thrown 1 = .ok (.getfield 50, 3) := by decide +kernel
theorem d_MD_thrown_4 : decode c_MD_thrown 4 = .ok (.ireturn, 1) := by decide +kernel
theorem d_MD_beginOf_0 : decode c_MD_beginOf 0 = .ok (.iload_n 1, 1) := by decide +kernel
theorem d_MD_beginOf_1 : decode c_MD_beginOf 1 = .ok (.aload_n 0, 1) := by decide +kernel
theorem d_MD_beginOf_2 : decode c_MD_beginOf 2 = .ok (.getfield 53, 3) := by decide +kernel
theorem d_MD_beginOf_5 : decode c_MD_beginOf 5 = .ok (.if_icmp .ne 10, 3) := by decide +kernel
theorem d_MD_beginOf_8 : decode c_MD_beginOf 8 = .ok (.aload_n 0, 1) := by decide +kernel
theorem d_MD_beginOf_9 : decode c_MD_beginOf 9 = .ok (.getfield 56, 3) := by decide +kernel
theorem d_MD_beginOf_12 : decode c_MD_beginOf 12 = .ok (.goto 9, 3) := by decide +kernel
theorem d_MD_beginOf_15 : decode c_MD_beginOf 15 = .ok (.aload_n 0, 1) := by decide +kernel
theorem d_MD_beginOf_16 : decode c_MD_beginOf 16 = .ok (.getfield 25, 3) := by decide +kernel
theorem d_MD_beginOf_19 : decode c_MD_beginOf 19 = .ok (.iload_n 1, 1) := by decide +kernel
theorem d_MD_beginOf_20 : decode c_MD_beginOf 20 = .ok (.iaload, 1) := by decide +kernel
theorem d_MD_beginOf_21 : decode c_MD_beginOf 21 = .ok (.ireturn, 1) := by decide +kernel
theorem d_MD_within_0 : decode c_MD_within 0 = .ok (.aload_n 0, 1) := by decide +kernel
theorem d_MD_within_1 : decode c_MD_within 1 = .ok (.getfield 7, 3) := by decide +kernel
theorem d_MD_within_4 : decode c_MD_within 4 = .ok (.iload_n 1, 1) := by decide +kernel
theorem d_MD_within_5 : decode c_MD_within 5 = .ok (.iaload, 1) := by decide +kernel
theorem d_MD_within_6 : decode c_MD_within 6 = .ok (.iconst 5, 1) := by decide +kernel
theorem d_MD_within_7 : decode c_MD_within 7 = .ok (.if_icmp .ne 14, 3) := by decide +kernel
theorem d_MD_within_10 : decode c_MD_within 10 = .ok (.iconst 2, 1) := by decide +kernel
theorem d_MD_within_11 : decode c_MD_within 11 = .ok (.aload_n 0, 1) := by decide +kernel
theorem d_MD_within_12 : decode c_MD_within 12 = .ok (.getfield 17, 3) := by decide +kernel
theorem d_MD_within_15 : decode c_MD_within 15 = .ok (.iload_n 1, 1) := by decide +kernel
theorem d_MD_within_16 : decode c_MD_within 16 = .ok (.iaload, 1) := by decide +kernel
theorem d_MD_within_17 : decode c_MD_within 17 = .ok (.imul, 1) := by decide +kernel
theorem d_MD_within_18 : decode c_MD_within 18 = .ok (.goto 34, 3) := by decide +kernel
theorem d_MD_within_21 : decode c_MD_within 21 = .ok (.aload_n 0, 1) := by decide +kernel
theorem d_MD_within_22 : decode c_MD_within 22 = .ok (.getfield 7, 3) := by decide +kernel
theorem d_MD_within_25 : decode c_MD_within 25 = .ok (.iload_n 1, 1) := by decide +kernel
theorem d_MD_within_26 : decode c_MD_within 26 = .ok (.iaload, 1) := by decide +kernel
theorem d_MD_within_27 : decode c_MD_within 27 = .ok (.iconst 4, 1) := by decide +kernel
theorem d_MD_within_28 : decode c_MD_within 28 = .ok (.if_icmp .eq 14, 3) := by decide +kernel
theorem d_MD_within_31 : decode c_MD_within 31 = .ok (.aload_n 0, 1) := by decide +kernel
theorem d_MD_within_32 : decode c_MD_within 32 = .ok (.getfield 7, 3) := by decide +kernel
theorem d_MD_within_35 : decode c_MD_within 35 = .ok (.iload_n 1, 1) := by decide +kernel
theorem d_MD_within_36 : decode c_MD_within 36 = .ok (.iaload, 1) := by decide +kernel
theorem d_MD_within_37 : decode c_MD_within 37 = .ok (.bipush 6, 2) := by decide +kernel
theorem d_MD_within_39 : decode c_MD_within 39 = .ok (.if_icmp .ne 12, 3) := by decide +kernel
theorem d_MD_within_42 : decode c_MD_within 42 = .ok (.aload_n 0, 1) := by decide +kernel
theorem d_MD_within_43 : decode c_MD_within 43 = .ok (.getfield 17, 3) := by decide +kernel
theorem d_MD_within_46 : decode c_MD_within 46 = .ok (.iload_n 1, 1) := by decide +kernel
theorem d_MD_within_47 : decode c_MD_within 47 = .ok (.iaload, 1) := by decide +kernel
theorem d_MD_within_48 : decode c_MD_within 48 = .ok (.goto 4, 3) := by decide +kernel
theorem d_MD_within_51 : decode c_MD_within 51 = .ok (.iconst 0, 1) := by decide +kernel
theorem d_MD_within_52 : decode c_MD_within 52 = .ok (.ireturn, 1) := by decide +kernel
theorem d_MD_sizeOf_0 : decode c_MD_sizeOf 0 = .ok (.iconst 0, 1) := by decide +kernel
theorem d_MD_sizeOf_1 : decode c_MD_sizeOf 1 = .ok (.istore_n 2, 1) := by decide +kernel
theorem d_MD_sizeOf_2 : decode c_MD_sizeOf 2 = .ok (.iconst 1, 1) := by decide +kernel
theorem d_MD_sizeOf_3 : decode c_MD_sizeOf 3 = .ok (.istore_n 3, 1) := by decide +kernel
theorem d_MD_sizeOf_4 : decode c_MD_sizeOf 4 = .ok (.iload_n 3, 1) := by decide +kernel
theorem d_MD_sizeOf_5 : decode c_MD_sizeOf 5 = .ok (.ifCond .le 21, 3) := by decide +kernel
theorem d_MD_sizeOf_8 : decode c_MD_sizeOf 8 = .ok (.iload_n 3, 1) := by decide +kernel
theorem d_MD_sizeOf_9 : decode c_MD_sizeOf 9 = .ok (.aload_n 0, 1) := by decide +kernel
theorem d_MD_sizeOf_10 : decode c_MD_sizeOf 10 = .ok (.iload_n 1, 1) := by decide +kernel
theorem d_MD_sizeOf_11 : decode c_MD_sizeOf 11 = .ok (.iload_n 2, 1) := by decide +kernel
theorem d_MD_sizeOf_12 : decode c_MD_sizeOf 12 = .ok (.iadd, 1) := by decide +kernel
theorem d_MD_sizeOf_13 : decode c_MD_sizeOf 13 = .ok (.invokevirtual 59, 3) := by decide +kernel
theorem d_MD_sizeOf_16 : decode c_MD_sizeOf 16 = .ok (.iconst 1, 1) := by decide +kernel
theorem d_MD_sizeOf_17 : decode c_MD_sizeOf 17 = .ok (.isub, 1) := by decide +kernel
theorem d_MD_sizeOf_18 : decode c_MD_sizeOf 18 = .ok (.iadd, 1) := by decide +kernel
theorem d_MD_sizeOf_19 : decode c_MD_sizeOf 19 = .ok (.istore_n 3, 1) := by decide +kernel
theorem d_MD_sizeOf_20 : decode c_MD_sizeOf 20 = .ok (.iinc 2 1, 3) := by decide +kernel
theorem d_MD_sizeOf_23 : decode c_MD_sizeOf 23 = .ok (.goto (-19), 3) := by decide +kernel
theorem d_MD_sizeOf_26 : decode c_MD_sizeOf 26 = .ok (.iload_n 2, 1) := by decide +kernel
theorem d_MD_sizeOf_27 : decode c_MD_sizeOf 27 = .ok (.ireturn, 1) := by decide +kernel
theorem d_MD_around_0 : decode c_MD_around 0 = .ok (.iconst (-1), 1) := by decide +kernel
theorem d_MD_around_1 : decode c_MD_around 1 = .ok (.istore_n 3, 1) := by decide +kernel
theorem d_MD_around_2 : decode c_MD_around 2 = .ok (.iload_n 1, 1) := by decide +kernel
theorem d_MD_around_3 : decode c_MD_around 3 = .ok (.istore 4, 2) := by decide +kernel
theorem d_MD_around_5 : decode c_MD_around 5 = .ok (.iload 4, 2) := by decide +kernel
theorem d_MD_around_7 : decode c_MD_around 7 = .ok (.iload_n 2, 1) := by decide +kernel
theorem d_MD_around_8 : decode c_MD_around 8 = .ok (.if_icmp .ge 29, 3) := by decide +kernel
theorem d_MD_around_11 : decode c_MD_around 11 = .ok (.iload 4, 2) := by decide +kernel
theorem d_MD_around_13 : decode c_MD_around 13 = .ok (.aload_n 0, 1) := by decide +kernel
theorem d_MD_around_14 : decode c_MD_around 14 = .ok (.iload 4, 2) := by decide +kernel
theorem d_MD_around_16 : decode c_MD_around 16 = .ok (.invokevirtual 63, 3) := by decide +kernel
theorem d_MD_around_19 : decode c_MD_around 19 = .ok (.iadd, 1) := by decide +kernel
theorem d_MD_around_20 : decode c_MD_around 20 = .ok (.iload_n 2, 1) := by decide +kernel
theorem d_MD_around_21 : decode c_MD_around 21 = .ok (.if_icmp .le 8, 3) := by decide +kernel
theorem d_MD_around_24 : decode c_MD_around 24 = .ok (.iload 4, 2) := by decide +kernel
theorem d_MD_around_26 : decode c_MD_around 26 = .ok (.goto 4, 3) := by decide +kernel
theorem d_MD_around_29 : decode c_MD_around 29 = .ok (.iload_n 3, 1) := by decide +kernel
theorem d_MD_around_30 : decode c_MD_around 30 = .ok (.istore_n 3, 1) := by decide +kernel
theorem d_MD_around_31 : decode c_MD_around 31 = .ok (.iinc 4 1, 3) := by decide +kernel
theorem d_MD_around_34 : decode c_MD_around 34 = .ok (.goto (-29), 3) := by decide +kernel
theorem d_MD_around_37 : decode c_MD_around 37 = .ok (.iload_n 3, 1) := by decide +kernel
theorem d_MD_around_38 : decode c_MD_around 38 = .ok (.ifCond .ge 7, 3) := by decide +kernel
theorem d_MD_around_41 : decode c_MD_around 41 = .ok (.iconst (-1), 1) := by decide +kernel
theorem d_MD_around_42 : decode c_MD_around 42 = .ok (.goto 6, 3) := by decide +kernel
theorem d_MD_around_45 : decode c_MD_around 45 = .ok (.iload_n 3, 1) := by decide +kernel
theorem d_MD_around_46 : decode c_MD_around 46 = .ok (.iload_n 1, 1) := by decide +kernel
theorem d_MD_around_47 : decode c_MD_around 47 = .ok (.isub, 1) := by decide +kernel
theorem d_MD_around_48 : decode c_MD_around 48 = .ok (.ireturn, 1) := by decide +kernel
theorem d_MD_depthOf_0 : decode c_MD_depthOf 0 = .ok (.aload_n 0, 1) := by decide +kernel
theorem d_MD_depthOf_1 : decode c_MD_depthOf 1 = .ok (.iload_n 1, 1) := by decide +kernel
theorem d_MD_depthOf_2 : decode c_MD_depthOf 2 = .ok (.invokevirtual 63, 3) := by decide +kernel
theorem d_MD_depthOf_5 : decode c_MD_depthOf 5 = .ok (.istore_n 2, 1) := by decide +kernel
theorem d_MD_depthOf_6 : decode c_MD_depthOf 6 = .ok (.iconst 0, 1) := by decide +kernel
theorem d_MD_depthOf_7 : decode c_MD_depthOf 7 = .ok (.istore_n 3, 1) := by decide +kernel
theorem d_MD_depthOf_8 : decode c_MD_depthOf 8 = .ok (.iconst 0, 1) := by decide +kernel
theorem d_MD_depthOf_9 : decode c_MD_depthOf 9 = .ok (.istore 4, 2) := by decide +kernel
theorem d_MD_depthOf_11 : decode c_MD_depthOf 11 = .ok (.aload_n 0, 1) := by decide +kernel
theorem d_MD_depthOf_12 : decode c_MD_depthOf 12 = .ok (.getfield 47, 3) := by decide +kernel
theorem d_MD_depthOf_15 : decode c_MD_depthOf 15 = .ok (.iconst 0, 1) := by decide +kernel
theorem d_MD_depthOf_16 : decode c_MD_depthOf 16 = .ok (.iconst 1, 1) := by decide +kernel
theorem d_MD_depthOf_17 : decode c_MD_depthOf 17 = .ok (.iastore, 1) := by decide +kernel
theorem d_MD_depthOf_18 : decode c_MD_depthOf 18 = .ok (.iload_n 1, 1) := by decide +kernel
theorem d_MD_depthOf_19 : decode c_MD_depthOf 19 = .ok (.istore 5, 2) := by decide +kernel
theorem d_MD_depthOf_21 : decode c_MD_depthOf 21 = .ok (.iload 5, 2) := by decide +kernel
theorem d_MD_depthOf_23 : decode c_MD_depthOf 23 = .ok (.iload_n 1, 1) := by decide +kernel
theorem d_MD_depthOf_24 : decode c_MD_depthOf 24 = .ok (.iload_n 2, 1) := by decide +kernel
theorem d_MD_depthOf_25 : decode c_MD_depthOf 25 = .ok (.iadd, 1) := by decide +kernel
theorem d_MD_depthOf_26 : decode c_MD_depthOf 26 = .ok (.if_icmp .ge 76, 3) := by decide +kernel
theorem d_MD_depthOf_29 : decode c_MD_depthOf 29 = .ok (.aload_n 0, 1) := by decide +kernel
theorem d_MD_depthOf_30 : decode c_MD_depthOf 30 = .ok (.getfield 47, 3) := by decide +kernel
theorem d_MD_depthOf_33 : decode c_MD_depthOf 33 = .ok (.iload_n 3, 1) := by decide +kernel
theorem d_MD_depthOf_34 : decode c_MD_depthOf 34 = .ok (.iaload, 1) := by decide +kernel
theorem d_MD_depthOf_35 : decode c_MD_depthOf 35 = .ok (.ifCond .ne 9, 3) := by decide +kernel
theorem d_MD_depthOf_38 : decode c_MD_depthOf 38 = .ok (.iinc 3 (-1), 3) := by decide +kernel
theorem d_MD_depthOf_41 : decode c_MD_depthOf 41 = .ok (.goto (-12), 3) := by decide +kernel
theorem d_MD_depthOf_44 : decode c_MD_depthOf 44 = .ok (.aload_n 0, 1) := by decide +kernel
theorem d_MD_depthOf_45 : decode c_MD_depthOf 45 = .ok (.getfield 47, 3) := by decide +kernel
theorem d_MD_depthOf_48 : decode c_MD_depthOf 48 = .ok (.iload_n 3, 1) := by decide +kernel
theorem d_MD_depthOf_49 : decode c_MD_depthOf 49 = .ok (.dup2, 1) := by decide +kernel
theorem d_MD_depthOf_50 : decode c_MD_depthOf 50 = .ok (.iaload, 1) := by decide +kernel
theorem d_MD_depthOf_51 : decode c_MD_depthOf 51 = .ok (.iconst 1, 1) := by decide +kernel
theorem d_MD_depthOf_52 : decode c_MD_depthOf 52 = .ok (.isub, 1) := by decide +kernel
theorem d_MD_depthOf_53 : decode c_MD_depthOf 53 = .ok (.iastore, 1) := by decide +kernel
theorem d_MD_depthOf_54 : decode c_MD_depthOf 54 = .ok (.iload_n 3, 1) := by decide +kernel
theorem d_MD_depthOf_55 : decode c_MD_depthOf 55 = .ok (.iconst 1, 1) := by decide +kernel
theorem d_MD_depthOf_56 : decode c_MD_depthOf 56 = .ok (.iadd, 1) := by decide +kernel
theorem d_MD_depthOf_57 : decode c_MD_depthOf 57 = .ok (.iload 4, 2) := by decide +kernel
theorem d_MD_depthOf_59 : decode c_MD_depthOf 59 = .ok (.if_icmp .le 9, 3) := by decide +kernel
theorem d_MD_depthOf_62 : decode c_MD_depthOf 62 = .ok (.iload_n 3, 1) := by decide +kernel
theorem d_MD_depthOf_63 : decode c_MD_depthOf 63 = .ok (.iconst 1, 1) := by decide +kernel
theorem d_MD_depthOf_64 : decode c_MD_depthOf 64 = .ok (.iadd, 1) := by decide +kernel
theorem d_MD_depthOf_65 : decode c_MD_depthOf 65 = .ok (.goto 5, 3) := by decide +kernel
theorem d_MD_depthOf_68 : decode c_MD_depthOf 68 = .ok (.iload 4, 2) := by decide +kernel
theorem d_MD_depthOf_70 : decode c_MD_depthOf 70 = .ok (.istore 4, 2) := by decide +kernel
theorem d_MD_depthOf_72 : decode c_MD_depthOf 72 = .ok (.aload_n 0, 1) := by decide +kernel
theorem d_MD_depthOf_73 : decode c_MD_depthOf 73 = .ok (.iload 5, 2) := by decide +kernel
theorem d_MD_depthOf_75 : decode c_MD_depthOf 75 = .ok (.invokevirtual 59, 3) := by decide +kernel
theorem d_MD_depthOf_78 : decode c_MD_depthOf 78 = .ok (.ifCond .le 18, 3) := by decide +kernel
theorem d_MD_depthOf_81 : decode c_MD_depthOf 81 = .ok (.iinc 3 1, 3) := by decide +kernel
theorem d_MD_depthOf_84 : decode c_MD_depthOf 84 = .ok (.aload_n 0, 1) := by decide +kernel
theorem d_MD_depthOf_85 : decode c_MD_depthOf 85 = .ok (.getfield 47, 3) := by decide +kernel
theorem d_MD_depthOf_88 : decode c_MD_depthOf 88 = .ok (.iload_n 3, 1) := by decide +kernel
theorem d_MD_depthOf_89 : decode c_MD_depthOf 89 = .ok (.aload_n 0, 1) := by decide +kernel
theorem d_MD_depthOf_90 : decode c_MD_depthOf 90 = .ok (.iload 5, 2) := by decide +kernel
theorem d_MD_depthOf_92 : decode c_MD_depthOf 92 = .ok (.invokevirtual 59, 3) := by decide +kernel
theorem d_MD_depthOf_95 : decode c_MD_depthOf 95 = .ok (.iastore, 1) := by decide +kernel
theorem d_MD_depthOf_96 : decode c_MD_depthOf 96 = .ok (.iinc 5 1, 3) := by decide +kernel
theorem d_MD_depthOf_99 : decode c_MD_depthOf 99 = .ok (.goto (-78), 3) := by decide +kernel
theorem d_MD_depthOf_102 : decode c_MD_depthOf 102 = .ok (.iload 4, 2) := by decide +kernel
theorem d_MD_depthOf_104 : decode c_MD_depthOf 104 = .ok (.ireturn, 1) := by decide +kernel
theorem d_MD_move_0 : decode c_MD_move 0 = .ok (.aload_n 0, 1) := by decide +kernel
theorem d_MD_move_1 : decode c_MD_move 1 = .ok (.getfield 7, 3) := by decide +kernel
theorem d_MD_move_4 : decode c_MD_move 4 = .ok (.iload_n 2, 1) := by decide +kernel
theorem d_MD_move_5 : decode c_MD_move 5 = .ok (.aload_n 0, 1) := by decide +kernel
theorem d_MD_move_6 : decode c_MD_move 6 = .ok (.getfield 7, 3) := by decide +kernel
theorem d_MD_move_9 : decode c_MD_move 9 = .ok (.iload_n 1, 1) := by decide +kernel
theorem d_MD_move_10 : decode c_MD_move 10 = .ok (.iaload, 1) := by decide +kernel
theorem d_MD_move_11 : decode c_MD_move 11 = .ok (.iastore, 1) := by decide +kernel
theorem d_MD_move_12 : decode c_MD_move 12 = .ok (.aload_n 0, 1) := by decide +kernel
theorem d_MD_move_13 : decode c_MD_move 13 = .ok (.getfield 13, 3) := by decide +kernel
theorem d_MD_move_16 : decode c_MD_move 16 = .ok (.iload_n 2, 1) := by decide +kernel
theorem d_MD_move_17 : decode c_MD_move 17 = .ok (.aload_n 0, 1) := by decide +kernel
theorem d_MD_move_18 : decode c_MD_move 18 = .ok (.getfield 13, 3) := by decide +kernel
theorem d_MD_move_21 : decode c_MD_move 21 = .ok (.iload_n 1, 1) := by decide +kernel
theorem d_MD_move_22 : decode c_MD_move 22 = .ok (.laload, 1) := by decide +kernel
theorem d_MD_move_23 : decode c_MD_move 23 = .ok (.lastore, 1) := by decide +kernel
theorem d_MD_move_24 : decode c_MD_move 24 = .ok (.aload_n 0, 1) := by decide +kernel
theorem d_MD_move_25 : decode c_MD_move 25 = .ok (.getfield 17, 3) := by decide +kernel
theorem d_MD_move_28 : decode c_MD_move 28 = .ok (.iload_n 2, 1) := by decide +kernel
theorem d_MD_move_29 : decode c_MD_move 29 = .ok (.aload_n 0, 1) := by decide +kernel
theorem d_MD_move_30 : decode c_MD_move 30 = .ok (.getfield 17, 3) := by decide +kernel
theorem d_MD_move_33 : decode c_MD_move 33 = .ok (.iload_n 1, 1) := by decide +kernel
theorem d_MD_move_34 : decode c_MD_move 34 = .ok (.iaload, 1) := by decide +kernel
theorem d_MD_move_35 : decode c_MD_move 35 = .ok (.iastore, 1) := by decide +kernel
theorem d_MD_move_36 : decode c_MD_move 36 = .ok (.iconst 0, 1) := by decide +kernel
theorem d_MD_move_37 : decode c_MD_move 37 = .ok (.istore_n 3, 1) := by decide +kernel
theorem d_MD_move_38 : decode c_MD_move 38 = .ok (.iload_n 3, 1) := by decide +kernel
theorem d_MD_move_39 : decode c_MD_move 39 = .ok (.bipush 64, 2) := by decide +kernel
theorem d_MD_move_41 : decode c_MD_move 41 = .ok (.if_icmp .ge 31, 3) := by decide +kernel
theorem d_MD_move_44 : decode c_MD_move 44 = .ok (.aload_n 0, 1) := by decide +kernel
theorem d_MD_move_45 : decode c_MD_move 45 = .ok (.getfield 21, 3) := by decide +kernel
theorem d_MD_move_48 : decode c_MD_move 48 = .ok (.bipush 64, 2) := by decide +kernel
theorem d_MD_move_50 : decode c_MD_move 50 = .ok (.iload_n 2, 1) := by decide +kernel
theorem d_MD_move_51 : decode c_MD_move 51 = .ok (.imul, 1) := by decide +kernel
theorem d_MD_move_52 : decode c_MD_move 52 = .ok (.iload_n 3, 1) := by decide +kernel
theorem d_MD_move_53 : decode c_MD_move 53 = .ok (.iadd, 1) := by decide +kernel
theorem d_MD_move_54 : decode c_MD_move 54 = .ok (.aload_n 0, 1) := by decide +kernel
theorem d_MD_move_55 : decode c_MD_move 55 = .ok (.getfield 21, 3) := by decide +kernel
theorem d_MD_move_58 : decode c_MD_move 58 = .ok (.bipush 64, 2) := by decide +kernel
theorem d_MD_move_60 : decode c_MD_move 60 = .ok (.iload_n 1, 1) := by decide +kernel
theorem d_MD_move_61 : decode c_MD_move 61 = .ok (.imul, 1) := by decide +kernel
theorem d_MD_move_62 : decode c_MD_move 62 = .ok (.iload_n 3, 1) := by decide +kernel
theorem d_MD_move_63 : decode c_MD_move 63 = .ok (.iadd, 1) := by decide +kernel
theorem d_MD_move_64 : decode c_MD_move 64 = .ok (.baload, 1) := by decide +kernel
theorem d_MD_move_65 : decode c_MD_move 65 = .ok (.bastore, 1) := by decide +kernel
theorem d_MD_move_66 : decode c_MD_move 66 = .ok (.iinc 3 1, 3) := by decide +kernel
theorem d_MD_move_69 : decode c_MD_move 69 = .ok (.goto (-31), 3) := by decide +kernel
theorem d_MD_move_72 : decode c_MD_move 72 = .ok (.return_, 1) := by decide +kernel
theorem d_MD_put_0 : decode c_MD_put 0 = .ok (.aload_n 0, 1) := by decide +kernel
theorem d_MD_put_1 : decode c_MD_put 1 = .ok (.getfield 7, 3) := by decide +kernel
theorem d_MD_put_4 : decode c_MD_put 4 = .ok (.iload_n 1, 1) := by decide +kernel
theorem d_MD_put_5 : decode c_MD_put 5 = .ok (.iload_n 2, 1) := by decide +kernel
theorem d_MD_put_6 : decode c_MD_put 6 = .ok (.iastore, 1) := by decide +kernel
theorem d_MD_put_7 : decode c_MD_put 7 = .ok (.aload_n 0, 1) := by decide +kernel
theorem d_MD_put_8 : decode c_MD_put 8 = .ok (.getfield 13, 3) := by decide +kernel
theorem d_MD_put_11 : decode c_MD_put 11 = .ok (.iload_n 1, 1) := by decide +kernel
theorem d_MD_put_12 : decode c_MD_put 12 = .ok (.lload_n 3, 1) := by decide +kernel
theorem d_MD_put_13 : decode c_MD_put 13 = .ok (.lastore, 1) := by decide +kernel
theorem d_MD_put_14 : decode c_MD_put 14 = .ok (.aload_n 0, 1) := by decide +kernel
theorem d_MD_put_15 : decode c_MD_put 15 = .ok (.getfield 17, 3) := by decide +kernel
theorem d_MD_put_18 : decode c_MD_put 18 = .ok (.iload_n 1, 1) := by decide +kernel
theorem d_MD_put_19 : decode c_MD_put 19 = .ok (.iload 5, 2) := by decide +kernel
theorem d_MD_put_21 : decode c_MD_put 21 = .ok (.iastore, 1) := by decide +kernel
theorem d_MD_put_22 : decode c_MD_put 22 = .ok (.return_, 1) := by decide +kernel
theorem d_MD_hasRoom_0 : decode c_MD_hasRoom 0 = .ok (.aload_n 0, 1) := by decide +kernel
theorem d_MD_hasRoom_1 : decode c_MD_hasRoom 1 = .ok (.getfield 53, 3) := by decide +kernel
theorem d_MD_hasRoom_4 : decode c_MD_hasRoom 4 = .ok (.bipush 16, 2) := by decide +kernel
theorem d_MD_hasRoom_6 : decode c_MD_hasRoom 6 = .ok (.if_icmp .ge 19, 3) := by decide +kernel
theorem d_MD_hasRoom_9 : decode c_MD_hasRoom 9 = .ok (.aload_n 0, 1) := by decide +kernel
theorem d_MD_hasRoom_10 : decode c_MD_hasRoom 10 = .ok (.getfield 56, 3) := by decide +kernel
theorem d_MD_hasRoom_13 : decode c_MD_hasRoom 13 = .ok (.iload_n 1, 1) := by decide +kernel
theorem d_MD_hasRoom_14 : decode c_MD_hasRoom 14 = .ok (.iadd, 1) := by decide +kernel
theorem d_MD_hasRoom_15 : decode c_MD_hasRoom 15 = .ok (.sipush 1000, 3) := by decide +kernel
theorem d_MD_hasRoom_18 : decode c_MD_hasRoom 18 = .ok (.if_icmp .gt 7, 3) := by decide +kernel
theorem d_MD_hasRoom_21 : decode c_MD_hasRoom 21 = .ok (.iconst 1, 1) := by decide +kernel
theorem d_MD_hasRoom_22 : decode c_MD_hasRoom 22 = .ok (.goto 4, 3) := by decide +kernel
theorem d_MD_hasRoom_25 : decode c_MD_hasRoom 25 = .ok (.iconst 0, 1) := by decide +kernel
theorem d_MD_hasRoom_26 : decode c_MD_hasRoom 26 = .ok (.ireturn, 1) := by decide +kernel
theorem d_MD_integer_0 : decode c_MD_integer 0 = .ok (.aload_n 0, 1) := by decide +kernel
theorem d_MD_integer_1 : decode c_MD_integer 1 = .ok (.iconst 0, 1) := by decide +kernel
theorem d_MD_integer_2 : decode c_MD_integer 2 = .ok (.putfield 50, 3) := by decide +kernel
theorem d_MD_integer_5 : decode c_MD_integer 5 = .ok (.aload_n 0, 1) := by decide +kernel
theorem d_MD_integer_6 : decode c_MD_integer 6 = .ok (.iconst 1, 1) := by decide +kernel
theorem d_MD_integer_7 : decode c_MD_integer 7 = .ok (.invokevirtual 66, 3) := by decide +kernel
theorem d_MD_integer_10 : decode c_MD_integer 10 = .ok (.ifCond .ne 5, 3) := by decide +kernel
theorem d_MD_integer_13 : decode c_MD_integer 13 = .ok (.iconst 0, 1) := by decide +kernel
theorem d_MD_integer_14 : decode c_MD_integer 14 = .ok (.ireturn, 1) := by decide +kernel
theorem d_MD_integer_15 : decode c_MD_integer 15 = .ok (.aload_n 0, 1) := by decide +kernel
theorem d_MD_integer_16 : decode c_MD_integer 16 = .ok (.getfield 25, 3) := by decide +kernel
theorem d_MD_integer_19 : decode c_MD_integer 19 = .ok (.aload_n 0, 1) := by decide +kernel
theorem d_MD_integer_20 : decode c_MD_integer 20 = .ok (.getfield 53, 3) := by decide +kernel
theorem d_MD_integer_23 : decode c_MD_integer 23 = .ok (.aload_n 0, 1) := by decide +kernel
theorem d_MD_integer_24 : decode c_MD_integer 24 = .ok (.getfield 56, 3) := by decide +kernel
theorem d_MD_integer_27 : decode c_MD_integer 27 = .ok (.iastore, 1) := by decide +kernel
theorem d_MD_integer_28 : decode c_MD_integer 28 = .ok (.aload_n 0, 1) := by decide +kernel
theorem d_MD_integer_29 : decode c_MD_integer 29 = .ok (.dup, 1) := by decide +kernel
theorem d_MD_integer_30 : decode c_MD_integer 30 = .ok (.getfield 53, 3) := by decide +kernel
theorem d_MD_integer_33 : decode c_MD_integer 33 = .ok (.iconst 1, 1) := by decide +kernel
theorem d_MD_integer_34 : decode c_MD_integer 34 = .ok (.iadd, 1) := by decide +kernel
theorem d_MD_integer_35 : decode c_MD_integer 35 = .ok (.putfield 53, 3) := by decide +kernel
theorem d_MD_integer_38 : decode c_MD_integer 38 = .ok (.aload_n 0, 1) := by decide +kernel
theorem d_MD_integer_39 : decode c_MD_integer 39 = .ok (.aload_n 0, 1) := by decide +kernel
theorem d_MD_integer_40 : decode c_MD_integer 40 = .ok (.getfield 56, 3) := by decide +kernel
theorem d_MD_integer_43 : decode c_MD_integer 43 = .ok (.iconst 0, 1) := by decide +kernel
theorem d_MD_integer_44 : decode c_MD_integer 44 = .ok (.lload_n 1, 1) := by decide +kernel
theorem d_MD_integer_45 : decode c_MD_integer 45 = .ok (.iconst 0, 1) := by decide +kernel
theorem d_MD_integer_46 : decode c_MD_integer 46 = .ok (.invokevirtual 70, 3) := by decide +kernel
theorem d_MD_integer_49 : decode c_MD_integer 49 = .ok (.aload_n 0, 1) := by decide +kernel
theorem d_MD_integer_50 : decode c_MD_integer 50 = .ok (.dup, 1) := by decide +kernel
theorem d_MD_integer_51 : decode c_MD_integer 51 = .ok (.getfield 56, 3) := by decide +kernel
theorem d_MD_integer_54 : decode c_MD_integer 54 = .ok (.iconst 1, 1) := by decide +kernel
theorem d_MD_integer_55 : decode c_MD_integer 55 = .ok (.iadd, 1) := by decide +kernel
theorem d_MD_integer_56 : decode c_MD_integer 56 = .ok (.putfield 56, 3) := by decide +kernel
theorem d_MD_integer_59 : decode c_MD_integer 59 = .ok (.iconst 1, 1) := by decide +kernel
theorem d_MD_integer_60 : decode c_MD_integer 60 = .ok (.ireturn, 1) := by decide +kernel
theorem d_MD_append_0 : decode c_MD_append 0 = .ok (.iload 4, 2) := by decide +kernel
theorem d_MD_append_2 : decode c_MD_append 2 = .ok (.iconst 1, 1) := by decide +kernel
theorem d_MD_append_3 : decode c_MD_append 3 = .ok (.isub, 1) := by decide +kernel
theorem d_MD_append_4 : decode c_MD_append 4 = .ok (.istore 5, 2) := by decide +kernel
theorem d_MD_append_6 : decode c_MD_append 6 = .ok (.iload 5, 2) := by decide +kernel
theorem d_MD_append_8 : decode c_MD_append 8 = .ok (.ifCond .lt 44, 3) := by decide +kernel
theorem d_MD_append_11 : decode c_MD_append 11 = .ok (.aload_n 0, 1) := by decide +kernel
theorem d_MD_append_12 : decode c_MD_append 12 = .ok (.getfield 21, 3) := by decide +kernel
theorem d_MD_append_15 : decode c_MD_append 15 = .ok (.bipush 64, 2) := by decide +kernel
theorem d_MD_append_17 : decode c_MD_append 17 = .ok (.iload_n 1, 1) := by decide +kernel
theorem d_MD_append_18 : decode c_MD_append 18 = .ok (.imul, 1) := by decide +kernel
theorem d_MD_append_19 : decode c_MD_append 19 = .ok (.aload_n 0, 1) := by decide +kernel
theorem d_MD_append_20 : decode c_MD_append 20 = .ok (.getfield 17, 3) := by decide +kernel
theorem d_MD_append_23 : decode c_MD_append 23 = .ok (.iload_n 1, 1) := by decide +kernel
theorem d_MD_append_24 : decode c_MD_append 24 = .ok (.iaload, 1) := by decide +kernel
theorem d_MD_append_25 : decode c_MD_append 25 = .ok (.iadd, 1) := by decide +kernel
theorem d_MD_append_26 : decode c_MD_append 26 = .ok (.lload_n 2, 1) := by decide +kernel
theorem d_MD_append_27 : decode c_MD_append 27 = .ok (.bipush 8, 2) := by decide +kernel
theorem d_MD_append_29 : decode c_MD_append 29 = .ok (.iload 5, 2) := by decide +kernel
theorem d_MD_append_31 : decode c_MD_append 31 = .ok (.imul, 1) := by decide +kernel
theorem d_MD_append_32 : decode c_MD_append 32 = .ok (.lshr, 1) := by decide +kernel
theorem d_MD_append_33 : decode c_MD_append 33 = .ok (.l2i, 1) := by decide +kernel
theorem d_MD_append_34 : decode c_MD_append 34 = .ok (.i2b, 1) := by decide +kernel
theorem d_MD_append_35 : decode c_MD_append 35 = .ok (.bastore, 1) := by decide +kernel
theorem d_MD_append_36 : decode c_MD_append 36 = .ok (.aload_n 0, 1) := by decide +kernel
theorem d_MD_append_37 : decode c_MD_append 37 = .ok (.getfield 17, 3) := by decide +kernel
theorem d_MD_append_40 : decode c_MD_append 40 = .ok (.iload_n 1, 1) := by decide +kernel
theorem d_MD_append_41 : decode c_MD_append 41 = .ok (.dup2, 1) := by decide +kernel
theorem d_MD_append_42 : decode c_MD_append 42 = .ok (.iaload, 1) := by decide +kernel
theorem d_MD_append_43 : decode c_MD_append 43 = .ok (.iconst 1, 1) := by decide +kernel
theorem d_MD_append_44 : decode c_MD_append 44 = .ok (.iadd, 1) := by decide +kernel
theorem d_MD_append_45 : decode c_MD_append 45 = .ok (.iastore, 1) := by decide +kernel
theorem d_MD_append_46 : decode c_MD_append 46 = .ok (.iinc 5 (-1), 3) := by decide +kernel
theorem d_MD_append_49 : decode c_MD_append 49 = .ok (.goto (-43), 3) := by decide +kernel
theorem d_MD_append_52 : decode c_MD_append 52 = .ok (.return_, 1) := by decide +kernel
theorem d_MD_bytes_0 : decode c_MD_bytes 0 = .ok (.aload_n 0, 1) := by decide +kernel
theorem d_MD_bytes_1 : decode c_MD_bytes 1 = .ok (.iconst 0, 1) := by decide +kernel
theorem d_MD_bytes_2 : decode c_MD_bytes 2 = .ok (.putfield 50, 3) := by decide +kernel
theorem d_MD_bytes_5 : decode c_MD_bytes 5 = .ok (.iload_n 3, 1) := by decide +kernel
theorem d_MD_bytes_6 : decode c_MD_bytes 6 = .ok (.ifCond .lt 17, 3) := by decide +kernel
theorem d_MD_bytes_9 : decode c_MD_bytes 9 = .ok (.iload_n 3, 1) := by decide +kernel
theorem d_MD_bytes_10 : decode c_MD_bytes 10 = .ok (.bipush 8, 2) := by decide +kernel
theorem d_MD_bytes_12 : decode c_MD_bytes 12 = .ok (.if_icmp .gt 11, 3) := by decide +kernel
theorem d_MD_bytes_15 : decode c_MD_bytes 15 = .ok (.aload_n 0, 1) := by decide +kernel
theorem d_MD_bytes_16 : decode c_MD_bytes 16 = .ok (.iconst 1, 1) := by decide +kernel
theorem d_MD_bytes_17 : decode c_MD_bytes 17 = .ok (.invokevirtual 66, 3) := by decide +kernel
theorem d_MD_bytes_20 : decode c_MD_bytes 20 = .ok (.ifCond .ne 5, 3) := by decide +kernel
theorem d_MD_bytes_23 : decode c_MD_bytes 23 = .ok (.iconst 0, 1) := by decide +kernel
theorem d_MD_bytes_24 : decode c_MD_bytes 24 = .ok (.ireturn, 1) := by decide +kernel
theorem d_MD_bytes_25 : decode c_MD_bytes 25 = .ok (.aload_n 0, 1) := by decide +kernel
theorem d_MD_bytes_26 : decode c_MD_bytes 26 = .ok (.getfield 25, 3) := by decide +kernel
theorem d_MD_bytes_29 : decode c_MD_bytes 29 = .ok (.aload_n 0, 1) := by decide +kernel
theorem d_MD_bytes_30 : decode c_MD_bytes 30 = .ok (.getfield 53, 3) := by decide +kernel
theorem d_MD_bytes_33 : decode c_MD_bytes 33 = .ok (.aload_n 0, 1) := by decide +kernel
theorem d_MD_bytes_34 : decode c_MD_bytes 34 = .ok (.getfield 56, 3) := by decide +kernel
theorem d_MD_bytes_37 : decode c_MD_bytes 37 = .ok (.iastore, 1) := by decide +kernel
theorem d_MD_bytes_38 : decode c_MD_bytes 38 = .ok (.aload_n 0, 1) := by decide +kernel
theorem d_MD_bytes_39 : decode c_MD_bytes 39 = .ok (.dup, 1) := by decide +kernel
theorem d_MD_bytes_40 : decode c_MD_bytes 40 = .ok (.getfield 53, 3) := by decide +kernel
theorem d_MD_bytes_43 : decode c_MD_bytes 43 = .ok (.iconst 1, 1) := by decide +kernel
theorem d_MD_bytes_44 : decode c_MD_bytes 44 = .ok (.iadd, 1) := by decide +kernel
theorem d_MD_bytes_45 : decode c_MD_bytes 45 = .ok (.putfield 53, 3) := by decide +kernel
theorem d_MD_bytes_48 : decode c_MD_bytes 48 = .ok (.aload_n 0, 1) := by decide +kernel
theorem d_MD_bytes_49 : decode c_MD_bytes 49 = .ok (.aload_n 0, 1) := by decide +kernel
theorem d_MD_bytes_50 : decode c_MD_bytes 50 = .ok (.getfield 56, 3) := by decide +kernel
theorem d_MD_bytes_53 : decode c_MD_bytes 53 = .ok (.iconst 2, 1) := by decide +kernel
theorem d_MD_bytes_54 : decode c_MD_bytes 54 = .ok (.lconst 0, 1) := by decide +kernel
theorem d_MD_bytes_55 : decode c_MD_bytes 55 = .ok (.iconst 0, 1) := by decide +kernel
theorem d_MD_bytes_56 : decode c_MD_bytes 56 = .ok (.invokevirtual 70, 3) := by decide +kernel
theorem d_MD_bytes_59 : decode c_MD_bytes 59 = .ok (.aload_n 0, 1) := by decide +kernel
theorem d_MD_bytes_60 : decode c_MD_bytes 60 = .ok (.aload_n 0, 1) := by decide +kernel
theorem d_MD_bytes_61 : decode c_MD_bytes 61 = .ok (.getfield 56, 3) := by decide +kernel
theorem d_MD_bytes_64 : decode c_MD_bytes 64 = .ok (.lload_n 1, 1) := by decide +kernel
theorem d_MD_bytes_65 : decode c_MD_bytes 65 = .ok (.iload_n 3, 1) := by decide +kernel
theorem d_MD_bytes_66 : decode c_MD_bytes 66 = .ok (.invokevirtual 74, 3) := by decide +kernel
theorem d_MD_bytes_69 : decode c_MD_bytes 69 = .ok (.aload_n 0, 1) := by decide +kernel
theorem d_MD_bytes_70 : decode c_MD_bytes 70 = .ok (.dup, 1) := by decide +kernel
theorem d_MD_bytes_71 : decode c_MD_bytes 71 = .ok (.getfield 56, 3) := by decide +kernel
theorem d_MD_bytes_74 : decode c_MD_bytes 74 = .ok (.iconst 1, 1) := by decide +kernel
theorem d_MD_bytes_75 : decode c_MD_bytes 75 = .ok (.iadd, 1) := by decide +kernel
theorem d_MD_bytes_76 : decode c_MD_bytes 76 = .ok (.putfield 56, 3) := by decide +kernel
theorem d_MD_bytes_79 : decode c_MD_bytes 79 = .ok (.iconst 1, 1) := by decide +kernel
theorem d_MD_bytes_80 : decode c_MD_bytes 80 = .ok (.ireturn, 1) := by decide +kernel
theorem d_MD_more_0 : decode c_MD_more 0 = .ok (.aload_n 0, 1) := by decide +kernel
theorem d_MD_more_1 : decode c_MD_more 1 = .ok (.iconst 0, 1) := by decide +kernel
theorem d_MD_more_2 : decode c_MD_more 2 = .ok (.putfield 50, 3) := by decide +kernel
theorem d_MD_more_5 : decode c_MD_more 5 = .ok (.aload_n 0, 1) := by decide +kernel
theorem d_MD_more_6 : decode c_MD_more 6 = .ok (.getfield 53, 3) := by decide +kernel
theorem d_MD_more_9 : decode c_MD_more 9 = .ok (.ifCond .ne 7, 3) := by decide +kernel
theorem d_MD_more_12 : decode c_MD_more 12 = .ok (.iconst 0, 1) := by decide +kernel
theorem d_MD_more_13 : decode c_MD_more 13 = .ok (.goto 14, 3) := by decide +kernel
theorem d_MD_more_16 : decode c_MD_more 16 = .ok (.aload_n 0, 1) := by decide +kernel
theorem d_MD_more_17 : decode c_MD_more 17 = .ok (.getfield 25, 3) := by decide +kernel
theorem d_MD_more_20 : decode c_MD_more 20 = .ok (.aload_n 0, 1) := by decide +kernel
theorem d_MD_more_21 : decode c_MD_more 21 = .ok (.getfield 53, 3) := by decide +kernel
theorem d_MD_more_24 : decode c_MD_more 24 = .ok (.iconst 1, 1) := by decide +kernel
theorem d_MD_more_25 : decode c_MD_more 25 = .ok (.isub, 1) := by decide +kernel
theorem d_MD_more_26 : decode c_MD_more 26 = .ok (.iaload, 1) := by decide +kernel
theorem d_MD_more_27 : decode c_MD_more 27 = .ok (.istore 4, 2) := by decide +kernel
theorem d_MD_more_29 : decode c_MD_more 29 = .ok (.aload_n 0, 1) := by decide +kernel
theorem d_MD_more_30 : decode c_MD_more 30 = .ok (.getfield 53, 3) := by decide +kernel
theorem d_MD_more_33 : decode c_MD_more 33 = .ok (.ifCond .eq 39, 3) := by decide +kernel
theorem d_MD_more_36 : decode c_MD_more 36 = .ok (.aload_n 0, 1) := by decide +kernel
theorem d_MD_more_37 : decode c_MD_more 37 = .ok (.getfield 7, 3) := by decide +kernel
theorem d_MD_more_40 : decode c_MD_more 40 = .ok (.iload 4, 2) := by decide +kernel
theorem d_MD_more_42 : decode c_MD_more 42 = .ok (.iaload, 1) := by decide +kernel
theorem d_MD_more_43 : decode c_MD_more 43 = .ok (.iconst 2, 1) := by decide +kernel
theorem d_MD_more_44 : decode c_MD_more 44 = .ok (.if_icmp .ne 28, 3) := by decide +kernel
theorem d_MD_more_47 : decode c_MD_more 47 = .ok (.iload_n 3, 1) := by decide +kernel
theorem d_MD_more_48 : decode c_MD_more 48 = .ok (.iconst 1, 1) := by decide +kernel
theorem d_MD_more_49 : decode c_MD_more 49 = .ok (.if_icmp .lt 23, 3) := by decide +kernel
theorem d_MD_more_52 : decode c_MD_more 52 = .ok (.iload_n 3, 1) := by decide +kernel
theorem d_MD_more_53 : decode c_MD_more 53 = .ok (.bipush 8, 2) := by decide +kernel
theorem d_MD_more_55 : decode c_MD_more 55 = .ok (.if_icmp .gt 17, 3) := by decide +kernel
theorem d_MD_more_58 : decode c_MD_more 58 = .ok (.aload_n 0, 1) := by decide +kernel
theorem d_MD_more_59 : decode c_MD_more 59 = .ok (.getfield 17, 3) := by decide +kernel
theorem d_MD_more_62 : decode c_MD_more 62 = .ok (.iload 4, 2) := by decide +kernel
theorem d_MD_more_64 : decode c_MD_more 64 = .ok (.iaload, 1) := by decide +kernel
theorem d_MD_more_65 : decode c_MD_more 65 = .ok (.iload_n 3, 1) := by decide +kernel
theorem d_MD_more_66 : decode c_MD_more 66 = .ok (.iadd, 1) := by decide +kernel
theorem d_MD_more_67 : decode c_MD_more 67 = .ok (.bipush 64, 2) := by decide +kernel
theorem d_MD_more_69 : decode c_MD_more 69 = .ok (.if_icmp .le 5, 3) := by decide +kernel
theorem d_MD_more_72 : decode c_MD_more 72 = .ok (.iconst 0, 1) := by decide +kernel
theorem d_MD_more_73 : decode c_MD_more 73 = .ok (.ireturn, 1) := by decide +kernel
theorem d_MD_more_74 : decode c_MD_more 74 = .ok (.aload_n 0, 1) := by decide +kernel
theorem d_MD_more_75 : decode c_MD_more 75 = .ok (.iload 4, 2) := by decide +kernel
theorem d_MD_more_77 : decode c_MD_more 77 = .ok (.lload_n 1, 1) := by decide +kernel
theorem d_MD_more_78 : decode c_MD_more 78 = .ok (.iload_n 3, 1) := by decide +kernel
theorem d_MD_more_79 : decode c_MD_more 79 = .ok (.invokevirtual 74, 3) := by decide +kernel
theorem d_MD_more_82 : decode c_MD_more 82 = .ok (.iconst 1, 1) := by decide +kernel
theorem d_MD_more_83 : decode c_MD_more 83 = .ok (.ireturn, 1) := by decide +kernel
theorem d_MD_joins_0 : decode c_MD_joins 0 = .ok (.iload_n 1, 1) := by decide +kernel
theorem d_MD_joins_1 : decode c_MD_joins 1 = .ok (.aload_n 0, 1) := by decide +kernel
theorem d_MD_joins_2 : decode c_MD_joins 2 = .ok (.getfield 53, 3) := by decide +kernel
theorem d_MD_joins_5 : decode c_MD_joins 5 = .ok (.if_icmp .gt 24, 3) := by decide +kernel
theorem d_MD_joins_8 : decode c_MD_joins 8 = .ok (.aload_n 0, 1) := by decide +kernel
theorem d_MD_joins_9 : decode c_MD_joins 9 = .ok (.getfield 53, 3) := by decide +kernel
theorem d_MD_joins_12 : decode c_MD_joins 12 = .ok (.iload_n 1, 1) := by decide +kernel
theorem d_MD_joins_13 : decode c_MD_joins 13 = .ok (.isub, 1) := by decide +kernel
theorem d_MD_joins_14 : decode c_MD_joins 14 = .ok (.bipush 16, 2) := by decide +kernel
theorem d_MD_joins_16 : decode c_MD_joins 16 = .ok (.if_icmp .eq 13, 3) := by decide +kernel
theorem d_MD_joins_19 : decode c_MD_joins 19 = .ok (.aload_n 0, 1) := by decide +kernel
theorem d_MD_joins_20 : decode c_MD_joins 20 = .ok (.getfield 56, 3) := by decide +kernel
theorem d_MD_joins_23 : decode c_MD_joins 23 = .ok (.sipush 1000, 3) := by decide +kernel
theorem d_MD_joins_26 : decode c_MD_joins 26 = .ok (.if_icmp .ne 5, 3) := by decide +kernel
theorem d_MD_joins_29 : decode c_MD_joins 29 = .ok (.iconst 0, 1) := by decide +kernel
theorem d_MD_joins_30 : decode c_MD_joins 30 = .ok (.ireturn, 1) := by decide +kernel
theorem d_MD_joins_31 : decode c_MD_joins 31 = .ok (.aload_n 0, 1) := by decide +kernel
theorem d_MD_joins_32 : decode c_MD_joins 32 = .ok (.aload_n 0, 1) := by decide +kernel
theorem d_MD_joins_33 : decode c_MD_joins 33 = .ok (.getfield 53, 3) := by decide +kernel
theorem d_MD_joins_36 : decode c_MD_joins 36 = .ok (.iload_n 1, 1) := by decide +kernel
theorem d_MD_joins_37 : decode c_MD_joins 37 = .ok (.isub, 1) := by decide +kernel
theorem d_MD_joins_38 : decode c_MD_joins 38 = .ok (.invokevirtual 78, 3) := by decide +kernel
theorem d_MD_joins_41 : decode c_MD_joins 41 = .ok (.istore 6, 2) := by decide +kernel
theorem d_MD_joins_43 : decode c_MD_joins 43 = .ok (.aload_n 0, 1) := by decide +kernel
theorem d_MD_joins_44 : decode c_MD_joins 44 = .ok (.getfield 56, 3) := by decide +kernel
theorem d_MD_joins_47 : decode c_MD_joins 47 = .ok (.iload 6, 2) := by decide +kernel
theorem d_MD_joins_49 : decode c_MD_joins 49 = .ok (.isub, 1) := by decide +kernel
theorem d_MD_joins_50 : decode c_MD_joins 50 = .ok (.istore 7, 2) := by decide +kernel
theorem d_MD_joins_52 : decode c_MD_joins 52 = .ok (.iconst 0, 1) := by decide +kernel
theorem d_MD_joins_53 : decode c_MD_joins 53 = .ok (.istore 8, 2) := by decide +kernel
theorem d_MD_joins_55 : decode c_MD_joins 55 = .ok (.aload_n 0, 1) := by decide +kernel
theorem d_MD_joins_56 : decode c_MD_joins 56 = .ok (.getfield 53, 3) := by decide +kernel
theorem d_MD_joins_59 : decode c_MD_joins 59 = .ok (.iload_n 1, 1) := by decide +kernel
theorem d_MD_joins_60 : decode c_MD_joins 60 = .ok (.isub, 1) := by decide +kernel
theorem d_MD_joins_61 : decode c_MD_joins 61 = .ok (.istore 9, 2) := by decide +kernel
theorem d_MD_joins_63 : decode c_MD_joins 63 = .ok (.iload 9, 2) := by decide +kernel
theorem d_MD_joins_65 : decode c_MD_joins 65 = .ok (.aload_n 0, 1) := by decide +kernel
theorem d_MD_joins_66 : decode c_MD_joins 66 = .ok (.getfield 53, 3) := by decide +kernel
theorem d_MD_joins_69 : decode c_MD_joins 69 = .ok (.if_icmp .ge 38, 3) := by decide +kernel
theorem d_MD_joins_72 : decode c_MD_joins 72 = .ok (.aload_n 0, 1) := by decide +kernel
theorem d_MD_joins_73 : decode c_MD_joins 73 = .ok (.aload_n 0, 1) := by decide +kernel
theorem d_MD_joins_74 : decode c_MD_joins 74 = .ok (.getfield 25, 3) := by decide +kernel
theorem d_MD_joins_77 : decode c_MD_joins 77 = .ok (.iload 9, 2) := by decide +kernel
theorem d_MD_joins_79 : decode c_MD_joins 79 = .ok (.iaload, 1) := by decide +kernel
theorem d_MD_joins_80 : decode c_MD_joins 80 = .ok (.invokevirtual 81, 3) := by decide +kernel
theorem d_MD_joins_83 : decode c_MD_joins 83 = .ok (.istore 10, 2) := by decide +kernel
theorem d_MD_joins_85 : decode c_MD_joins 85 = .ok (.iload 10, 2) := by decide +kernel
theorem d_MD_joins_87 : decode c_MD_joins 87 = .ok (.iload 8, 2) := by decide +kernel
theorem d_MD_joins_89 : decode c_MD_joins 89 = .ok (.if_icmp .le 8, 3) := by decide +kernel
theorem d_MD_joins_92 : decode c_MD_joins 92 = .ok (.iload 10, 2) := by decide +kernel
theorem d_MD_joins_94 : decode c_MD_joins 94 = .ok (.goto 5, 3) := by decide +kernel
theorem d_MD_joins_97 : decode c_MD_joins 97 = .ok (.iload 8, 2) := by decide +kernel
theorem d_MD_joins_99 : decode c_MD_joins 99 = .ok (.istore 8, 2) := by decide +kernel
theorem d_MD_joins_101 : decode c_MD_joins 101 = .ok (.iinc 9 1, 3) := by decide +kernel
theorem d_MD_joins_104 : decode c_MD_joins 104 = .ok (.goto (-41), 3) := by decide +kernel
theorem d_MD_joins_107 : decode c_MD_joins 107 = .ok (.iload 7, 2) := by decide +kernel
theorem d_MD_joins_109 : decode c_MD_joins 109 = .ok (.iconst 1, 1) := by decide +kernel
theorem d_MD_joins_110 : decode c_MD_joins 110 = .ok (.iadd, 1) := by decide +kernel
theorem d_MD_joins_111 : decode c_MD_joins 111 = .ok (.sipush 200, 3) := by decide +kernel
theorem d_MD_joins_114 : decode c_MD_joins 114 = .ok (.if_icmp .gt 12, 3) := by decide +kernel
theorem d_MD_joins_117 : decode c_MD_joins 117 = .ok (.iload 8, 2) := by decide +kernel
theorem d_MD_joins_119 : decode c_MD_joins 119 = .ok (.iconst 1, 1) := by decide +kernel
theorem d_MD_joins_120 : decode c_MD_joins 120 = .ok (.iadd, 1) := by decide +kernel
theorem d_MD_joins_121 : decode c_MD_joins 121 = .ok (.bipush 12, 2) := by decide +kernel
theorem d_MD_joins_123 : decode c_MD_joins 123 = .ok (.if_icmp .le 5, 3) := by decide +kernel
theorem d_MD_joins_126 : decode c_MD_joins 126 = .ok (.iconst 0, 1) := by decide +kernel
theorem d_MD_joins_127 : decode c_MD_joins 127 = .ok (.ireturn, 1) := by decide +kernel
theorem d_MD_joins_128 : decode c_MD_joins 128 = .ok (.aload_n 0, 1) := by decide +kernel
theorem d_MD_joins_129 : decode c_MD_joins 129 = .ok (.getfield 56, 3) := by decide +kernel
theorem d_MD_joins_132 : decode c_MD_joins 132 = .ok (.istore 9, 2) := by decide +kernel
theorem d_MD_joins_134 : decode c_MD_joins 134 = .ok (.iload 9, 2) := by decide +kernel
theorem d_MD_joins_136 : decode c_MD_joins 136 = .ok (.iload 6, 2) := by decide +kernel
theorem d_MD_joins_138 : decode c_MD_joins 138 = .ok (.if_icmp .le 19, 3) := by decide +kernel
theorem d_MD_joins_141 : decode c_MD_joins 141 = .ok (.aload_n 0, 1) := by decide +kernel
theorem d_MD_joins_142 : decode c_MD_joins 142 = .ok (.iload 9, 2) := by decide +kernel
theorem d_MD_joins_144 : decode c_MD_joins 144 = .ok (.iconst 1, 1) := by decide +kernel
theorem d_MD_joins_145 : decode c_MD_joins 145 = .ok (.isub, 1) := by decide +kernel
theorem d_MD_joins_146 : decode c_MD_joins 146 = .ok (.iload 9, 2) := by decide +kernel
theorem d_MD_joins_148 : decode c_MD_joins 148 = .ok (.invokevirtual 84, 3) := by decide +kernel
theorem d_MD_joins_151 : decode c_MD_joins 151 = .ok (.iinc 9 (-1), 3) := by decide +kernel
theorem d_MD_joins_154 : decode c_MD_joins 154 = .ok (.goto (-20), 3) := by decide +kernel
theorem d_MD_joins_157 : decode c_MD_joins 157 = .ok (.aload_n 0, 1) := by decide +kernel
theorem d_MD_joins_158 : decode c_MD_joins 158 = .ok (.iload 6, 2) := by decide +kernel
theorem d_MD_joins_160 : decode c_MD_joins 160 = .ok (.iload_n 2, 1) := by decide +kernel
theorem d_MD_joins_161 : decode c_MD_joins 161 = .ok (.lload_n 3, 1) := by decide +kernel
theorem d_MD_joins_162 : decode c_MD_joins 162 = .ok (.iload 5, 2) := by decide +kernel
theorem d_MD_joins_164 : decode c_MD_joins 164 = .ok (.invokevirtual 70, 3) := by decide +kernel
theorem d_MD_joins_167 : decode c_MD_joins 167 = .ok (.aload_n 0, 1) := by decide +kernel
theorem d_MD_joins_168 : decode c_MD_joins 168 = .ok (.dup, 1) := by decide +kernel
theorem d_MD_joins_169 : decode c_MD_joins 169 = .ok (.getfield 56, 3) := by decide +kernel
theorem d_MD_joins_172 : decode c_MD_joins 172 = .ok (.iconst 1, 1) := by decide +kernel
theorem d_MD_joins_173 : decode c_MD_joins 173 = .ok (.iadd, 1) := by decide +kernel
theorem d_MD_joins_174 : decode c_MD_joins 174 = .ok (.putfield 56, 3) := by decide +kernel
theorem d_MD_joins_177 : decode c_MD_joins 177 = .ok (.aload_n 0, 1) := by decide +kernel
theorem d_MD_joins_178 : decode c_MD_joins 178 = .ok (.dup, 1) := by decide +kernel
theorem d_MD_joins_179 : decode c_MD_joins 179 = .ok (.getfield 53, 3) := by decide +kernel
theorem d_MD_joins_182 : decode c_MD_joins 182 = .ok (.iload_n 1, 1) := by decide +kernel
theorem d_MD_joins_183 : decode c_MD_joins 183 = .ok (.isub, 1) := by decide +kernel
theorem d_MD_joins_184 : decode c_MD_joins 184 = .ok (.putfield 53, 3) := by decide +kernel
theorem d_MD_joins_187 : decode c_MD_joins 187 = .ok (.aload_n 0, 1) := by decide +kernel
theorem d_MD_joins_188 : decode c_MD_joins 188 = .ok (.getfield 25, 3) := by decide +kernel
theorem d_MD_joins_191 : decode c_MD_joins 191 = .ok (.aload_n 0, 1) := by decide +kernel
theorem d_MD_joins_192 : decode c_MD_joins 192 = .ok (.getfield 53, 3) := by decide +kernel
theorem d_MD_joins_195 : decode c_MD_joins 195 = .ok (.iload 6, 2) := by decide +kernel
theorem d_MD_joins_197 : decode c_MD_joins 197 = .ok (.iastore, 1) := by decide +kernel
theorem d_MD_joins_198 : decode c_MD_joins 198 = .ok (.aload_n 0, 1) := by decide +kernel
theorem d_MD_joins_199 : decode c_MD_joins 199 = .ok (.dup, 1) := by decide +kernel
theorem d_MD_joins_200 : decode c_MD_joins 200 = .ok (.getfield 53, 3) := by decide +kernel
theorem d_MD_joins_203 : decode c_MD_joins 203 = .ok (.iconst 1, 1) := by decide +kernel
theorem d_MD_joins_204 : decode c_MD_joins 204 = .ok (.iadd, 1) := by decide +kernel
theorem d_MD_joins_205 : decode c_MD_joins 205 = .ok (.putfield 53, 3) := by decide +kernel
theorem d_MD_joins_208 : decode c_MD_joins 208 = .ok (.iconst 1, 1) := by decide +kernel
theorem d_MD_joins_209 : decode c_MD_joins 209 = .ok (.ireturn, 1) := by decide +kernel
theorem d_MD_list_0 : decode c_MD_list 0 = .ok (.aload_n 0, 1) := by decide +kernel
theorem d_MD_list_1 : decode c_MD_list 1 = .ok (.iconst 0, 1) := by decide +kernel
theorem d_MD_list_2 : decode c_MD_list 2 = .ok (.putfield 50, 3) := by decide +kernel
theorem d_MD_list_5 : decode c_MD_list 5 = .ok (.iload_n 1, 1) := by decide +kernel
theorem d_MD_list_6 : decode c_MD_list 6 = .ok (.ifCond .lt 18, 3) := by decide +kernel
theorem d_MD_list_9 : decode c_MD_list 9 = .ok (.aload_n 0, 1) := by decide +kernel
theorem d_MD_list_10 : decode c_MD_list 10 = .ok (.iload_n 1, 1) := by decide +kernel
theorem d_MD_list_11 : decode c_MD_list 11 = .ok (.iconst 4, 1) := by decide +kernel
theorem d_MD_list_12 : decode c_MD_list 12 = .ok (.lconst 0, 1) := by decide +kernel
theorem d_MD_list_13 : decode c_MD_list 13 = .ok (.iload_n 1, 1) := by decide +kernel
theorem d_MD_list_14 : decode c_MD_list 14 = .ok (.invokevirtual 88, 3) := by decide +kernel
theorem d_MD_list_17 : decode c_MD_list 17 = .ok (.ifCond .eq 7, 3) := by decide +kernel
theorem d_MD_list_20 : decode c_MD_list 20 = .ok (.iconst 1, 1) := by decide +kernel
theorem d_MD_list_21 : decode c_MD_list 21 = .ok (.goto 4, 3) := by decide +kernel
theorem d_MD_list_24 : decode c_MD_list 24 = .ok (.iconst 0, 1) := by decide +kernel
theorem d_MD_list_25 : decode c_MD_list 25 = .ok (.ireturn, 1) := by decide +kernel
theorem d_MD_map_0 : decode c_MD_map 0 = .ok (.aload_n 0, 1) := by decide +kernel
theorem d_MD_map_1 : decode c_MD_map 1 = .ok (.iconst 0, 1) := by decide +kernel
theorem d_MD_map_2 : decode c_MD_map 2 = .ok (.putfield 50, 3) := by decide +kernel
theorem d_MD_map_5 : decode c_MD_map 5 = .ok (.iload_n 1, 1) := by decide +kernel
theorem d_MD_map_6 : decode c_MD_map 6 = .ok (.ifCond .lt 26, 3) := by decide +kernel
theorem d_MD_map_9 : decode c_MD_map 9 = .ok (.iload_n 1, 1) := by decide +kernel
theorem d_MD_map_10 : decode c_MD_map 10 = .ok (.bipush 16, 2) := by decide +kernel
theorem d_MD_map_12 : decode c_MD_map 12 = .ok (.if_icmp .gt 20, 3) := by decide +kernel
theorem d_MD_map_15 : decode c_MD_map 15 = .ok (.aload_n 0, 1) := by decide +kernel
theorem d_MD_map_16 : decode c_MD_map 16 = .ok (.iconst 2, 1) := by decide +kernel
theorem d_MD_map_17 : decode c_MD_map 17 = .ok (.iload_n 1, 1) := by decide +kernel
theorem d_MD_map_18 : decode c_MD_map 18 = .ok (.imul, 1) := by decide +kernel
theorem d_MD_map_19 : decode c_MD_map 19 = .ok (.iconst 5, 1) := by decide +kernel
theorem d_MD_map_20 : decode c_MD_map 20 = .ok (.lconst 0, 1) := by decide +kernel
theorem d_MD_map_21 : decode c_MD_map 21 = .ok (.iload_n 1, 1) := by decide +kernel
theorem d_MD_map_22 : decode c_MD_map 22 = .ok (.invokevirtual 88, 3) := by decide +kernel
theorem d_MD_map_25 : decode c_MD_map 25 = .ok (.ifCond .eq 7, 3) := by decide +kernel
theorem d_MD_map_28 : decode c_MD_map 28 = .ok (.iconst 1, 1) := by decide +kernel
theorem d_MD_map_29 : decode c_MD_map 29 = .ok (.goto 4, 3) := by decide +kernel
theorem d_MD_map_32 : decode c_MD_map 32 = .ok (.iconst 0, 1) := by decide +kernel
theorem d_MD_map_33 : decode c_MD_map 33 = .ok (.ireturn, 1) := by decide +kernel
theorem d_MD_constructor_0 : decode c_MD_constructor 0 = .ok (.aload_n 0, 1) := by decide +kernel
theorem d_MD_constructor_1 : decode c_MD_constructor 1 = .ok (.iconst 0, 1) := by decide +kernel
theorem d_MD_constructor_2 : decode c_MD_constructor 2 = .ok (.putfield 50, 3) := by decide +kernel
theorem d_MD_constructor_5 : decode c_MD_constructor 5 = .ok (.iload_n 2, 1) := by decide +kernel
theorem d_MD_constructor_6 : decode c_MD_constructor 6 = .ok (.ifCond .lt 30, 3) := by decide +kernel
theorem d_MD_constructor_9 : decode c_MD_constructor 9 = .ok (.iload_n 1, 1) := by decide +kernel
theorem d_MD_constructor_10 : decode c_MD_constructor 10 = .ok (.ifCond .lt 26, 3) := by decide +kernel
theorem d_MD_constructor_13 : decode c_MD_constructor 13 = .ok (.iload_n 1, 1) := by decide +kernel
theorem d_MD_constructor_14 : decode c_MD_constructor 14 = .ok (.bipush 127, 2) := by decide +kernel
theorem d_MD_constructor_16 : decode c_MD_constructor 16 = .ok (.if_icmp .gt 20, 3) := by decide +kernel
theorem d_MD_constructor_19 : decode c_MD_constructor 19 = .ok (.aload_n 0, 1) := by decide +kernel
theorem d_MD_constructor_20 : decode c_MD_constructor 20 = .ok (.iload_n 2, 1) := by decide +kernel
theorem d_MD_constructor_21 : decode c_MD_constructor 21 = .ok (.bipush 6, 2) := by decide +kernel
theorem d_MD_constructor_23 : decode c_MD_constructor 23 = .ok (.iload_n 1, 1) := by decide +kernel
theorem d_MD_constructor_24 : decode c_MD_constructor 24 = .ok (.i2l, 1) := by decide +kernel
theorem d_MD_constructor_25 : decode c_MD_constructor 25 = .ok (.iload_n 2, 1) := by decide +kernel
theorem d_MD_constructor_26 : decode c_MD_constructor 26 = .ok (.invokevirtual 88, 3) := by decide +kernel
theorem d_MD_constructor_29 : decode c_MD_constructor 29 = .ok (.ifCond .eq 7, 3) := by decide +kernel
theorem d_MD_constructor_32 : decode c_MD_constructor 32 = .ok (.iconst 1, 1) := by decide +kernel
theorem d_MD_constructor_33 : decode c_MD_constructor 33 = .ok (.goto 4, 3) := by decide +kernel
theorem d_MD_constructor_36 : decode c_MD_constructor 36 = .ok (.iconst 0, 1) := by decide +kernel
theorem d_MD_constructor_37 : decode c_MD_constructor 37 = .ok (.ireturn, 1) := by decide +kernel
theorem d_MD_isItem_0 : decode c_MD_isItem 0 = .ok (.iload_n 1, 1) := by decide +kernel
theorem d_MD_isItem_1 : decode c_MD_isItem 1 = .ok (.ifCond .lt 15, 3) := by decide +kernel
theorem d_MD_isItem_4 : decode c_MD_isItem 4 = .ok (.iload_n 1, 1) := by decide +kernel
theorem d_MD_isItem_5 : decode c_MD_isItem 5 = .ok (.aload_n 0, 1) := by decide +kernel
theorem d_MD_isItem_6 : decode c_MD_isItem 6 = .ok (.getfield 53, 3) := by decide +kernel
theorem d_MD_isItem_9 : decode c_MD_isItem 9 = .ok (.if_icmp .ge 7, 3) := by decide +kernel
theorem d_MD_isItem_12 : decode c_MD_isItem 12 = .ok (.iconst 1, 1) := by decide +kernel
theorem d_MD_isItem_13 : decode c_MD_isItem 13 = .ok (.goto 4, 3) := by decide +kernel
theorem d_MD_isItem_16 : decode c_MD_isItem 16 = .ok (.iconst 0, 1) := by decide +kernel
theorem d_MD_isItem_17 : decode c_MD_isItem 17 = .ok (.ireturn, 1) := by decide +kernel
theorem d_MD_beginFromTop_0 : decode c_MD_beginFromTop 0 = .ok (.aload_n 0, 1) := by decide +kernel
theorem d_MD_beginFromTop_1 : decode c_MD_beginFromTop 1 = .ok (.getfield 25, 3) := by decide +kernel
theorem d_MD_beginFromTop_4 : decode c_MD_beginFromTop 4 = .ok (.aload_n 0, 1) := by decide +kernel
theorem d_MD_beginFromTop_5 : decode c_MD_beginFromTop 5 = .ok (.getfield 53, 3) := by decide +kernel
theorem d_MD_beginFromTop_8 : decode c_MD_beginFromTop 8 = .ok (.iconst 1, 1) := by decide +kernel
theorem d_MD_beginFromTop_9 : decode c_MD_beginFromTop 9 = .ok (.isub, 1) := by decide +kernel
theorem d_MD_beginFromTop_10 : decode c_MD_beginFromTop 10 = .ok (.iload_n 1, 1) := by decide +kernel
theorem d_MD_beginFromTop_11 : decode c_MD_beginFromTop 11 = .ok (.isub, 1) := by decide +kernel
theorem d_MD_beginFromTop_12 : decode c_MD_beginFromTop 12 = .ok (.iaload, 1) := by decide +kernel
theorem d_MD_beginFromTop_13 : decode c_MD_beginFromTop 13 = .ok (.ireturn, 1) := by decide +kernel
theorem d_MD_copy_0 : decode c_MD_copy 0 = .ok (.aload_n 0, 1) := by decide +kernel
theorem d_MD_copy_1 : decode c_MD_copy 1 = .ok (.iconst 0, 1) := by decide +kernel
theorem d_MD_copy_2 : decode c_MD_copy 2 = .ok (.putfield 50, 3) := by decide +kernel
theorem d_MD_copy_5 : decode c_MD_copy 5 = .ok (.aload_n 0, 1) := by decide +kernel
theorem d_MD_copy_6 : decode c_MD_copy 6 = .ok (.iload_n 1, 1) := by decide +kernel
theorem d_MD_copy_7 : decode c_MD_copy 7 = .ok (.invokevirtual 92, 3) := by decide +kernel
theorem d_MD_copy_10 : decode c_MD_copy 10 = .ok (.ifCond .ne 5, 3) := by decide +kernel
theorem d_MD_copy_13 : decode c_MD_copy 13 = .ok (.iconst 0, 1) := by decide +kernel
theorem d_MD_copy_14 : decode c_MD_copy 14 = .ok (.ireturn, 1) := by decide +kernel
theorem d_MD_copy_15 : decode c_MD_copy 15 = .ok (.aload_n 0, 1) := by decide +kernel
theorem d_MD_copy_16 : decode c_MD_copy 16 = .ok (.iload_n 1, 1) := by decide +kernel
theorem d_MD_copy_17 : decode c_MD_copy 17 = .ok (.invokevirtual 95, 3) := by decide +kernel
theorem d_MD_copy_20 : decode c_MD_copy 20 = .ok (.istore_n 2, 1) := by decide +kernel
theorem d_MD_copy_21 : decode c_MD_copy 21 = .ok (.aload_n 0, 1) := by decide +kernel
theorem d_MD_copy_22 : decode c_MD_copy 22 = .ok (.iload_n 2, 1) := by decide +kernel
theorem d_MD_copy_23 : decode c_MD_copy 23 = .ok (.invokevirtual 63, 3) := by decide +kernel
theorem d_MD_copy_26 : decode c_MD_copy 26 = .ok (.istore_n 3, 1) := by decide +kernel
theorem d_MD_copy_27 : decode c_MD_copy 27 = .ok (.aload_n 0, 1) := by decide +kernel
theorem d_MD_copy_28 : decode c_MD_copy 28 = .ok (.iload_n 3, 1) := by decide +kernel
theorem d_MD_copy_29 : decode c_MD_copy 29 = .ok (.invokevirtual 66, 3) := by decide +kernel
theorem d_MD_copy_32 : decode c_MD_copy 32 = .ok (.ifCond .ne 5, 3) := by decide +kernel
theorem d_MD_copy_35 : decode c_MD_copy 35 = .ok (.iconst 0, 1) := by decide +kernel
theorem d_MD_copy_36 : decode c_MD_copy 36 = .ok (.ireturn, 1) := by decide +kernel
theorem d_MD_copy_37 : decode c_MD_copy 37 = .ok (.aload_n 0, 1) := by decide +kernel
theorem d_MD_copy_38 : decode c_MD_copy 38 = .ok (.getfield 25, 3) := by decide +kernel
theorem d_MD_copy_41 : decode c_MD_copy 41 = .ok (.aload_n 0, 1) := by decide +kernel
theorem d_MD_copy_42 : decode c_MD_copy 42 = .ok (.getfield 53, 3) := by decide +kernel
theorem d_MD_copy_45 : decode c_MD_copy 45 = .ok (.aload_n 0, 1) := by decide +kernel
theorem d_MD_copy_46 : decode c_MD_copy 46 = .ok (.getfield 56, 3) := by decide +kernel
theorem d_MD_copy_49 : decode c_MD_copy 49 = .ok (.iastore, 1) := by decide +kernel
theorem d_MD_copy_50 : decode c_MD_copy 50 = .ok (.aload_n 0, 1) := by decide +kernel
theorem d_MD_copy_51 : decode c_MD_copy 51 = .ok (.dup, 1) := by decide +kernel
theorem d_MD_copy_52 : decode c_MD_copy 52 = .ok (.getfield 53, 3) := by decide +kernel
theorem d_MD_copy_55 : decode c_MD_copy 55 = .ok (.iconst 1, 1) := by decide +kernel
theorem d_MD_copy_56 : decode c_MD_copy 56 = .ok (.iadd, 1) := by decide +kernel
theorem d_MD_copy_57 : decode c_MD_copy 57 = .ok (.putfield 53, 3) := by decide +kernel
theorem d_MD_copy_60 : decode c_MD_copy 60 = .ok (.iconst 0, 1) := by decide +kernel
theorem d_MD_copy_61 : decode c_MD_copy 61 = .ok (.istore 4, 2) := by decide +kernel
theorem d_MD_copy_63 : decode c_MD_copy 63 = .ok (.iload 4, 2) := by decide +kernel
theorem d_MD_copy_65 : decode c_MD_copy 65 = .ok (.iload_n 3, 1) := by decide +kernel
theorem d_MD_copy_66 : decode c_MD_copy 66 = .ok (.if_icmp .ge 31, 3) := by decide +kernel
theorem d_MD_copy_69 : decode c_MD_copy 69 = .ok (.aload_n 0, 1) := by decide +kernel
theorem d_MD_copy_70 : decode c_MD_copy 70 = .ok (.iload_n 2, 1) := by decide +kernel
theorem d_MD_copy_71 : decode c_MD_copy 71 = .ok (.iload 4, 2) := by decide +kernel
theorem d_MD_copy_73 : decode c_MD_copy 73 = .ok (.iadd, 1) := by decide +kernel
theorem d_MD_copy_74 : decode c_MD_copy 74 = .ok (.aload_n 0, 1) := by decide +kernel
theorem d_MD_copy_75 : decode c_MD_copy 75 = .ok (.getfield 56, 3) := by decide +kernel
theorem d_MD_copy_78 : decode c_MD_copy 78 = .ok (.invokevirtual 84, 3) := by decide +kernel
theorem d_MD_copy_81 : decode c_MD_copy 81 = .ok (.aload_n 0, 1) := by decide +kernel
theorem d_MD_copy_82 : decode c_MD_copy 82 = .ok (.dup, 1) := by decide +kernel
theorem d_MD_copy_83 : decode c_MD_copy 83 = .ok (.getfield 56, 3) := by decide +kernel
theorem d_MD_copy_86 : decode c_MD_copy 86 = .ok (.iconst 1, 1) := by decide +kernel
theorem d_MD_copy_87 : decode c_MD_copy 87 = .ok (.iadd, 1) := by decide +kernel
theorem d_MD_copy_88 : decode c_MD_copy 88 = .ok (.putfield 56, 3) := by decide +kernel
theorem d_MD_copy_91 : decode c_MD_copy 91 = .ok (.iinc 4 1, 3) := by decide +kernel
theorem d_MD_copy_94 : decode c_MD_copy 94 = .ok (.goto (-31), 3) := by decide +kernel
theorem d_MD_copy_97 : decode c_MD_copy 97 = .ok (.iconst 1, 1) := by decide +kernel
theorem d_MD_copy_98 : decode c_MD_copy 98 = .ok (.ireturn, 1) := by decide +kernel
theorem d_MD_drop_0 : decode c_MD_drop 0 = .ok (.aload_n 0, 1) := by decide +kernel
theorem d_MD_drop_1 : decode c_MD_drop 1 = .ok (.iconst 0, 1) := by decide +kernel
theorem d_MD_drop_2 : decode c_MD_drop 2 = .ok (.putfield 50, 3) := by decide +kernel
theorem d_MD_drop_5 : decode c_MD_drop 5 = .ok (.aload_n 0, 1) := by decide +kernel
theorem d_MD_drop_6 : decode c_MD_drop 6 = .ok (.getfield 53, 3) := by decide +kernel
theorem d_MD_drop_9 : decode c_MD_drop 9 = .ok (.ifCond .ne 5, 3) := by decide +kernel
theorem d_MD_drop_12 : decode c_MD_drop 12 = .ok (.iconst 0, 1) := by decide +kernel
theorem d_MD_drop_13 : decode c_MD_drop 13 = .ok (.ireturn, 1) := by decide +kernel
theorem d_MD_drop_14 : decode c_MD_drop 14 = .ok (.aload_n 0, 1) := by decide +kernel
theorem d_MD_drop_15 : decode c_MD_drop 15 = .ok (.dup, 1) := by decide +kernel
theorem d_MD_drop_16 : decode c_MD_drop 16 = .ok (.getfield 53, 3) := by decide +kernel
theorem d_MD_drop_19 : decode c_MD_drop 19 = .ok (.iconst 1, 1) := by decide +kernel
theorem d_MD_drop_20 : decode c_MD_drop 20 = .ok (.isub, 1) := by decide +kernel
theorem d_MD_drop_21 : decode c_MD_drop 21 = .ok (.putfield 53, 3) := by decide +kernel
theorem d_MD_drop_24 : decode c_MD_drop 24 = .ok (.aload_n 0, 1) := by decide +kernel
theorem d_MD_drop_25 : decode c_MD_drop 25 = .ok (.aload_n 0, 1) := by decide +kernel
theorem d_MD_drop_26 : decode c_MD_drop 26 = .ok (.getfield 25, 3) := by decide +kernel
theorem d_MD_drop_29 : decode c_MD_drop 29 = .ok (.aload_n 0, 1) := by decide +kernel
theorem d_MD_drop_30 : decode c_MD_drop 30 = .ok (.getfield 53, 3) := by decide +kernel
theorem d_MD_drop_33 : decode c_MD_drop 33 = .ok (.iaload, 1) := by decide +kernel
theorem d_MD_drop_34 : decode c_MD_drop 34 = .ok (.putfield 56, 3) := by decide +kernel
theorem d_MD_drop_37 : decode c_MD_drop 37 = .ok (.iconst 1, 1) := by decide +kernel
theorem d_MD_drop_38 : decode c_MD_drop 38 = .ok (.ireturn, 1) := by decide +kernel
theorem d_MD_open_0 : decode c_MD_open 0 = .ok (.aload_n 0, 1) := by decide +kernel
theorem d_MD_open_1 : decode c_MD_open 1 = .ok (.iconst 0, 1) := by decide +kernel
theorem d_MD_open_2 : decode c_MD_open 2 = .ok (.putfield 50, 3) := by decide +kernel
theorem d_MD_open_5 : decode c_MD_open 5 = .ok (.aload_n 0, 1) := by decide +kernel
theorem d_MD_open_6 : decode c_MD_open 6 = .ok (.getfield 53, 3) := by decide +kernel
theorem d_MD_open_9 : decode c_MD_open 9 = .ok (.ifCond .ne 7, 3) := by decide +kernel
theorem d_MD_open_12 : decode c_MD_open 12 = .ok (.iconst 0, 1) := by decide +kernel
theorem d_MD_open_13 : decode c_MD_open 13 = .ok (.goto 14, 3) := by decide +kernel
theorem d_MD_open_16 : decode c_MD_open 16 = .ok (.aload_n 0, 1) := by decide +kernel
theorem d_MD_open_17 : decode c_MD_open 17 = .ok (.getfield 25, 3) := by decide +kernel
theorem d_MD_open_20 : decode c_MD_open 20 = .ok (.aload_n 0, 1) := by decide +kernel
theorem d_MD_open_21 : decode c_MD_open 21 = .ok (.getfield 53, 3) := by decide +kernel
theorem d_MD_open_24 : decode c_MD_open 24 = .ok (.iconst 1, 1) := by decide +kernel
theorem d_MD_open_25 : decode c_MD_open 25 = .ok (.isub, 1) := by decide +kernel
theorem d_MD_open_26 : decode c_MD_open 26 = .ok (.iaload, 1) := by decide +kernel
theorem d_MD_open_27 : decode c_MD_open 27 = .ok (.istore_n 1, 1) := by decide +kernel
theorem d_MD_open_28 : decode c_MD_open 28 = .ok (.aload_n 0, 1) := by decide +kernel
theorem d_MD_open_29 : decode c_MD_open 29 = .ok (.getfield 53, 3) := by decide +kernel
theorem d_MD_open_32 : decode c_MD_open 32 = .ok (.ifCond .eq 30, 3) := by decide +kernel
theorem d_MD_open_35 : decode c_MD_open 35 = .ok (.aload_n 0, 1) := by decide +kernel
theorem d_MD_open_36 : decode c_MD_open 36 = .ok (.getfield 7, 3) := by decide +kernel
theorem d_MD_open_39 : decode c_MD_open 39 = .ok (.iload_n 1, 1) := by decide +kernel
theorem d_MD_open_40 : decode c_MD_open 40 = .ok (.iaload, 1) := by decide +kernel
theorem d_MD_open_41 : decode c_MD_open 41 = .ok (.iconst 4, 1) := by decide +kernel
theorem d_MD_open_42 : decode c_MD_open 42 = .ok (.if_icmp .lt 20, 3) := by decide +kernel
theorem d_MD_open_45 : decode c_MD_open 45 = .ok (.aload_n 0, 1) := by decide +kernel
theorem d_MD_open_46 : decode c_MD_open 46 = .ok (.getfield 53, 3) := by decide +kernel
theorem d_MD_open_49 : decode c_MD_open 49 = .ok (.iconst 1, 1) := by decide +kernel
theorem d_MD_open_50 : decode c_MD_open 50 = .ok (.isub, 1) := by decide +kernel
theorem d_MD_open_51 : decode c_MD_open 51 = .ok (.aload_n 0, 1) := by decide +kernel
theorem d_MD_open_52 : decode c_MD_open 52 = .ok (.iload_n 1, 1) := by decide +kernel
theorem d_MD_open_53 : decode c_MD_open 53 = .ok (.invokevirtual 59, 3) := by decide +kernel
theorem d_MD_open_56 : decode c_MD_open 56 = .ok (.iadd, 1) := by decide +kernel
theorem d_MD_open_57 : decode c_MD_open 57 = .ok (.bipush 16, 2) := by decide +kernel
theorem d_MD_open_59 : decode c_MD_open 59 = .ok (.if_icmp .le 5, 3) := by decide +kernel
theorem d_MD_open_62 : decode c_MD_open 62 = .ok (.iconst (-1), 1) := by decide +kernel
theorem d_MD_open_63 : decode c_MD_open 63 = .ok (.ireturn, 1) := by decide +kernel
theorem d_MD_open_64 : decode c_MD_open 64 = .ok (.aload_n 0, 1) := by decide +kernel
theorem d_MD_open_65 : decode c_MD_open 65 = .ok (.iload_n 1, 1) := by decide +kernel
theorem d_MD_open_66 : decode c_MD_open 66 = .ok (.invokevirtual 59, 3) := by decide +kernel
theorem d_MD_open_69 : decode c_MD_open 69 = .ok (.istore_n 2, 1) := by decide +kernel
theorem d_MD_open_70 : decode c_MD_open 70 = .ok (.aload_n 0, 1) := by decide +kernel
theorem d_MD_open_71 : decode c_MD_open 71 = .ok (.dup, 1) := by decide +kernel
theorem d_MD_open_72 : decode c_MD_open 72 = .ok (.getfield 53, 3) := by decide +kernel
theorem d_MD_open_75 : decode c_MD_open 75 = .ok (.iconst 1, 1) := by decide +kernel
theorem d_MD_open_76 : decode c_MD_open 76 = .ok (.isub, 1) := by decide +kernel
theorem d_MD_open_77 : decode c_MD_open 77 = .ok (.putfield 53, 3) := by decide +kernel
theorem d_MD_open_80 : decode c_MD_open 80 = .ok (.iload_n 1, 1) := by decide +kernel
theorem d_MD_open_81 : decode c_MD_open 81 = .ok (.istore_n 3, 1) := by decide +kernel
theorem d_MD_open_82 : decode c_MD_open 82 = .ok (.iload_n 3, 1) := by decide +kernel
theorem d_MD_open_83 : decode c_MD_open 83 = .ok (.iconst 1, 1) := by decide +kernel
theorem d_MD_open_84 : decode c_MD_open 84 = .ok (.iadd, 1) := by decide +kernel
theorem d_MD_open_85 : decode c_MD_open 85 = .ok (.aload_n 0, 1) := by decide +kernel
theorem d_MD_open_86 : decode c_MD_open 86 = .ok (.getfield 56, 3) := by decide +kernel
theorem d_MD_open_89 : decode c_MD_open 89 = .ok (.if_icmp .ge 17, 3) := by decide +kernel
theorem d_MD_open_92 : decode c_MD_open 92 = .ok (.aload_n 0, 1) := by decide +kernel
theorem d_MD_open_93 : decode c_MD_open 93 = .ok (.iload_n 3, 1) := by decide +kernel
theorem d_MD_open_94 : decode c_MD_open 94 = .ok (.iconst 1, 1) := by decide +kernel
theorem d_MD_open_95 : decode c_MD_open 95 = .ok (.iadd, 1) := by decide +kernel
theorem d_MD_open_96 : decode c_MD_open 96 = .ok (.iload_n 3, 1) := by decide +kernel
theorem d_MD_open_97 : decode c_MD_open 97 = .ok (.invokevirtual 84, 3) := by decide +kernel
theorem d_MD_open_100 : decode c_MD_open 100 = .ok (.iinc 3 1, 3) := by decide +kernel
theorem d_MD_open_103 : decode c_MD_open 103 = .ok (.goto (-21), 3) := by decide +kernel
theorem d_MD_open_106 : decode c_MD_open 106 = .ok (.aload_n 0, 1) := by decide +kernel
theorem d_MD_open_107 : decode c_MD_open 107 = .ok (.dup, 1) := by decide +kernel
theorem d_MD_open_108 : decode c_MD_open 108 = .ok (.getfield 56, 3) := by decide +kernel
theorem d_MD_open_111 : decode c_MD_open 111 = .ok (.iconst 1, 1) := by decide +kernel
theorem d_MD_open_112 : decode c_MD_open 112 = .ok (.isub, 1) := by decide +kernel
theorem d_MD_open_113 : decode c_MD_open 113 = .ok (.putfield 56, 3) := by decide +kernel
theorem d_MD_open_116 : decode c_MD_open 116 = .ok (.iload_n 1, 1) := by decide +kernel
theorem d_MD_open_117 : decode c_MD_open 117 = .ok (.istore_n 3, 1) := by decide +kernel
theorem d_MD_open_118 : decode c_MD_open 118 = .ok (.iconst 0, 1) := by decide +kernel
theorem d_MD_open_119 : decode c_MD_open 119 = .ok (.istore 4, 2) := by decide +kernel
theorem d_MD_open_121 : decode c_MD_open 121 = .ok (.iload 4, 2) := by decide +kernel
theorem d_MD_open_123 : decode c_MD_open 123 = .ok (.iload_n 2, 1) := by decide +kernel
theorem d_MD_open_124 : decode c_MD_open 124 = .ok (.if_icmp .ge 37, 3) := by decide +kernel
theorem d_MD_open_127 : decode c_MD_open 127 = .ok (.aload_n 0, 1) := by decide +kernel
theorem d_MD_open_128 : decode c_MD_open 128 = .ok (.getfield 25, 3) := by decide +kernel
theorem d_MD_open_131 : decode c_MD_open 131 = .ok (.aload_n 0, 1) := by decide +kernel
theorem d_MD_open_132 : decode c_MD_open 132 = .ok (.getfield 53, 3) := by decide +kernel
theorem d_MD_open_135 : decode c_MD_open 135 = .ok (.iload_n 3, 1) := by decide +kernel
theorem d_MD_open_136 : decode c_MD_open 136 = .ok (.iastore, 1) := by decide +kernel
theorem d_MD_open_137 : decode c_MD_open 137 = .ok (.aload_n 0, 1) := by decide +kernel
theorem d_MD_open_138 : decode c_MD_open 138 = .ok (.dup, 1) := by decide +kernel
theorem d_MD_open_139 : decode c_MD_open 139 = .ok (.getfield 53, 3) := by decide +kernel
theorem d_MD_open_142 : decode c_MD_open 142 = .ok (.iconst 1, 1) := by decide +kernel
theorem d_MD_open_143 : decode c_MD_open 143 = .ok (.iadd, 1) := by decide +kernel
theorem d_MD_open_144 : decode c_MD_open 144 = .ok (.putfield 53, 3) := by decide +kernel
theorem d_MD_open_147 : decode c_MD_open 147 = .ok (.iload_n 3, 1) := by decide +kernel
theorem d_MD_open_148 : decode c_MD_open 148 = .ok (.aload_n 0, 1) := by decide +kernel
theorem d_MD_open_149 : decode c_MD_open 149 = .ok (.iload_n 3, 1) := by decide +kernel
theorem d_MD_open_150 : decode c_MD_open 150 = .ok (.invokevirtual 63, 3) := by decide +kernel
theorem d_MD_open_153 : decode c_MD_open 153 = .ok (.iadd, 1) := by decide +kernel
theorem d_MD_open_154 : decode c_MD_open 154 = .ok (.istore_n 3, 1) := by decide +kernel
theorem d_MD_open_155 : decode c_MD_open 155 = .ok (.iinc 4 1, 3) := by decide +kernel
theorem d_MD_open_158 : decode c_MD_open 158 = .ok (.goto (-37), 3) := by decide +kernel
theorem d_MD_open_161 : decode c_MD_open 161 = .ok (.iload_n 2, 1) := by decide +kernel
theorem d_MD_open_162 : decode c_MD_open 162 = .ok (.ireturn, 1) := by decide +kernel
theorem d_MD_layHead_0 : decode c_MD_layHead 0 = .ok (.lload_n 3, 1) := by decide +kernel
theorem d_MD_layHead_1 : decode c_MD_layHead 1 = .ok (.lconst 0, 1) := by decide +kernel
theorem d_MD_layHead_2 : decode c_MD_layHead 2 = .ok (.lcmp, 1) := by decide +kernel
theorem d_MD_layHead_3 : decode c_MD_layHead 3 = .ok (.ifCond .lt 11, 3) := by decide +kernel
theorem d_MD_layHead_6 : decode c_MD_layHead 6 = .ok (.lload_n 3, 1) := by decide +kernel
theorem d_MD_layHead_7 : decode c_MD_layHead 7 = .ok (.ldc2_w 98, 3) := by decide +kernel
theorem d_MD_layHead_10 : decode c_MD_layHead 10 = .ok (.lcmp, 1) := by decide +kernel
theorem d_MD_layHead_11 : decode c_MD_layHead 11 = .ok (.ifCond .le 8, 3) := by decide +kernel
theorem d_MD_layHead_14 : decode c_MD_layHead 14 = .ok (.bipush 8, 2) := by decide +kernel
theorem d_MD_layHead_16 : decode c_MD_layHead 16 = .ok (.goto 40, 3) := by decide +kernel
theorem d_MD_layHead_19 : decode c_MD_layHead 19 = .ok (.lload_n 3, 1) := by decide +kernel
theorem d_MD_layHead_20 : decode c_MD_layHead 20 = .ok (.ldc2_w 100, 3) := by decide +kernel
theorem d_MD_layHead_23 : decode c_MD_layHead 23 = .ok (.lcmp, 1) := by decide +kernel
theorem d_MD_layHead_24 : decode c_MD_layHead 24 = .ok (.ifCond .le 7, 3) := by decide +kernel
theorem d_MD_layHead_27 : decode c_MD_layHead 27 = .ok (.iconst 4, 1) := by decide +kernel
theorem d_MD_layHead_28 : decode c_MD_layHead 28 = .ok (.goto 28, 3) := by decide +kernel
theorem d_MD_layHead_31 : decode c_MD_layHead 31 = .ok (.lload_n 3, 1) := by decide +kernel
theorem d_MD_layHead_32 : decode c_MD_layHead 32 = .ok (.ldc2_w 102, 3) := by decide +kernel
theorem d_MD_layHead_35 : decode c_MD_layHead 35 = .ok (.lcmp, 1) := by decide +kernel
theorem d_MD_layHead_36 : decode c_MD_layHead 36 = .ok (.ifCond .le 7, 3) := by decide +kernel
theorem d_MD_layHead_39 : decode c_MD_layHead 39 = .ok (.iconst 2, 1) := by decide +kernel
theorem d_MD_layHead_40 : decode c_MD_layHead 40 = .ok (.goto 16, 3) := by decide +kernel
theorem d_MD_layHead_43 : decode c_MD_layHead 43 = .ok (.lload_n 3, 1) := by decide +kernel
theorem d_MD_layHead_44 : decode c_MD_layHead 44 = .ok (.ldc2_w 104, 3) := by decide +kernel
theorem d_MD_layHead_47 : decode c_MD_layHead 47 = .ok (.lcmp, 1) := by decide +kernel
theorem d_MD_layHead_48 : decode c_MD_layHead 48 = .ok (.ifCond .le 7, 3) := by decide +kernel
theorem d_MD_layHead_51 : decode c_MD_layHead 51 = .ok (.iconst 1, 1) := by decide +kernel
theorem d_MD_layHead_52 : decode c_MD_layHead 52 = .ok (.goto 4, 3) := by decide +kernel
theorem d_MD_layHead_55 : decode c_MD_layHead 55 = .ok (.iconst 0, 1) := by decide +kernel
theorem d_MD_layHead_56 : decode c_MD_layHead 56 = .ok (.istore 5, 2) := by decide +kernel
theorem d_MD_layHead_58 : decode c_MD_layHead 58 = .ok (.iload 5, 2) := by decide +kernel
theorem d_MD_layHead_60 : decode c_MD_layHead 60 = .ok (.ifCond .ne 8, 3) := by decide +kernel
theorem d_MD_layHead_63 : decode c_MD_layHead 63 = .ok (.lload_n 3, 1) := by decide +kernel
theorem d_MD_layHead_64 : decode c_MD_layHead 64 = .ok (.l2i, 1) := by decide +kernel
theorem d_MD_layHead_65 : decode c_MD_layHead 65 = .ok (.goto 38, 3) := by decide +kernel
theorem d_MD_layHead_68 : decode c_MD_layHead 68 = .ok (.iload 5, 2) := by decide +kernel
theorem d_MD_layHead_70 : decode c_MD_layHead 70 = .ok (.iconst 1, 1) := by decide +kernel
theorem d_MD_layHead_71 : decode c_MD_layHead 71 = .ok (.if_icmp .ne 8, 3) := by decide +kernel
theorem d_MD_layHead_74 : decode c_MD_layHead 74 = .ok (.bipush 24, 2) := by decide +kernel
theorem d_MD_layHead_76 : decode c_MD_layHead 76 = .ok (.goto 27, 3) := by decide +kernel
theorem d_MD_layHead_79 : decode c_MD_layHead 79 = .ok (.iload 5, 2) := by decide +kernel
theorem d_MD_layHead_81 : decode c_MD_layHead 81 = .ok (.iconst 2, 1) := by decide +kernel
theorem d_MD_layHead_82 : decode c_MD_layHead 82 = .ok (.if_icmp .ne 8, 3) := by decide +kernel
theorem d_MD_layHead_85 : decode c_MD_layHead 85 = .ok (.bipush 25, 2) := by decide +kernel
theorem d_MD_layHead_87 : decode c_MD_layHead 87 = .ok (.goto 16, 3) := by decide +kernel
theorem d_MD_layHead_90 : decode c_MD_layHead 90 = .ok (.iload 5, 2) := by decide +kernel
theorem d_MD_layHead_92 : decode c_MD_layHead 92 = .ok (.iconst 4, 1) := by decide +kernel
theorem d_MD_layHead_93 : decode c_MD_layHead 93 = .ok (.if_icmp .ne 8, 3) := by decide +kernel
theorem d_MD_layHead_96 : decode c_MD_layHead 96 = .ok (.bipush 26, 2) := by decide +kernel
theorem d_MD_layHead_98 : decode c_MD_layHead 98 = .ok (.goto 5, 3) := by decide +kernel
theorem d_MD_layHead_101 : decode c_MD_layHead 101 = .ok (.bipush 27, 2) := by decide +kernel
theorem d_MD_layHead_103 : decode c_MD_layHead 103 = .ok (.istore 6, 2) := by decide +kernel
theorem d_MD_layHead_105 : decode c_MD_layHead 105 = .ok (.aload_n 1, 1) := by decide +kernel
theorem d_MD_layHead_106 : decode c_MD_layHead 106 = .ok (.aload_n 0, 1) := by decide +kernel
theorem d_MD_layHead_107 : decode c_MD_layHead 107 = .ok (.getfield 106, 3) := by decide +kernel
theorem d_MD_layHead_110 : decode c_MD_layHead 110 = .ok (.bipush 32, 2) := by decide +kernel
theorem d_MD_layHead_112 : decode c_MD_layHead 112 = .ok (.iload_n 2, 1) := by decide +kernel
theorem d_MD_layHead_113 : decode c_MD_layHead 113 = .ok (.imul, 1) := by decide +kernel
theorem d_MD_layHead_114 : decode c_MD_layHead 114 = .ok (.iload 6, 2) := by decide +kernel
theorem d_MD_layHead_116 : decode c_MD_layHead 116 = .ok (.iadd, 1) := by decide +kernel
theorem d_MD_layHead_117 : decode c_MD_layHead 117 = .ok (.i2b, 1) := by decide +kernel
theorem d_MD_layHead_118 : decode c_MD_layHead 118 = .ok (.bastore, 1) := by decide +kernel
theorem d_MD_layHead_119 : decode c_MD_layHead 119 = .ok (.aload_n 0, 1) := by decide +kernel
theorem d_MD_layHead_120 : decode c_MD_layHead 120 = .ok (.dup, 1) := by decide +kernel
theorem d_MD_layHead_121 : decode c_MD_layHead 121 = .ok (.getfield 106, 3) := by decide +kernel
theorem d_MD_layHead_124 : decode c_MD_layHead 124 = .ok (.iconst 1, 1) := by decide +kernel
theorem d_MD_layHead_125 : decode c_MD_layHead 125 = .ok (.iadd, 1) := by decide +kernel
theorem d_MD_layHead_126 : decode c_MD_layHead 126 = .ok (.putfield 106, 3) := by decide +kernel
theorem d_MD_layHead_129 : decode c_MD_layHead 129 = .ok (.iload 5, 2) := by decide +kernel
theorem d_MD_layHead_131 : decode c_MD_layHead 131 = .ok (.iconst 1, 1) := by decide +kernel
theorem d_MD_layHead_132 : decode c_MD_layHead 132 = .ok (.isub, 1) := by decide +kernel
theorem d_MD_layHead_133 : decode c_MD_layHead 133 = .ok (.istore 7, 2) := by decide +kernel
theorem d_MD_layHead_135 : decode c_MD_layHead 135 = .ok (.iload 7, 2) := by decide +kernel
theorem d_MD_layHead_137 : decode c_MD_layHead 137 = .ok (.ifCond .lt 34, 3) := by decide +kernel
theorem d_MD_layHead_140 : decode c_MD_layHead 140 = .ok (.aload_n 1, 1) := by decide +kernel
theorem d_MD_layHead_141 : decode c_MD_layHead 141 = .ok (.aload_n 0, 1) := by decide +kernel
theorem d_MD_layHead_142 : decode c_MD_layHead 142 = .ok (.getfield 106, 3) := by decide +kernel
theorem d_MD_layHead_145 : decode c_MD_layHead 145 = .ok (.lload_n 3, 1) := by decide +kernel
theorem d_MD_layHead_146 : decode c_MD_layHead 146 = .ok (.bipush 8, 2) := by decide +kernel
theorem d_MD_layHead_148 : decode c_MD_layHead 148 = .ok (.iload 7, 2) := by decide +kernel
theorem d_MD_layHead_150 : decode c_MD_layHead 150 = .ok (.imul, 1) := by decide +kernel
theorem d_MD_layHead_151 : decode c_MD_layHead 151 = .ok (.lshr, 1) := by decide +kernel
theorem d_MD_layHead_152 : decode c_MD_layHead 152 = .ok (.l2i, 1) := by decide +kernel
theorem d_MD_layHead_153 : decode c_MD_layHead 153 = .ok (.i2b, 1) := by decide +kernel
theorem d_MD_layHead_154 : decode c_MD_layHead 154 = .ok (.bastore, 1) := by decide +kernel
theorem d_MD_layHead_155 : decode c_MD_layHead 155 = .ok (.aload_n 0, 1) := by decide +kernel
theorem d_MD_layHead_156 : decode c_MD_layHead 156 = .ok (.dup, 1) := by decide +kernel
theorem d_MD_layHead_157 : decode c_MD_layHead 157 = .ok (.getfield 106, 3) := by decide +kernel
theorem d_MD_layHead_160 : decode c_MD_layHead 160 = .ok (.iconst 1, 1) := by decide +kernel
theorem d_MD_layHead_161 : decode c_MD_layHead 161 = .ok (.iadd, 1) := by decide +kernel
theorem d_MD_layHead_162 : decode c_MD_layHead 162 = .ok (.putfield 106, 3) := by decide +kernel
theorem d_MD_layHead_165 : decode c_MD_layHead 165 = .ok (.iinc 7 (-1), 3) := by decide +kernel
theorem d_MD_layHead_168 : decode c_MD_layHead 168 = .ok (.goto (-33), 3) := by decide +kernel
theorem d_MD_layHead_171 : decode c_MD_layHead 171 = .ok (.return_, 1) := by decide +kernel
theorem d_MD_lay_0 : decode c_MD_lay 0 = .ok (.aload_n 0, 1) := by decide +kernel
theorem d_MD_lay_1 : decode c_MD_lay 1 = .ok (.iconst 0, 1) := by decide +kernel
theorem d_MD_lay_2 : decode c_MD_lay 2 = .ok (.putfield 106, 3) := by decide +kernel
theorem d_MD_lay_5 : decode c_MD_lay 5 = .ok (.aload_n 0, 1) := by decide +kernel
theorem d_MD_lay_6 : decode c_MD_lay 6 = .ok (.iload_n 2, 1) := by decide +kernel
theorem d_MD_lay_7 : decode c_MD_lay 7 = .ok (.invokevirtual 95, 3) := by decide +kernel
theorem d_MD_lay_10 : decode c_MD_lay 10 = .ok (.istore_n 3, 1) := by decide +kernel
theorem d_MD_lay_11 : decode c_MD_lay 11 = .ok (.aload_n 0, 1) := by decide +kernel
theorem d_MD_lay_12 : decode c_MD_lay 12 = .ok (.iload_n 3, 1) := by decide +kernel
theorem d_MD_lay_13 : decode c_MD_lay 13 = .ok (.invokevirtual 63, 3) := by decide +kernel
theorem d_MD_lay_16 : decode c_MD_lay 16 = .ok (.istore 4, 2) := by decide +kernel
theorem d_MD_lay_18 : decode c_MD_lay 18 = .ok (.iload_n 3, 1) := by decide +kernel
theorem d_MD_lay_19 : decode c_MD_lay 19 = .ok (.istore 5, 2) := by decide +kernel
theorem d_MD_lay_21 : decode c_MD_lay 21 = .ok (.iload 5, 2) := by decide +kernel
theorem d_MD_lay_23 : decode c_MD_lay 23 = .ok (.iload_n 3, 1) := by decide +kernel
theorem d_MD_lay_24 : decode c_MD_lay 24 = .ok (.iload 4, 2) := by decide +kernel
theorem d_MD_lay_26 : decode c_MD_lay 26 = .ok (.iadd, 1) := by decide +kernel
theorem d_MD_lay_27 : decode c_MD_lay 27 = .ok (.if_icmp .ge 233, 3) := by decide +kernel
theorem d_MD_lay_30 : decode c_MD_lay 30 = .ok (.aload_n 0, 1) := by decide +kernel
theorem d_MD_lay_31 : decode c_MD_lay 31 = .ok (.getfield 7, 3) := by decide +kernel
theorem d_MD_lay_34 : decode c_MD_lay 34 = .ok (.iload 5, 2) := by decide +kernel
theorem d_MD_lay_36 : decode c_MD_lay 36 = .ok (.iaload, 1) := by decide +kernel
theorem d_MD_lay_37 : decode c_MD_lay 37 = .ok (.ifCond .ne 61, 3) := by decide +kernel
theorem d_MD_lay_40 : decode c_MD_lay 40 = .ok (.aload_n 0, 1) := by decide +kernel
theorem d_MD_lay_41 : decode c_MD_lay 41 = .ok (.aload_n 1, 1) := by decide +kernel
theorem d_MD_lay_42 : decode c_MD_lay 42 = .ok (.aload_n 0, 1) := by decide +kernel
theorem d_MD_lay_43 : decode c_MD_lay 43 = .ok (.getfield 13, 3) := by decide +kernel
theorem d_MD_lay_46 : decode c_MD_lay 46 = .ok (.iload 5, 2) := by decide +kernel
theorem d_MD_lay_48 : decode c_MD_lay 48 = .ok (.laload, 1) := by decide +kernel
theorem d_MD_lay_49 : decode c_MD_lay 49 = .ok (.lconst 0, 1) := by decide +kernel
theorem d_MD_lay_50 : decode c_MD_lay 50 = .ok (.lcmp, 1) := by decide +kernel
theorem d_MD_lay_51 : decode c_MD_lay 51 = .ok (.ifCond .ge 7, 3) := by decide +kernel
theorem d_MD_lay_54 : decode c_MD_lay 54 = .ok (.iconst 1, 1) := by decide +kernel
theorem d_MD_lay_55 : decode c_MD_lay 55 = .ok (.goto 4, 3) := by decide +kernel
theorem d_MD_lay_58 : decode c_MD_lay 58 = .ok (.iconst 0, 1) := by decide +kernel
theorem d_MD_lay_59 : decode c_MD_lay 59 = .ok (.aload_n 0, 1) := by decide +kernel
theorem d_MD_lay_60 : decode c_MD_lay 60 = .ok (.getfield 13, 3) := by decide +kernel
theorem d_MD_lay_63 : decode c_MD_lay 63 = .ok (.iload 5, 2) := by decide +kernel
theorem d_MD_lay_65 : decode c_MD_lay 65 = .ok (.laload, 1) := by decide +kernel
theorem d_MD_lay_66 : decode c_MD_lay 66 = .ok (.lconst 0, 1) := by decide +kernel
theorem d_MD_lay_67 : decode c_MD_lay 67 = .ok (.lcmp, 1) := by decide +kernel
theorem d_MD_lay_68 : decode c_MD_lay 68 = .ok (.ifCond .ge 17, 3) := by decide +kernel
theorem d_MD_lay_71 : decode c_MD_lay 71 = .ok (.ldc2_w 109, 3) := by decide +kernel
theorem d_MD_lay_74 : decode c_MD_lay 74 = .ok (.aload_n 0, 1) := by decide +kernel
theorem d_MD_lay_75 : decode c_MD_lay 75 = .ok (.getfield 13, 3) := by decide +kernel
theorem d_MD_lay_78 : decode c_MD_lay 78 = .ok (.iload 5, 2) := by decide +kernel
theorem d_MD_lay_80 : decode c_MD_lay 80 = .ok (.laload, 1) := by decide +kernel
theorem d_MD_lay_81 : decode c_MD_lay 81 = .ok (.lsub, 1) := by decide +kernel
theorem d_MD_lay_82 : decode c_MD_lay 82 = .ok (.goto 10, 3) := by decide +kernel
theorem d_MD_lay_85 : decode c_MD_lay 85 = .ok (.aload_n 0, 1) := by decide +kernel
theorem d_MD_lay_86 : decode c_MD_lay 86 = .ok (.getfield 13, 3) := by decide +kernel
theorem d_MD_lay_89 : decode c_MD_lay 89 = .ok (.iload 5, 2) := by decide +kernel
theorem d_MD_lay_91 : decode c_MD_lay 91 = .ok (.laload, 1) := by decide +kernel
theorem d_MD_lay_92 : decode c_MD_lay 92 = .ok (.invokevirtual 111, 3) := by decide +kernel
theorem d_MD_lay_95 : decode c_MD_lay 95 = .ok (.goto 98, 3) := by decide +kernel
theorem d_MD_lay_98 : decode c_MD_lay 98 = .ok (.aload_n 0, 1) := by decide +kernel
theorem d_MD_lay_99 : decode c_MD_lay 99 = .ok (.getfield 7, 3) := by decide +kernel
theorem d_MD_lay_102 : decode c_MD_lay 102 = .ok (.iload 5, 2) := by decide +kernel
theorem d_MD_lay_104 : decode c_MD_lay 104 = .ok (.iaload, 1) := by decide +kernel
theorem d_MD_lay_105 : decode c_MD_lay 105 = .ok (.bipush 6, 2) := by decide +kernel
theorem d_MD_lay_107 : decode c_MD_lay 107 = .ok (.if_icmp .ne 66, 3) := by decide +kernel
theorem d_MD_lay_110 : decode c_MD_lay 110 = .ok (.aload_n 0, 1) := by decide +kernel
theorem d_MD_lay_111 : decode c_MD_lay 111 = .ok (.aload_n 1, 1) := by decide +kernel
theorem d_MD_lay_112 : decode c_MD_lay 112 = .ok (.bipush 6, 2) := by decide +kernel
theorem d_MD_lay_114 : decode c_MD_lay 114 = .ok (.aload_n 0, 1) := by decide +kernel
theorem d_MD_lay_115 : decode c_MD_lay 115 = .ok (.getfield 13, 3) := by decide +kernel
theorem d_MD_lay_118 : decode c_MD_lay 118 = .ok (.iload 5, 2) := by decide +kernel
theorem d_MD_lay_120 : decode c_MD_lay 120 = .ok (.laload, 1) := by decide +kernel
theorem d_MD_lay_121 : decode c_MD_lay 121 = .ok (.ldc2_w 115, 3) := by decide +kernel
theorem d_MD_lay_124 : decode c_MD_lay 124 = .ok (.lcmp, 1) := by decide +kernel
theorem d_MD_lay_125 : decode c_MD_lay 125 = .ok (.ifCond .ge 17, 3) := by decide +kernel
theorem d_MD_lay_128 : decode c_MD_lay 128 = .ok (.ldc2_w 117, 3) := by decide +kernel
theorem d_MD_lay_131 : decode c_MD_lay 131 = .ok (.aload_n 0, 1) := by decide +kernel
theorem d_MD_lay_132 : decode c_MD_lay 132 = .ok (.getfield 13, 3) := by decide +kernel
theorem d_MD_lay_135 : decode c_MD_lay 135 = .ok (.iload 5, 2) := by decide +kernel
theorem d_MD_lay_137 : decode c_MD_lay 137 = .ok (.laload, 1) := by decide +kernel
theorem d_MD_lay_138 : decode c_MD_lay 138 = .ok (.ladd, 1) := by decide +kernel
theorem d_MD_lay_139 : decode c_MD_lay 139 = .ok (.goto 14, 3) := by decide +kernel
theorem d_MD_lay_142 : decode c_MD_lay 142 = .ok (.ldc2_w 119, 3) := by decide +kernel
theorem d_MD_lay_145 : decode c_MD_lay 145 = .ok (.aload_n 0, 1) := by decide +kernel
theorem d_MD_lay_146 : decode c_MD_lay 146 = .ok (.getfield 13, 3) := by decide +kernel
theorem d_MD_lay_149 : decode c_MD_lay 149 = .ok (.iload 5, 2) := by decide +kernel
theorem d_MD_lay_151 : decode c_MD_lay 151 = .ok (.laload, 1) := by decide +kernel
theorem d_MD_lay_152 : decode c_MD_lay 152 = .ok (.ladd, 1) := by decide +kernel
theorem d_MD_lay_153 : decode c_MD_lay 153 = .ok (.invokevirtual 111, 3) := by decide +kernel
theorem d_MD_lay_156 : decode c_MD_lay 156 = .ok (.aload_n 0, 1) := by decide +kernel
theorem d_MD_lay_157 : decode c_MD_lay 157 = .ok (.aload_n 1, 1) := by decide +kernel
theorem d_MD_lay_158 : decode c_MD_lay 158 = .ok (.iconst 4, 1) := by decide +kernel
theorem d_MD_lay_159 : decode c_MD_lay 159 = .ok (.aload_n 0, 1) := by decide +kernel
theorem d_MD_lay_160 : decode c_MD_lay 160 = .ok (.getfield 17, 3) := by decide +kernel
theorem d_MD_lay_163 : decode c_MD_lay 163 = .ok (.iload 5, 2) := by decide +kernel
theorem d_MD_lay_165 : decode c_MD_lay 165 = .ok (.iaload, 1) := by decide +kernel
theorem d_MD_lay_166 : decode c_MD_lay 166 = .ok (.i2l, 1) := by decide +kernel
theorem d_MD_lay_167 : decode c_MD_lay 167 = .ok (.invokevirtual 111, 3) := by decide +kernel
theorem d_MD_lay_170 : decode c_MD_lay 170 = .ok (.goto 23, 3) := by decide +kernel
theorem d_MD_lay_173 : decode c_MD_lay 173 = .ok (.aload_n 0, 1) := by decide +kernel
theorem d_MD_lay_174 : decode c_MD_lay 174 = .ok (.aload_n 1, 1) := by decide +kernel
theorem d_MD_lay_175 : decode c_MD_lay 175 = .ok (.aload_n 0, 1) := by decide +kernel
theorem d_MD_lay_176 : decode c_MD_lay 176 = .ok (.getfield 7, 3) := by decide +kernel
theorem d_MD_lay_179 : decode c_MD_lay 179 = .ok (.iload 5, 2) := by decide +kernel
theorem d_MD_lay_181 : decode c_MD_lay 181 = .ok (.iaload, 1) := by decide +kernel
theorem d_MD_lay_182 : decode c_MD_lay 182 = .ok (.aload_n 0, 1) := by decide +kernel
theorem d_MD_lay_183 : decode c_MD_lay 183 = .ok (.getfield 17, 3) := by decide +kernel
theorem d_MD_lay_186 : decode c_MD_lay 186 = .ok (.iload 5, 2) := by decide +kernel
theorem d_MD_lay_188 : decode c_MD_lay 188 = .ok (.iaload, 1) := by decide +kernel
theorem d_MD_lay_189 : decode c_MD_lay 189 = .ok (.i2l, 1) := by decide +kernel
theorem d_MD_lay_190 : decode c_MD_lay 190 = .ok (.invokevirtual 111, 3) := by decide +kernel
theorem d_MD_lay_193 : decode c_MD_lay 193 = .ok (.iconst 0, 1) := by decide +kernel
theorem d_MD_lay_194 : decode c_MD_lay 194 = .ok (.istore 6, 2) := by decide +kernel
theorem d_MD_lay_196 : decode c_MD_lay 196 = .ok (.iload 6, 2) := by decide +kernel
theorem d_MD_lay_198 : decode c_MD_lay 198 = .ok (.aload_n 0, 1) := by decide +kernel
theorem d_MD_lay_199 : decode c_MD_lay 199 = .ok (.getfield 17, 3) := by decide +kernel
theorem d_MD_lay_202 : decode c_MD_lay 202 = .ok (.iload 5, 2) := by decide +kernel
theorem d_MD_lay_204 : decode c_MD_lay 204 = .ok (.iaload, 1) := by decide +kernel
theorem d_MD_lay_205 : decode c_MD_lay 205 = .ok (.if_icmp .ge 49, 3) := by decide +kernel
theorem d_MD_lay_208 : decode c_MD_lay 208 = .ok (.aload_n 0, 1) := by decide +kernel
theorem d_MD_lay_209 : decode c_MD_lay 209 = .ok (.getfield 7, 3) := by decide +kernel
theorem d_MD_lay_212 : decode c_MD_lay 212 = .ok (.iload 5, 2) := by decide +kernel
theorem d_MD_lay_214 : decode c_MD_lay 214 = .ok (.iaload, 1) := by decide +kernel
theorem d_MD_lay_215 : decode c_MD_lay 215 = .ok (.iconst 2, 1) := by decide +kernel
theorem d_MD_lay_216 : decode c_MD_lay 216 = .ok (.if_icmp .ne 38, 3) := by decide +kernel
theorem d_MD_lay_219 : decode c_MD_lay 219 = .ok (.aload_n 1, 1) := by decide +kernel
theorem d_MD_lay_220 : decode c_MD_lay 220 = .ok (.aload_n 0, 1) := by decide +kernel
theorem d_MD_lay_221 : decode c_MD_lay 221 = .ok (.getfield 106, 3) := by decide +kernel
theorem d_MD_lay_224 : decode c_MD_lay 224 = .ok (.aload_n 0, 1) := by decide +kernel
theorem d_MD_lay_225 : decode c_MD_lay 225 = .ok (.getfield 21, 3) := by decide +kernel
theorem d_MD_lay_228 : decode c_MD_lay 228 = .ok (.bipush 64, 2) := by decide +kernel
theorem d_MD_lay_230 : decode c_MD_lay 230 = .ok (.iload 5, 2) := by decide +kernel
theorem d_MD_lay_232 : decode c_MD_lay 232 = .ok (.imul, 1) := by decide +kernel
theorem d_MD_lay_233 : decode c_MD_lay 233 = .ok (.iload 6, 2) := by decide +kernel
theorem d_MD_lay_235 : decode c_MD_lay 235 = .ok (.iadd, 1) := by decide +kernel
theorem d_MD_lay_236 : decode c_MD_lay 236 = .ok (.baload, 1) := by decide +kernel
theorem d_MD_lay_237 : decode c_MD_lay 237 = .ok (.bastore, 1) := by decide +kernel
theorem d_MD_lay_238 : decode c_MD_lay 238 = .ok (.aload_n 0, 1) := by decide +kernel
theorem d_MD_lay_239 : decode c_MD_lay 239 = .ok (.dup, 1) := by decide +kernel
theorem d_MD_lay_240 : decode c_MD_lay 240 = .ok (.getfield 106, 3) := by decide +kernel
theorem d_MD_lay_243 : decode c_MD_lay 243 = .ok (.iconst 1, 1) := by decide +kernel
theorem d_MD_lay_244 : decode c_MD_lay 244 = .ok (.iadd, 1) := by decide +kernel
theorem d_MD_lay_245 : decode c_MD_lay 245 = .ok (.putfield 106, 3) := by decide +kernel
theorem d_MD_lay_248 : decode c_MD_lay 248 = .ok (.iinc 6 1, 3) := by decide +kernel
theorem d_MD_lay_251 : decode c_MD_lay 251 = .ok (.goto (-55), 3) := by decide +kernel
theorem d_MD_lay_254 : decode c_MD_lay 254 = .ok (.iinc 5 1, 3) := by decide +kernel
theorem d_MD_lay_257 : decode c_MD_lay 257 = .ok (.goto (-236), 3) := by decide +kernel
theorem d_MD_lay_260 : decode c_MD_lay 260 = .ok (.return_, 1) := by decide +kernel
theorem d_MD_write_0 : decode c_MD_write 0 = .ok (.aload_n 0, 1) := by decide +kernel
theorem d_MD_write_1 : decode c_MD_write 1 = .ok (.iconst 0, 1) := by decide +kernel
theorem d_MD_write_2 : decode c_MD_write 2 = .ok (.putfield 50, 3) := by decide +kernel
theorem d_MD_write_5 : decode c_MD_write 5 = .ok (.aload_n 0, 1) := by decide +kernel
theorem d_MD_write_6 : decode c_MD_write 6 = .ok (.getfield 53, 3) := by decide +kernel
theorem d_MD_write_9 : decode c_MD_write 9 = .ok (.ifCond .ne 5, 3) := by decide +kernel
theorem d_MD_write_12 : decode c_MD_write 12 = .ok (.iconst (-1), 1) := by decide +kernel
theorem d_MD_write_13 : decode c_MD_write 13 = .ok (.ireturn, 1) := by decide +kernel
theorem d_MD_write_14 : decode c_MD_write 14 = .ok (.aload_n 0, 1) := by decide +kernel
theorem d_MD_write_15 : decode c_MD_write 15 = .ok (.aload_n 0, 1) := by decide +kernel
theorem d_MD_write_16 : decode c_MD_write 16 = .ok (.getfield 38, 3) := by decide +kernel
theorem d_MD_write_19 : decode c_MD_write 19 = .ok (.iconst 0, 1) := by decide +kernel
theorem d_MD_write_20 : decode c_MD_write 20 = .ok (.invokevirtual 121, 3) := by decide +kernel
theorem d_MD_write_23 : decode c_MD_write 23 = .ok (.aload_n 0, 1) := by decide +kernel
theorem d_MD_write_24 : decode c_MD_write 24 = .ok (.getfield 125, 3) := by decide +kernel
theorem d_MD_write_27 : decode c_MD_write 27 = .ok (.aload_n 0, 1) := by decide +kernel
theorem d_MD_write_28 : decode c_MD_write 28 = .ok (.getfield 106, 3) := by decide +kernel
theorem d_MD_write_31 : decode c_MD_write 31 = .ok (.iadd, 1) := by decide +kernel
theorem d_MD_write_32 : decode c_MD_write 32 = .ok (.sipush 4096, 3) := by decide +kernel
theorem d_MD_write_35 : decode c_MD_write 35 = .ok (.if_icmp .le 5, 3) := by decide +kernel
theorem d_MD_write_38 : decode c_MD_write 38 = .ok (.iconst (-1), 1) := by decide +kernel
theorem d_MD_write_39 : decode c_MD_write 39 = .ok (.ireturn, 1) := by decide +kernel
theorem d_MD_write_40 : decode c_MD_write 40 = .ok (.iconst 0, 1) := by decide +kernel
theorem d_MD_write_41 : decode c_MD_write 41 = .ok (.istore_n 1, 1) := by decide +kernel
theorem d_MD_write_42 : decode c_MD_write 42 = .ok (.iload_n 1, 1) := by decide +kernel
theorem d_MD_write_43 : decode c_MD_write 43 = .ok (.aload_n 0, 1) := by decide +kernel
theorem d_MD_write_44 : decode c_MD_write 44 = .ok (.getfield 106, 3) := by decide +kernel
theorem d_MD_write_47 : decode c_MD_write 47 = .ok (.if_icmp .ge 34, 3) := by decide +kernel
theorem d_MD_write_50 : decode c_MD_write 50 = .ok (.aload_n 0, 1) := by decide +kernel
theorem d_MD_write_51 : decode c_MD_write 51 = .ok (.getfield 28, 3) := by decide +kernel
theorem d_MD_write_54 : decode c_MD_write 54 = .ok (.aload_n 0, 1) := by decide +kernel
theorem d_MD_write_55 : decode c_MD_write 55 = .ok (.getfield 125, 3) := by decide +kernel
theorem d_MD_write_58 : decode c_MD_write 58 = .ok (.aload_n 0, 1) := by decide +kernel
theorem d_MD_write_59 : decode c_MD_write 59 = .ok (.getfield 38, 3) := by decide +kernel
theorem d_MD_write_62 : decode c_MD_write 62 = .ok (.iload_n 1, 1) := by decide +kernel
theorem d_MD_write_63 : decode c_MD_write 63 = .ok (.baload, 1) := by decide +kernel
theorem d_MD_write_64 : decode c_MD_write 64 = .ok (.bastore, 1) := by decide +kernel
theorem d_MD_write_65 : decode c_MD_write 65 = .ok (.aload_n 0, 1) := by decide +kernel
theorem d_MD_write_66 : decode c_MD_write 66 = .ok (.dup, 1) := by decide +kernel
theorem d_MD_write_67 : decode c_MD_write 67 = .ok (.getfield 125, 3) := by decide +kernel
theorem d_MD_write_70 : decode c_MD_write 70 = .ok (.iconst 1, 1) := by decide +kernel
theorem d_MD_write_71 : decode c_MD_write 71 = .ok (.iadd, 1) := by decide +kernel
theorem d_MD_write_72 : decode c_MD_write 72 = .ok (.putfield 125, 3) := by decide +kernel
theorem d_MD_write_75 : decode c_MD_write 75 = .ok (.iinc 1 1, 3) := by decide +kernel
theorem d_MD_write_78 : decode c_MD_write 78 = .ok (.goto (-36), 3) := by decide +kernel
theorem d_MD_write_81 : decode c_MD_write 81 = .ok (.aload_n 0, 1) := by decide +kernel
theorem d_MD_write_82 : decode c_MD_write 82 = .ok (.getfield 125, 3) := by decide +kernel
theorem d_MD_write_85 : decode c_MD_write 85 = .ok (.ireturn, 1) := by decide +kernel
theorem d_MD_clear_0 : decode c_MD_clear 0 = .ok (.aload_n 0, 1) := by decide +kernel
theorem d_MD_clear_1 : decode c_MD_clear 1 = .ok (.iconst 0, 1) := by decide +kernel
theorem d_MD_clear_2 : decode c_MD_clear 2 = .ok (.putfield 50, 3) := by decide +kernel
theorem d_MD_clear_5 : decode c_MD_clear 5 = .ok (.aload_n 0, 1) := by decide +kernel
theorem d_MD_clear_6 : decode c_MD_clear 6 = .ok (.iconst 0, 1) := by decide +kernel
theorem d_MD_clear_7 : decode c_MD_clear 7 = .ok (.putfield 125, 3) := by decide +kernel
theorem d_MD_clear_10 : decode c_MD_clear 10 = .ok (.return_, 1) := by decide +kernel
theorem d_MD_give_0 : decode c_MD_give 0 = .ok (.aload_n 0, 1) := by decide +kernel
theorem d_MD_give_1 : decode c_MD_give 1 = .ok (.iconst 0, 1) := by decide +kernel
theorem d_MD_give_2 : decode c_MD_give 2 = .ok (.putfield 50, 3) := by decide +kernel
theorem d_MD_give_5 : decode c_MD_give 5 = .ok (.iload_n 3, 1) := by decide +kernel
theorem d_MD_give_6 : decode c_MD_give 6 = .ok (.iconst 1, 1) := by decide +kernel
theorem d_MD_give_7 : decode c_MD_give 7 = .ok (.if_icmp .lt 21, 3) := by decide +kernel
theorem d_MD_give_10 : decode c_MD_give 10 = .ok (.iload_n 3, 1) := by decide +kernel
theorem d_MD_give_11 : decode c_MD_give 11 = .ok (.bipush 8, 2) := by decide +kernel
theorem d_MD_give_13 : decode c_MD_give 13 = .ok (.if_icmp .gt 15, 3) := by decide +kernel
theorem d_MD_give_16 : decode c_MD_give 16 = .ok (.aload_n 0, 1) := by decide +kernel
theorem d_MD_give_17 : decode c_MD_give 17 = .ok (.getfield 128, 3) := by decide +kernel
theorem d_MD_give_20 : decode c_MD_give 20 = .ok (.iload_n 3, 1) := by decide +kernel
theorem d_MD_give_21 : decode c_MD_give 21 = .ok (.iadd, 1) := by decide +kernel
theorem d_MD_give_22 : decode c_MD_give 22 = .ok (.sipush 4096, 3) := by decide +kernel
theorem d_MD_give_25 : decode c_MD_give 25 = .ok (.if_icmp .le 5, 3) := by decide +kernel
theorem d_MD_give_28 : decode c_MD_give 28 = .ok (.iconst 0, 1) := by decide +kernel
theorem d_MD_give_29 : decode c_MD_give 29 = .ok (.ireturn, 1) := by decide +kernel
theorem d_MD_give_30 : decode c_MD_give 30 = .ok (.iload_n 3, 1) := by decide +kernel
theorem d_MD_give_31 : decode c_MD_give 31 = .ok (.iconst 1, 1) := by decide +kernel
theorem d_MD_give_32 : decode c_MD_give 32 = .ok (.isub, 1) := by decide +kernel
theorem d_MD_give_33 : decode c_MD_give 33 = .ok (.istore 4, 2) := by decide +kernel
theorem d_MD_give_35 : decode c_MD_give 35 = .ok (.iload 4, 2) := by decide +kernel
theorem d_MD_give_37 : decode c_MD_give 37 = .ok (.ifCond .lt 37, 3) := by decide +kernel
theorem d_MD_give_40 : decode c_MD_give 40 = .ok (.aload_n 0, 1) := by decide +kernel
theorem d_MD_give_41 : decode c_MD_give 41 = .ok (.getfield 31, 3) := by decide +kernel
theorem d_MD_give_44 : decode c_MD_give 44 = .ok (.aload_n 0, 1) := by decide +kernel
theorem d_MD_give_45 : decode c_MD_give 45 = .ok (.getfield 128, 3) := by decide +kernel
theorem d_MD_give_48 : decode c_MD_give 48 = .ok (.lload_n 1, 1) := by decide +kernel
theorem d_MD_give_49 : decode c_MD_give 49 = .ok (.bipush 8, 2) := by decide +kernel
theorem d_MD_give_51 : decode c_MD_give 51 = .ok (.iload 4, 2) := by decide +kernel
theorem d_MD_give_53 : decode c_MD_give 53 = .ok (.imul, 1) := by decide +kernel
theorem d_MD_give_54 : decode c_MD_give 54 = .ok (.lshr, 1) := by decide +kernel
theorem d_MD_give_55 : decode c_MD_give 55 = .ok (.l2i, 1) := by decide +kernel
theorem d_MD_give_56 : decode c_MD_give 56 = .ok (.i2b, 1) := by decide +kernel
theorem d_MD_give_57 : decode c_MD_give 57 = .ok (.bastore, 1) := by decide +kernel
theorem d_MD_give_58 : decode c_MD_give 58 = .ok (.aload_n 0, 1) := by decide +kernel
theorem d_MD_give_59 : decode c_MD_give 59 = .ok (.dup, 1) := by decide +kernel
theorem d_MD_give_60 : decode c_MD_give 60 = .ok (.getfield 128, 3) := by decide +kernel
theorem d_MD_give_63 : decode c_MD_give 63 = .ok (.iconst 1, 1) := by decide +kernel
theorem d_MD_give_64 : decode c_MD_give 64 = .ok (.iadd, 1) := by decide +kernel
theorem d_MD_give_65 : decode c_MD_give 65 = .ok (.putfield 128, 3) := by decide +kernel
theorem d_MD_give_68 : decode c_MD_give 68 = .ok (.iinc 4 (-1), 3) := by decide +kernel
theorem d_MD_give_71 : decode c_MD_give 71 = .ok (.goto (-36), 3) := by decide +kernel
theorem d_MD_give_74 : decode c_MD_give 74 = .ok (.iconst 1, 1) := by decide +kernel
theorem d_MD_give_75 : decode c_MD_give 75 = .ok (.ireturn, 1) := by decide +kernel
theorem d_MD_cut_0 : decode c_MD_cut 0 = .ok (.aload_n 0, 1) := by decide +kernel
theorem d_MD_cut_1 : decode c_MD_cut 1 = .ok (.iconst 0, 1) := by decide +kernel
theorem d_MD_cut_2 : decode c_MD_cut 2 = .ok (.putfield 50, 3) := by decide +kernel
theorem d_MD_cut_5 : decode c_MD_cut 5 = .ok (.iload_n 1, 1) := by decide +kernel
theorem d_MD_cut_6 : decode c_MD_cut 6 = .ok (.ifCond .lt 11, 3) := by decide +kernel
theorem d_MD_cut_9 : decode c_MD_cut 9 = .ok (.iload_n 1, 1) := by decide +kernel
theorem d_MD_cut_10 : decode c_MD_cut 10 = .ok (.aload_n 0, 1) := by decide +kernel
theorem d_MD_cut_11 : decode c_MD_cut 11 = .ok (.getfield 128, 3) := by decide +kernel
theorem d_MD_cut_14 : decode c_MD_cut 14 = .ok (.if_icmp .le 5, 3) := by decide +kernel
theorem d_MD_cut_17 : decode c_MD_cut 17 = .ok (.iconst 0, 1) := by decide +kernel
theorem d_MD_cut_18 : decode c_MD_cut 18 = .ok (.ireturn, 1) := by decide +kernel
theorem d_MD_cut_19 : decode c_MD_cut 19 = .ok (.aload_n 0, 1) := by decide +kernel
theorem d_MD_cut_20 : decode c_MD_cut 20 = .ok (.iload_n 1, 1) := by decide +kernel
theorem d_MD_cut_21 : decode c_MD_cut 21 = .ok (.putfield 128, 3) := by decide +kernel
theorem d_MD_cut_24 : decode c_MD_cut 24 = .ok (.aload_n 0, 1) := by decide +kernel
theorem d_MD_cut_25 : decode c_MD_cut 25 = .ok (.iconst 0, 1) := by decide +kernel
theorem d_MD_cut_26 : decode c_MD_cut 26 = .ok (.putfield 131, 3) := by decide +kernel
theorem d_MD_cut_29 : decode c_MD_cut 29 = .ok (.iconst 1, 1) := by decide +kernel
theorem d_MD_cut_30 : decode c_MD_cut 30 = .ok (.ireturn, 1) := by decide +kernel
theorem d_MD_turn_0 : decode c_MD_turn 0 = .ok (.aload_n 0, 1) := by decide +kernel
theorem d_MD_turn_1 : decode c_MD_turn 1 = .ok (.iconst 0, 1) := by decide +kernel
theorem d_MD_turn_2 : decode c_MD_turn 2 = .ok (.putfield 50, 3) := by decide +kernel
theorem d_MD_turn_5 : decode c_MD_turn 5 = .ok (.aload_n 0, 1) := by decide +kernel
theorem d_MD_turn_6 : decode c_MD_turn 6 = .ok (.aload_n 0, 1) := by decide +kernel
theorem d_MD_turn_7 : decode c_MD_turn 7 = .ok (.getfield 125, 3) := by decide +kernel
theorem d_MD_turn_10 : decode c_MD_turn 10 = .ok (.putfield 128, 3) := by decide +kernel
theorem d_MD_turn_13 : decode c_MD_turn 13 = .ok (.aload_n 0, 1) := by decide +kernel
theorem d_MD_turn_14 : decode c_MD_turn 14 = .ok (.iconst 0, 1) := by decide +kernel
theorem d_MD_turn_15 : decode c_MD_turn 15 = .ok (.putfield 131, 3) := by decide +kernel
theorem d_MD_turn_18 : decode c_MD_turn 18 = .ok (.iconst 0, 1) := by decide +kernel
theorem d_MD_turn_19 : decode c_MD_turn 19 = .ok (.istore_n 1, 1) := by decide +kernel
theorem d_MD_turn_20 : decode c_MD_turn 20 = .ok (.iload_n 1, 1) := by decide +kernel
theorem d_MD_turn_21 : decode c_MD_turn 21 = .ok (.aload_n 0, 1) := by decide +kernel
theorem d_MD_turn_22 : decode c_MD_turn 22 = .ok (.getfield 125, 3) := by decide +kernel
theorem d_MD_turn_25 : decode c_MD_turn 25 = .ok (.if_icmp .ge 21, 3) := by decide +kernel
theorem d_MD_turn_28 : decode c_MD_turn 28 = .ok (.aload_n 0, 1) := by decide +kernel
theorem d_MD_turn_29 : decode c_MD_turn 29 = .ok (.getfield 31, 3) := by decide +kernel
theorem d_MD_turn_32 : decode c_MD_turn 32 = .ok (.iload_n 1, 1) := by decide +kernel
theorem d_MD_turn_33 : decode c_MD_turn 33 = .ok (.aload_n 0, 1) := by decide +kernel
theorem d_MD_turn_34 : decode c_MD_turn 34 = .ok (.getfield 28, 3) := by decide +kernel
theorem d_MD_turn_37 : decode c_MD_turn 37 = .ok (.iload_n 1, 1) := by decide +kernel
theorem d_MD_turn_38 : decode c_MD_turn 38 = .ok (.baload, 1) := by decide +kernel
theorem d_MD_turn_39 : decode c_MD_turn 39 = .ok (.bastore, 1) := by decide +kernel
theorem d_MD_turn_40 : decode c_MD_turn 40 = .ok (.iinc 1 1, 3) := by decide +kernel
theorem d_MD_turn_43 : decode c_MD_turn 43 = .ok (.goto (-23), 3) := by decide +kernel
theorem d_MD_turn_46 : decode c_MD_turn 46 = .ok (.return_, 1) := by decide +kernel
theorem d_MD_wrong_0 : decode c_MD_wrong 0 = .ok (.aload_n 0, 1) := by decide +kernel
theorem d_MD_wrong_1 : decode c_MD_wrong 1 = .ok (.getfield 134, 3) := by decide +kernel
theorem d_MD_wrong_4 : decode c_MD_wrong 4 = .ok (.ifCond .ne 13, 3) := by decide +kernel
theorem d_MD_wrong_7 : decode c_MD_wrong 7 = .ok (.aload_n 0, 1) := by decide +kernel
theorem d_MD_wrong_8 : decode c_MD_wrong 8 = .ok (.iload_n 1, 1) := by decide +kernel
theorem d_MD_wrong_9 : decode c_MD_wrong 9 = .ok (.putfield 134, 3) := by decide +kernel
theorem d_MD_wrong_12 : decode c_MD_wrong 12 = .ok (.aload_n 0, 1) := by decide +kernel
theorem d_MD_wrong_13 : decode c_MD_wrong 13 = .ok (.iload_n 2, 1) := by decide +kernel
theorem d_MD_wrong_14 : decode c_MD_wrong 14 = .ok (.putfield 137, 3) := by decide +kernel
theorem d_MD_wrong_17 : decode c_MD_wrong 17 = .ok (.iconst 0, 1) := by decide +kernel
theorem d_MD_wrong_18 : decode c_MD_wrong 18 = .ok (.ireturn, 1) := by decide +kernel
theorem d_MD_next_0 : decode c_MD_next 0 = .ok (.aload_n 0, 1) := by decide +kernel
theorem d_MD_next_1 : decode c_MD_next 1 = .ok (.getfield 134, 3) := by decide +kernel
theorem d_MD_next_4 : decode c_MD_next 4 = .ok (.ifCond .ne 24, 3) := by decide +kernel
theorem d_MD_next_7 : decode c_MD_next 7 = .ok (.aload_n 0, 1) := by decide +kernel
theorem d_MD_next_8 : decode c_MD_next 8 = .ok (.getfield 140, 3) := by decide +kernel
theorem d_MD_next_11 : decode c_MD_next 11 = .ok (.aload_n 0, 1) := by decide +kernel
theorem d_MD_next_12 : decode c_MD_next 12 = .ok (.getfield 128, 3) := by decide +kernel
theorem d_MD_next_15 : decode c_MD_next 15 = .ok (.if_icmp .ne 13, 3) := by decide +kernel
theorem d_MD_next_18 : decode c_MD_next 18 = .ok (.aload_n 0, 1) := by decide +kernel
theorem d_MD_next_19 : decode c_MD_next 19 = .ok (.iconst 1, 1) := by decide +kernel
theorem d_MD_next_20 : decode c_MD_next 20 = .ok (.aload_n 0, 1) := by decide +kernel
theorem d_MD_next_21 : decode c_MD_next 21 = .ok (.getfield 128, 3) := by decide +kernel
theorem d_MD_next_24 : decode c_MD_next 24 = .ok (.invokevirtual 143, 3) := by decide +kernel
theorem d_MD_next_27 : decode c_MD_next 27 = .ok (.ireturn, 1) := by decide +kernel
theorem d_MD_next_28 : decode c_MD_next 28 = .ok (.aload_n 0, 1) := by decide +kernel
theorem d_MD_next_29 : decode c_MD_next 29 = .ok (.getfield 134, 3) := by decide +kernel
theorem d_MD_next_32 : decode c_MD_next 32 = .ok (.ifCond .le 5, 3) := by decide +kernel
theorem d_MD_next_35 : decode c_MD_next 35 = .ok (.iconst 0, 1) := by decide +kernel
theorem d_MD_next_36 : decode c_MD_next 36 = .ok (.ireturn, 1) := by decide +kernel
theorem d_MD_next_37 : decode c_MD_next 37 = .ok (.aload_n 0, 1) := by decide +kernel
theorem d_MD_next_38 : decode c_MD_next 38 = .ok (.dup, 1) := by decide +kernel
theorem d_MD_next_39 : decode c_MD_next 39 = .ok (.getfield 140, 3) := by decide +kernel
theorem d_MD_next_42 : decode c_MD_next 42 = .ok (.iconst 1, 1) := by decide +kernel
theorem d_MD_next_43 : decode c_MD_next 43 = .ok (.iadd, 1) := by decide +kernel
theorem d_MD_next_44 : decode c_MD_next 44 = .ok (.putfield 140, 3) := by decide +kernel
theorem d_MD_next_47 : decode c_MD_next 47 = .ok (.aload_n 0, 1) := by decide +kernel
theorem d_MD_next_48 : decode c_MD_next 48 = .ok (.getfield 31, 3) := by decide +kernel
theorem d_MD_next_51 : decode c_MD_next 51 = .ok (.aload_n 0, 1) := by decide +kernel
theorem d_MD_next_52 : decode c_MD_next 52 = .ok (.getfield 140, 3) := by decide +kernel
theorem d_MD_next_55 : decode c_MD_next 55 = .ok (.iconst 1, 1) := by decide +kernel
theorem d_MD_next_56 : decode c_MD_next 56 = .ok (.isub, 1) := by decide +kernel
theorem d_MD_next_57 : decode c_MD_next 57 = .ok (.baload, 1) := by decide +kernel
theorem d_MD_next_58 : decode c_MD_next 58 = .ok (.sipush 255, 3) := by decide +kernel
theorem d_MD_next_61 : decode c_MD_next 61 = .ok (.iand, 1) := by decide +kernel
theorem d_MD_next_62 : decode c_MD_next 62 = .ok (.ireturn, 1) := by decide +kernel
theorem d_MD_head_0 : decode c_MD_head 0 = .ok (.aload_n 0, 1) := by decide +kernel
theorem d_MD_head_1 : decode c_MD_head 1 = .ok (.getfield 140, 3) := by decide +kernel
theorem d_MD_head_4 : decode c_MD_head 4 = .ok (.istore_n 2, 1) := by decide +kernel
theorem d_MD_head_5 : decode c_MD_head 5 = .ok (.aload_n 0, 1) := by decide +kernel
theorem d_MD_head_6 : decode c_MD_head 6 = .ok (.invokevirtual 147, 3) := by decide +kernel
theorem d_MD_head_9 : decode c_MD_head 9 = .ok (.istore_n 3, 1) := by decide +kernel
theorem d_MD_head_10 : decode c_MD_head 10 = .ok (.iload_n 3, 1) := by decide +kernel
theorem d_MD_head_11 : decode c_MD_head 11 = .ok (.bipush 32, 2) := by decide +kernel
theorem d_MD_head_13 : decode c_MD_head 13 = .ok (.idiv, 1) := by decide +kernel
theorem d_MD_head_14 : decode c_MD_head 14 = .ok (.istore 4, 2) := by decide +kernel
theorem d_MD_head_16 : decode c_MD_head 16 = .ok (.iload_n 3, 1) := by decide +kernel
theorem d_MD_head_17 : decode c_MD_head 17 = .ok (.bipush 32, 2) := by decide +kernel
theorem d_MD_head_19 : decode c_MD_head 19 = .ok (.irem, 1) := by decide +kernel
theorem d_MD_head_20 : decode c_MD_head 20 = .ok (.istore 5, 2) := by decide +kernel
theorem d_MD_head_22 : decode c_MD_head 22 = .ok (.aload_n 0, 1) := by decide +kernel
theorem d_MD_head_23 : decode c_MD_head 23 = .ok (.getfield 134, 3) := by decide +kernel
theorem d_MD_head_26 : decode c_MD_head 26 = .ok (.ifCond .ne 40, 3) := by decide +kernel
theorem d_MD_head_29 : decode c_MD_head 29 = .ok (.iload 5, 2) := by decide +kernel
theorem d_MD_head_31 : decode c_MD_head 31 = .ok (.bipush 27, 2) := by decide +kernel
theorem d_MD_head_33 : decode c_MD_head 33 = .ok (.if_icmp .gt 26, 3) := by decide +kernel
theorem d_MD_head_36 : decode c_MD_head 36 = .ok (.iload 4, 2) := by decide +kernel
theorem d_MD_head_38 : decode c_MD_head 38 = .ok (.iconst 3, 1) := by decide +kernel
theorem d_MD_head_39 : decode c_MD_head 39 = .ok (.if_icmp .eq 20, 3) := by decide +kernel
theorem d_MD_head_42 : decode c_MD_head 42 = .ok (.iload 4, 2) := by decide +kernel
theorem d_MD_head_44 : decode c_MD_head 44 = .ok (.bipush 7, 2) := by decide +kernel
theorem d_MD_head_46 : decode c_MD_head 46 = .ok (.if_icmp .eq 13, 3) := by decide +kernel
theorem d_MD_head_49 : decode c_MD_head 49 = .ok (.iload_n 1, 1) := by decide +kernel
theorem d_MD_head_50 : decode c_MD_head 50 = .ok (.ifCond .lt 16, 3) := by decide +kernel
theorem d_MD_head_53 : decode c_MD_head 53 = .ok (.iload 4, 2) := by decide +kernel
theorem d_MD_head_55 : decode c_MD_head 55 = .ok (.iload_n 1, 1) := by decide +kernel
theorem d_MD_head_56 : decode c_MD_head 56 = .ok (.if_icmp .eq 10, 3) := by decide +kernel
theorem d_MD_head_59 : decode c_MD_head 59 = .ok (.aload_n 0, 1) := by decide +kernel
theorem d_MD_head_60 : decode c_MD_head 60 = .ok (.iconst 3, 1) := by decide +kernel
theorem d_MD_head_61 : decode c_MD_head 61 = .ok (.iload_n 2, 1) := by decide +kernel
theorem d_MD_head_62 : decode c_MD_head 62 = .ok (.invokevirtual 143, 3) := by decide +kernel
theorem d_MD_head_65 : decode c_MD_head 65 = .ok (.ireturn, 1) := by decide +kernel
theorem d_MD_head_66 : decode c_MD_head 66 = .ok (.aload_n 0, 1) := by decide +kernel
theorem d_MD_head_67 : decode c_MD_head 67 = .ok (.iload 5, 2) := by decide +kernel
theorem d_MD_head_69 : decode c_MD_head 69 = .ok (.i2l, 1) := by decide +kernel
theorem d_MD_head_70 : decode c_MD_head 70 = .ok (.putfield 151, 3) := by decide +kernel
theorem d_MD_head_73 : decode c_MD_head 73 = .ok (.iload 5, 2) := by decide +kernel
theorem d_MD_head_75 : decode c_MD_head 75 = .ok (.bipush 23, 2) := by decide +kernel
theorem d_MD_head_77 : decode c_MD_head 77 = .ok (.if_icmp .le 124, 3) := by decide +kernel
theorem d_MD_head_80 : decode c_MD_head 80 = .ok (.aload_n 0, 1) := by decide +kernel
theorem d_MD_head_81 : decode c_MD_head 81 = .ok (.lconst 0, 1) := by decide +kernel
theorem d_MD_head_82 : decode c_MD_head 82 = .ok (.putfield 151, 3) := by decide +kernel
theorem d_MD_head_85 : decode c_MD_head 85 = .ok (.iconst 0, 1) := by decide +kernel
theorem d_MD_head_86 : decode c_MD_head 86 = .ok (.istore 6, 2) := by decide +kernel
theorem d_MD_head_88 : decode c_MD_head 88 = .ok (.iload 6, 2) := by decide +kernel
theorem d_MD_head_90 : decode c_MD_head 90 = .ok (.iconst 1, 1) := by decide +kernel
theorem d_MD_head_91 : decode c_MD_head 91 = .ok (.iload 5, 2) := by decide +kernel
theorem d_MD_head_93 : decode c_MD_head 93 = .ok (.bipush 24, 2) := by decide +kernel
theorem d_MD_head_95 : decode c_MD_head 95 = .ok (.isub, 1) := by decide +kernel
theorem d_MD_head_96 : decode c_MD_head 96 = .ok (.ishl, 1) := by decide +kernel
theorem d_MD_head_97 : decode c_MD_head 97 = .ok (.if_icmp .ge 27, 3) := by decide +kernel
theorem d_MD_head_100 : decode c_MD_head 100 = .ok (.aload_n 0, 1) := by decide +kernel
theorem d_MD_head_101 : decode c_MD_head 101 = .ok (.aload_n 0, 1) := by decide +kernel
theorem d_MD_head_102 : decode c_MD_head 102 = .ok (.getfield 151, 3) := by decide +kernel
theorem d_MD_head_105 : decode c_MD_head 105 = .ok (.ldc2_w 155, 3) := by decide +kernel
theorem d_MD_head_108 : decode c_MD_head 108 = .ok (.lmul, 1) := by decide +kernel
theorem d_MD_head_109 : decode c_MD_head 109 = .ok (.aload_n 0, 1) := by decide +kernel
theorem d_MD_head_110 : decode c_MD_head 110 = .ok (.invokevirtual 147, 3) := by decide +kernel
theorem d_MD_head_113 : decode c_MD_head 113 = .ok (.i2l, 1) := by decide +kernel
theorem d_MD_head_114 : decode c_MD_head 114 = .ok (.ladd, 1) := by decide +kernel
theorem d_MD_head_115 : decode c_MD_head 115 = .ok (.putfield 151, 3) := by decide +kernel
theorem d_MD_head_118 : decode c_MD_head 118 = .ok (.iinc 6 1, 3) := by decide +kernel
theorem d_MD_head_121 : decode c_MD_head 121 = .ok (.goto (-33), 3) := by decide +kernel
theorem d_MD_head_124 : decode c_MD_head 124 = .ok (.iload 5, 2) := by decide +kernel
theorem d_MD_head_126 : decode c_MD_head 126 = .ok (.bipush 24, 2) := by decide +kernel
theorem d_MD_head_128 : decode c_MD_head 128 = .ok (.if_icmp .ne 9, 3) := by decide +kernel
theorem d_MD_head_131 : decode c_MD_head 131 = .ok (.ldc2_w 157, 3) := by decide +kernel
theorem d_MD_head_134 : decode c_MD_head 134 = .ok (.goto 32, 3) := by decide +kernel
theorem d_MD_head_137 : decode c_MD_head 137 = .ok (.iload 5, 2) := by decide +kernel
theorem d_MD_head_139 : decode c_MD_head 139 = .ok (.bipush 25, 2) := by decide +kernel
theorem d_MD_head_141 : decode c_MD_head 141 = .ok (.if_icmp .ne 9, 3) := by decide +kernel
theorem d_MD_head_144 : decode c_MD_head 144 = .ok (.ldc2_w 155, 3) := by decide +kernel
theorem d_MD_head_147 : decode c_MD_head 147 = .ok (.goto 19, 3) := by decide +kernel
theorem d_MD_head_150 : decode c_MD_head 150 = .ok (.iload 5, 2) := by decide +kernel
theorem d_MD_head_152 : decode c_MD_head 152 = .ok (.bipush 26, 2) := by decide +kernel
theorem d_MD_head_154 : decode c_MD_head 154 = .ok (.if_icmp .ne 9, 3) := by decide +kernel
theorem d_MD_head_157 : decode c_MD_head 157 = .ok (.ldc2_w 159, 3) := by decide +kernel
theorem d_MD_head_160 : decode c_MD_head 160 = .ok (.goto 6, 3) := by decide +kernel
theorem d_MD_head_163 : decode c_MD_head 163 = .ok (.ldc2_w 161, 3) := by decide +kernel
theorem d_MD_head_166 : decode c_MD_head 166 = .ok (.lstore 6, 2) := by decide +kernel
theorem d_MD_head_168 : decode c_MD_head 168 = .ok (.aload_n 0, 1) := by decide +kernel
theorem d_MD_head_169 : decode c_MD_head 169 = .ok (.getfield 134, 3) := by decide +kernel
theorem d_MD_head_172 : decode c_MD_head 172 = .ok (.ifCond .ne 29, 3) := by decide +kernel
theorem d_MD_head_175 : decode c_MD_head 175 = .ok (.aload_n 0, 1) := by decide +kernel
theorem d_MD_head_176 : decode c_MD_head 176 = .ok (.getfield 151, 3) := by decide +kernel
theorem d_MD_head_179 : decode c_MD_head 179 = .ok (.lconst 0, 1) := by decide +kernel
theorem d_MD_head_180 : decode c_MD_head 180 = .ok (.lcmp, 1) := by decide +kernel
theorem d_MD_head_181 : decode c_MD_head 181 = .ok (.ifCond .lt 20, 3) := by decide +kernel
theorem d_MD_head_184 : decode c_MD_head 184 = .ok (.aload_n 0, 1) := by decide +kernel
theorem d_MD_head_185 : decode c_MD_head 185 = .ok (.getfield 151, 3) := by decide +kernel
theorem d_MD_head_188 : decode c_MD_head 188 = .ok (.lload 6, 2) := by decide +kernel
theorem d_MD_head_190 : decode c_MD_head 190 = .ok (.lcmp, 1) := by decide +kernel
theorem d_MD_head_191 : decode c_MD_head 191 = .ok (.ifCond .ge 10, 3) := by decide +kernel
theorem d_MD_head_194 : decode c_MD_head 194 = .ok (.aload_n 0, 1) := by decide +kernel
theorem d_MD_head_195 : decode c_MD_head 195 = .ok (.iconst 2, 1) := by decide +kernel
theorem d_MD_head_196 : decode c_MD_head 196 = .ok (.iload_n 2, 1) := by decide +kernel
theorem d_MD_head_197 : decode c_MD_head 197 = .ok (.invokevirtual 143, 3) := by decide +kernel
theorem d_MD_head_200 : decode c_MD_head 200 = .ok (.ireturn, 1) := by decide +kernel
theorem d_MD_head_201 : decode c_MD_head 201 = .ok (.iload 4, 2) := by decide +kernel
theorem d_MD_head_203 : decode c_MD_head 203 = .ok (.ireturn, 1) := by decide +kernel
theorem d_MD_canBe_0 : decode c_MD_canBe 0 = .ok (.aload_n 0, 1) := by decide +kernel
theorem d_MD_canBe_1 : decode c_MD_canBe 1 = .ok (.getfield 151, 3) := by decide +kernel
theorem d_MD_canBe_4 : decode c_MD_canBe 4 = .ok (.ldc2_w 117, 3) := by decide +kernel
theorem d_MD_canBe_7 : decode c_MD_canBe 7 = .ok (.lcmp, 1) := by decide +kernel
theorem d_MD_canBe_8 : decode c_MD_canBe 8 = .ok (.ifCond .lt 14, 3) := by decide +kernel
theorem d_MD_canBe_11 : decode c_MD_canBe 11 = .ok (.aload_n 0, 1) := by decide +kernel
theorem d_MD_canBe_12 : decode c_MD_canBe 12 = .ok (.getfield 151, 3) := by decide +kernel
theorem d_MD_canBe_15 : decode c_MD_canBe 15 = .ok (.ldc2_w 163, 3) := by decide +kernel
theorem d_MD_canBe_18 : decode c_MD_canBe 18 = .ok (.lcmp, 1) := by decide +kernel
theorem d_MD_canBe_19 : decode c_MD_canBe 19 = .ok (.ifCond .le 25, 3) := by decide +kernel
theorem d_MD_canBe_22 : decode c_MD_canBe 22 = .ok (.aload_n 0, 1) := by decide +kernel
theorem d_MD_canBe_23 : decode c_MD_canBe 23 = .ok (.getfield 151, 3) := by decide +kernel
theorem d_MD_canBe_26 : decode c_MD_canBe 26 = .ok (.ldc2_w 165, 3) := by decide +kernel
theorem d_MD_canBe_29 : decode c_MD_canBe 29 = .ok (.lcmp, 1) := by decide +kernel
theorem d_MD_canBe_30 : decode c_MD_canBe 30 = .ok (.ifCond .lt 18, 3) := by decide +kernel
theorem d_MD_canBe_33 : decode c_MD_canBe 33 = .ok (.aload_n 0, 1) := by decide +kernel
theorem d_MD_canBe_34 : decode c_MD_canBe 34 = .ok (.getfield 151, 3) := by decide +kernel
theorem d_MD_canBe_37 : decode c_MD_canBe 37 = .ok (.ldc2_w 167, 3) := by decide +kernel
theorem d_MD_canBe_40 : decode c_MD_canBe 40 = .ok (.lcmp, 1) := by decide +kernel
theorem d_MD_canBe_41 : decode c_MD_canBe 41 = .ok (.ifCond .gt 7, 3) := by decide +kernel
theorem d_MD_canBe_44 : decode c_MD_canBe 44 = .ok (.iconst 1, 1) := by decide +kernel
theorem d_MD_canBe_45 : decode c_MD_canBe 45 = .ok (.goto 4, 3) := by decide +kernel
theorem d_MD_canBe_48 : decode c_MD_canBe 48 = .ok (.iconst 0, 1) := by decide +kernel
theorem d_MD_canBe_49 : decode c_MD_canBe 49 = .ok (.istore_n 2, 1) := by decide +kernel
theorem d_MD_canBe_50 : decode c_MD_canBe 50 = .ok (.iload_n 1, 1) := by decide +kernel
theorem d_MD_canBe_51 : decode c_MD_canBe 51 = .ok (.iconst 2, 1) := by decide +kernel
theorem d_MD_canBe_52 : decode c_MD_canBe 52 = .ok (.if_icmp .ge 20, 3) := by decide +kernel
theorem d_MD_canBe_55 : decode c_MD_canBe 55 = .ok (.aload_n 0, 1) := by decide +kernel
theorem d_MD_canBe_56 : decode c_MD_canBe 56 = .ok (.getfield 151, 3) := by decide +kernel
theorem d_MD_canBe_59 : decode c_MD_canBe 59 = .ok (.lconst 0, 1) := by decide +kernel
theorem d_MD_canBe_60 : decode c_MD_canBe 60 = .ok (.lcmp, 1) := by decide +kernel
theorem d_MD_canBe_61 : decode c_MD_canBe 61 = .ok (.ifCond .lt 7, 3) := by decide +kernel
theorem d_MD_canBe_64 : decode c_MD_canBe 64 = .ok (.iconst 1, 1) := by decide +kernel
theorem d_MD_canBe_65 : decode c_MD_canBe 65 = .ok (.goto 55, 3) := by decide +kernel
theorem d_MD_canBe_68 : decode c_MD_canBe 68 = .ok (.iconst 0, 1) := by decide +kernel
theorem d_MD_canBe_69 : decode c_MD_canBe 69 = .ok (.goto 51, 3) := by decide +kernel
theorem d_MD_canBe_72 : decode c_MD_canBe 72 = .ok (.iload_n 1, 1) := by decide +kernel
theorem d_MD_canBe_73 : decode c_MD_canBe 73 = .ok (.iconst 2, 1) := by decide +kernel
theorem d_MD_canBe_74 : decode c_MD_canBe 74 = .ok (.if_icmp .ne 31, 3) := by decide +kernel
theorem d_MD_canBe_77 : decode c_MD_canBe 77 = .ok (.aload_n 0, 1) := by decide +kernel
theorem d_MD_canBe_78 : decode c_MD_canBe 78 = .ok (.getfield 151, 3) := by decide +kernel
theorem d_MD_canBe_81 : decode c_MD_canBe 81 = .ok (.lconst 0, 1) := by decide +kernel
theorem d_MD_canBe_82 : decode c_MD_canBe 82 = .ok (.lcmp, 1) := by decide +kernel
theorem d_MD_canBe_83 : decode c_MD_canBe 83 = .ok (.ifCond .lt 18, 3) := by decide +kernel
theorem d_MD_canBe_86 : decode c_MD_canBe 86 = .ok (.aload_n 0, 1) := by decide +kernel
theorem d_MD_canBe_87 : decode c_MD_canBe 87 = .ok (.getfield 151, 3) := by decide +kernel
theorem d_MD_canBe_90 : decode c_MD_canBe 90 = .ok (.ldc2_w 169, 3) := by decide +kernel
theorem d_MD_canBe_93 : decode c_MD_canBe 93 = .ok (.lcmp, 1) := by decide +kernel
theorem d_MD_canBe_94 : decode c_MD_canBe 94 = .ok (.ifCond .ge 7, 3) := by decide +kernel
theorem d_MD_canBe_97 : decode c_MD_canBe 97 = .ok (.iconst 1, 1) := by decide +kernel
theorem d_MD_canBe_98 : decode c_MD_canBe 98 = .ok (.goto 22, 3) := by decide +kernel
theorem d_MD_canBe_101 : decode c_MD_canBe 101 = .ok (.iconst 0, 1) := by decide +kernel
theorem d_MD_canBe_102 : decode c_MD_canBe 102 = .ok (.goto 18, 3) := by decide +kernel
theorem d_MD_canBe_105 : decode c_MD_canBe 105 = .ok (.iload_n 1, 1) := by decide +kernel
theorem d_MD_canBe_106 : decode c_MD_canBe 106 = .ok (.bipush 6, 2) := by decide +kernel
theorem d_MD_canBe_108 : decode c_MD_canBe 108 = .ok (.if_icmp .ne 7, 3) := by decide +kernel
theorem d_MD_canBe_111 : decode c_MD_canBe 111 = .ok (.iload_n 2, 1) := by decide +kernel
theorem d_MD_canBe_112 : decode c_MD_canBe 112 = .ok (.ifCond .eq 7, 3) := by decide +kernel
theorem d_MD_canBe_115 : decode c_MD_canBe 115 = .ok (.iconst 1, 1) := by decide +kernel
theorem d_MD_canBe_116 : decode c_MD_canBe 116 = .ok (.goto 4, 3) := by decide +kernel
theorem d_MD_canBe_119 : decode c_MD_canBe 119 = .ok (.iconst 0, 1) := by decide +kernel
theorem d_MD_canBe_120 : decode c_MD_canBe 120 = .ok (.ireturn, 1) := by decide +kernel
theorem d_MD_readNode_0 : decode c_MD_readNode 0 = .ok (.aload_n 0, 1) := by decide +kernel
theorem d_MD_readNode_1 : decode c_MD_readNode 1 = .ok (.getfield 140, 3) := by decide +kernel
theorem d_MD_readNode_4 : decode c_MD_readNode 4 = .ok (.istore_n 3, 1) := by decide +kernel
theorem d_MD_readNode_5 : decode c_MD_readNode 5 = .ok (.aload_n 0, 1) := by decide +kernel
theorem d_MD_readNode_6 : decode c_MD_readNode 6 = .ok (.iconst (-1), 1) := by decide +kernel
theorem d_MD_readNode_7 : decode c_MD_readNode 7 = .ok (.invokevirtual 171, 3) := by decide +kernel
theorem d_MD_readNode_10 : decode c_MD_readNode 10 = .ok (.istore 4, 2) := by decide +kernel
theorem d_MD_readNode_12 : decode c_MD_readNode 12 = .ok (.aload_n 0, 1) := by decide +kernel
theorem d_MD_readNode_13 : decode c_MD_readNode 13 = .ok (.getfield 134, 3) := by decide +kernel
theorem d_MD_readNode_16 : decode c_MD_readNode 16 = .ok (.ifCond .ne 20, 3) := by decide +kernel
theorem d_MD_readNode_19 : decode c_MD_readNode 19 = .ok (.aload_n 0, 1) := by decide +kernel
theorem d_MD_readNode_20 : decode c_MD_readNode 20 = .ok (.iload 4, 2) := by decide +kernel
theorem d_MD_readNode_22 : decode c_MD_readNode 22 = .ok (.invokevirtual 174, 3) := by decide +kernel
theorem d_MD_readNode_25 : decode c_MD_readNode 25 = .ok (.ifCond .ne 11, 3) := by decide +kernel
theorem d_MD_readNode_28 : decode c_MD_readNode 28 = .ok (.aload_n 0, 1) := by decide +kernel
theorem d_MD_readNode_29 : decode c_MD_readNode 29 = .ok (.iconst 3, 1) := by decide +kernel
theorem d_MD_readNode_30 : decode c_MD_readNode 30 = .ok (.iload_n 3, 1) := by decide +kernel
theorem d_MD_readNode_31 : decode c_MD_readNode 31 = .ok (.invokevirtual 143, 3) := by decide +kernel
theorem d_MD_readNode_34 : decode c_MD_readNode 34 = .ok (.i2l, 1) := by decide +kernel
theorem d_MD_readNode_35 : decode c_MD_readNode 35 = .ok (.lreturn, 1) := by decide +kernel
theorem d_MD_readNode_36 : decode c_MD_readNode 36 = .ok (.aload_n 0, 1) := by decide +kernel
theorem d_MD_readNode_37 : decode c_MD_readNode 37 = .ok (.getfield 134, 3) := by decide +kernel
theorem d_MD_readNode_40 : decode c_MD_readNode 40 = .ok (.ifCond .ne 17, 3) := by decide +kernel
theorem d_MD_readNode_43 : decode c_MD_readNode 43 = .ok (.iload_n 1, 1) := by decide +kernel
theorem d_MD_readNode_44 : decode c_MD_readNode 44 = .ok (.bipush 12, 2) := by decide +kernel
theorem d_MD_readNode_46 : decode c_MD_readNode 46 = .ok (.if_icmp .le 11, 3) := by decide +kernel
theorem d_MD_readNode_49 : decode c_MD_readNode 49 = .ok (.aload_n 0, 1) := by decide +kernel
theorem d_MD_readNode_50 : decode c_MD_readNode 50 = .ok (.iconst 4, 1) := by decide +kernel
theorem d_MD_readNode_51 : decode c_MD_readNode 51 = .ok (.iload_n 3, 1) := by decide +kernel
theorem d_MD_readNode_52 : decode c_MD_readNode 52 = .ok (.invokevirtual 143, 3) := by decide +kernel
theorem d_MD_readNode_55 : decode c_MD_readNode 55 = .ok (.i2l, 1) := by decide +kernel
theorem d_MD_readNode_56 : decode c_MD_readNode 56 = .ok (.lreturn, 1) := by decide +kernel
theorem d_MD_readNode_57 : decode c_MD_readNode 57 = .ok (.aload_n 0, 1) := by decide +kernel
theorem d_MD_readNode_58 : decode c_MD_readNode 58 = .ok (.getfield 134, 3) := by decide +kernel
theorem d_MD_readNode_61 : decode c_MD_readNode 61 = .ok (.ifCond .ne 30, 3) := by decide +kernel
theorem d_MD_readNode_64 : decode c_MD_readNode 64 = .ok (.aload_n 0, 1) := by decide +kernel
theorem d_MD_readNode_65 : decode c_MD_readNode 65 = .ok (.getfield 140, 3) := by decide +kernel
theorem d_MD_readNode_68 : decode c_MD_readNode 68 = .ok (.ifCond .le 23, 3) := by decide +kernel
theorem d_MD_readNode_71 : decode c_MD_readNode 71 = .ok (.aload_n 0, 1) := by decide +kernel
theorem d_MD_readNode_72 : decode c_MD_readNode 72 = .ok (.getfield 177, 3) := by decide +kernel
theorem d_MD_readNode_75 : decode c_MD_readNode 75 = .ok (.iload_n 2, 1) := by decide +kernel
theorem d_MD_readNode_76 : decode c_MD_readNode 76 = .ok (.isub, 1) := by decide +kernel
theorem d_MD_readNode_77 : decode c_MD_readNode 77 = .ok (.sipush 200, 3) := by decide +kernel
theorem d_MD_readNode_80 : decode c_MD_readNode 80 = .ok (.if_icmp .ne 11, 3) := by decide +kernel
theorem d_MD_readNode_83 : decode c_MD_readNode 83 = .ok (.aload_n 0, 1) := by decide +kernel
theorem d_MD_readNode_84 : decode c_MD_readNode 84 = .ok (.iconst 5, 1) := by decide +kernel
theorem d_MD_readNode_85 : decode c_MD_readNode 85 = .ok (.iload_n 3, 1) := by decide +kernel
theorem d_MD_readNode_86 : decode c_MD_readNode 86 = .ok (.invokevirtual 143, 3) := by decide +kernel
theorem d_MD_readNode_89 : decode c_MD_readNode 89 = .ok (.i2l, 1) := by decide +kernel
theorem d_MD_readNode_90 : decode c_MD_readNode 90 = .ok (.lreturn, 1) := by decide +kernel
theorem d_MD_readNode_91 : decode c_MD_readNode 91 = .ok (.aload_n 0, 1) := by decide +kernel
theorem d_MD_readNode_92 : decode c_MD_readNode 92 = .ok (.getfield 134, 3) := by decide +kernel
theorem d_MD_readNode_95 : decode c_MD_readNode 95 = .ok (.ifCond .le 5, 3) := by decide +kernel
theorem d_MD_readNode_98 : decode c_MD_readNode 98 = .ok (.lconst 0, 1) := by decide +kernel
theorem d_MD_readNode_99 : decode c_MD_readNode 99 = .ok (.lreturn, 1) := by decide +kernel
theorem d_MD_readNode_100 : decode c_MD_readNode 100 = .ok (.aload_n 0, 1) := by decide +kernel
theorem d_MD_readNode_101 : decode c_MD_readNode 101 = .ok (.getfield 177, 3) := by decide +kernel
theorem d_MD_readNode_104 : decode c_MD_readNode 104 = .ok (.istore 5, 2) := by decide +kernel
theorem d_MD_readNode_106 : decode c_MD_readNode 106 = .ok (.aload_n 0, 1) := by decide +kernel
theorem d_MD_readNode_107 : decode c_MD_readNode 107 = .ok (.dup, 1) := by decide +kernel
theorem d_MD_readNode_108 : decode c_MD_readNode 108 = .ok (.getfield 177, 3) := by decide +kernel
theorem d_MD_readNode_111 : decode c_MD_readNode 111 = .ok (.iconst 1, 1) := by decide +kernel
theorem d_MD_readNode_112 : decode c_MD_readNode 112 = .ok (.iadd, 1) := by decide +kernel
theorem d_MD_readNode_113 : decode c_MD_readNode 113 = .ok (.putfield 177, 3) := by decide +kernel
theorem d_MD_readNode_116 : decode c_MD_readNode 116 = .ok (.aload_n 0, 1) := by decide +kernel
theorem d_MD_readNode_117 : decode c_MD_readNode 117 = .ok (.iload 5, 2) := by decide +kernel
theorem d_MD_readNode_119 : decode c_MD_readNode 119 = .ok (.iload 4, 2) := by decide +kernel
theorem d_MD_readNode_121 : decode c_MD_readNode 121 = .ok (.iconst 1, 1) := by decide +kernel
theorem d_MD_readNode_122 : decode c_MD_readNode 122 = .ok (.if_icmp .ne 7, 3) := by decide +kernel
theorem d_MD_readNode_125 : decode c_MD_readNode 125 = .ok (.iconst 0, 1) := by decide +kernel
theorem d_MD_readNode_126 : decode c_MD_readNode 126 = .ok (.goto 5, 3) := by decide +kernel
theorem d_MD_readNode_129 : decode c_MD_readNode 129 = .ok (.iload 4, 2) := by decide +kernel
theorem d_MD_readNode_131 : decode c_MD_readNode 131 = .ok (.iload 4, 2) := by decide +kernel
theorem d_MD_readNode_133 : decode c_MD_readNode 133 = .ok (.ifCond .ne 10, 3) := by decide +kernel
theorem d_MD_readNode_136 : decode c_MD_readNode 136 = .ok (.aload_n 0, 1) := by decide +kernel
theorem d_MD_readNode_137 : decode c_MD_readNode 137 = .ok (.getfield 151, 3) := by decide +kernel
theorem d_MD_readNode_140 : decode c_MD_readNode 140 = .ok (.goto 61, 3) := by decide +kernel
theorem d_MD_readNode_143 : decode c_MD_readNode 143 = .ok (.iload 4, 2) := by decide +kernel
theorem d_MD_readNode_145 : decode c_MD_readNode 145 = .ok (.iconst 1, 1) := by decide +kernel
theorem d_MD_readNode_146 : decode c_MD_readNode 146 = .ok (.if_icmp .ne 14, 3) := by decide +kernel
theorem d_MD_readNode_149 : decode c_MD_readNode 149 = .ok (.ldc2_w 109, 3) := by decide +kernel
theorem d_MD_readNode_152 : decode c_MD_readNode 152 = .ok (.aload_n 0, 1) := by decide +kernel
theorem d_MD_readNode_153 : decode c_MD_readNode 153 = .ok (.getfield 151, 3) := by decide +kernel
theorem d_MD_readNode_156 : decode c_MD_readNode 156 = .ok (.lsub, 1) := by decide +kernel
theorem d_MD_readNode_157 : decode c_MD_readNode 157 = .ok (.goto 44, 3) := by decide +kernel
theorem d_MD_readNode_160 : decode c_MD_readNode 160 = .ok (.iload 4, 2) := by decide +kernel
theorem d_MD_readNode_162 : decode c_MD_readNode 162 = .ok (.bipush 6, 2) := by decide +kernel
theorem d_MD_readNode_164 : decode c_MD_readNode 164 = .ok (.if_icmp .eq 7, 3) := by decide +kernel
theorem d_MD_readNode_167 : decode c_MD_readNode 167 = .ok (.lconst 0, 1) := by decide +kernel
theorem d_MD_readNode_168 : decode c_MD_readNode 168 = .ok (.goto 33, 3) := by decide +kernel
theorem d_MD_readNode_171 : decode c_MD_readNode 171 = .ok (.aload_n 0, 1) := by decide +kernel
theorem d_MD_readNode_172 : decode c_MD_readNode 172 = .ok (.getfield 151, 3) := by decide +kernel
theorem d_MD_readNode_175 : decode c_MD_readNode 175 = .ok (.ldc2_w 180, 3) := by decide +kernel
theorem d_MD_readNode_178 : decode c_MD_readNode 178 = .ok (.lcmp, 1) := by decide +kernel
theorem d_MD_readNode_179 : decode c_MD_readNode 179 = .ok (.ifCond .ge 14, 3) := by decide +kernel
theorem d_MD_readNode_182 : decode c_MD_readNode 182 = .ok (.aload_n 0, 1) := by decide +kernel
theorem d_MD_readNode_183 : decode c_MD_readNode 183 = .ok (.getfield 151, 3) := by decide +kernel
theorem d_MD_readNode_186 : decode c_MD_readNode 186 = .ok (.ldc2_w 117, 3) := by decide +kernel
theorem d_MD_readNode_189 : decode c_MD_readNode 189 = .ok (.lsub, 1) := by decide +kernel
theorem d_MD_readNode_190 : decode c_MD_readNode 190 = .ok (.goto 11, 3) := by decide +kernel
theorem d_MD_readNode_193 : decode c_MD_readNode 193 = .ok (.aload_n 0, 1) := by decide +kernel
theorem d_MD_readNode_194 : decode c_MD_readNode 194 = .ok (.getfield 151, 3) := by decide +kernel
theorem d_MD_readNode_197 : decode c_MD_readNode 197 = .ok (.ldc2_w 119, 3) := by decide +kernel
theorem d_MD_readNode_200 : decode c_MD_readNode 200 = .ok (.lsub, 1) := by decide +kernel
theorem d_MD_readNode_201 : decode c_MD_readNode 201 = .ok (.iconst 0, 1) := by decide +kernel
theorem d_MD_readNode_202 : decode c_MD_readNode 202 = .ok (.invokevirtual 70, 3) := by decide +kernel
theorem d_MD_readNode_205 : decode c_MD_readNode 205 = .ok (.iload 4, 2) := by decide +kernel
theorem d_MD_readNode_207 : decode c_MD_readNode 207 = .ok (.iconst 2, 1) := by decide +kernel
theorem d_MD_readNode_208 : decode c_MD_readNode 208 = .ok (.if_icmp .ge 5, 3) := by decide +kernel
theorem d_MD_readNode_211 : decode c_MD_readNode 211 = .ok (.lconst 0, 1) := by decide +kernel
theorem d_MD_readNode_212 : decode c_MD_readNode 212 = .ok (.lreturn, 1) := by decide +kernel
theorem d_MD_readNode_213 : decode c_MD_readNode 213 = .ok (.iload 4, 2) := by decide +kernel
theorem d_MD_readNode_215 : decode c_MD_readNode 215 = .ok (.iconst 2, 1) := by decide +kernel
theorem d_MD_readNode_216 : decode c_MD_readNode 216 = .ok (.if_icmp .ne 40, 3) := by decide +kernel
theorem d_MD_readNode_219 : decode c_MD_readNode 219 = .ok (.aload_n 0, 1) := by decide +kernel
theorem d_MD_readNode_220 : decode c_MD_readNode 220 = .ok (.getfield 151, 3) := by decide +kernel
theorem d_MD_readNode_223 : decode c_MD_readNode 223 = .ok (.l2i, 1) := by decide +kernel
theorem d_MD_readNode_224 : decode c_MD_readNode 224 = .ok (.istore 6, 2) := by decide +kernel
theorem d_MD_readNode_226 : decode c_MD_readNode 226 = .ok (.iconst 0, 1) := by decide +kernel
theorem d_MD_readNode_227 : decode c_MD_readNode 227 = .ok (.istore 7, 2) := by decide +kernel
theorem d_MD_readNode_229 : decode c_MD_readNode 229 = .ok (.iload 7, 2) := by decide +kernel
theorem d_MD_readNode_231 : decode c_MD_readNode 231 = .ok (.iload 6, 2) := by decide +kernel
theorem d_MD_readNode_233 : decode c_MD_readNode 233 = .ok (.if_icmp .ge 21, 3) := by decide +kernel
theorem d_MD_readNode_236 : decode c_MD_readNode 236 = .ok (.aload_n 0, 1) := by decide +kernel
theorem d_MD_readNode_237 : decode c_MD_readNode 237 = .ok (.iload 5, 2) := by decide +kernel
theorem d_MD_readNode_239 : decode c_MD_readNode 239 = .ok (.aload_n 0, 1) := by decide +kernel
theorem d_MD_readNode_240 : decode c_MD_readNode 240 = .ok (.invokevirtual 147, 3) := by decide +kernel
theorem d_MD_readNode_243 : decode c_MD_readNode 243 = .ok (.i2l, 1) := by decide +kernel
theorem d_MD_readNode_244 : decode c_MD_readNode 244 = .ok (.iconst 1, 1) := by decide +kernel
theorem d_MD_readNode_245 : decode c_MD_readNode 245 = .ok (.invokevirtual 74, 3) := by decide +kernel
theorem d_MD_readNode_248 : decode c_MD_readNode 248 = .ok (.iinc 7 1, 3) := by decide +kernel
theorem d_MD_readNode_251 : decode c_MD_readNode 251 = .ok (.goto (-22), 3) := by decide +kernel
theorem d_MD_readNode_254 : decode c_MD_readNode 254 = .ok (.lconst 0, 1) := by decide +kernel
theorem d_MD_readNode_255 : decode c_MD_readNode 255 = .ok (.lreturn, 1) := by decide +kernel
theorem d_MD_readNode_256 : decode c_MD_readNode 256 = .ok (.iload 4, 2) := by decide +kernel
theorem d_MD_readNode_258 : decode c_MD_readNode 258 = .ok (.bipush 6, 2) := by decide +kernel
theorem d_MD_readNode_260 : decode c_MD_readNode 260 = .ok (.if_icmp .ne 10, 3) := by decide +kernel
theorem d_MD_readNode_263 : decode c_MD_readNode 263 = .ok (.aload_n 0, 1) := by decide +kernel
theorem d_MD_readNode_264 : decode c_MD_readNode 264 = .ok (.iconst 4, 1) := by decide +kernel
theorem d_MD_readNode_265 : decode c_MD_readNode 265 = .ok (.invokevirtual 171, 3) := by decide +kernel
theorem d_MD_readNode_268 : decode c_MD_readNode 268 = .ok (.istore 6, 2) := by decide +kernel
theorem d_MD_readNode_270 : decode c_MD_readNode 270 = .ok (.aload_n 0, 1) := by decide +kernel
theorem d_MD_readNode_271 : decode c_MD_readNode 271 = .ok (.getfield 151, 3) := by decide +kernel
theorem d_MD_readNode_274 : decode c_MD_readNode 274 = .ok (.lconst 0, 1) := by decide +kernel
theorem d_MD_readNode_275 : decode c_MD_readNode 275 = .ok (.lcmp, 1) := by decide +kernel
theorem d_MD_readNode_276 : decode c_MD_readNode 276 = .ok (.ifCond .lt 14, 3) := by decide +kernel
theorem d_MD_readNode_279 : decode c_MD_readNode 279 = .ok (.aload_n 0, 1) := by decide +kernel
theorem d_MD_readNode_280 : decode c_MD_readNode 280 = .ok (.getfield 151, 3) := by decide +kernel
theorem d_MD_readNode_283 : decode c_MD_readNode 283 = .ok (.ldc2_w 182, 3) := by decide +kernel
theorem d_MD_readNode_286 : decode c_MD_readNode 286 = .ok (.lcmp, 1) := by decide +kernel
theorem d_MD_readNode_287 : decode c_MD_readNode 287 = .ok (.ifCond .le 9, 3) := by decide +kernel
theorem d_MD_readNode_290 : decode c_MD_readNode 290 = .ok (.ldc2_w 182, 3) := by decide +kernel
theorem d_MD_readNode_293 : decode c_MD_readNode 293 = .ok (.goto 7, 3) := by decide +kernel
theorem d_MD_readNode_296 : decode c_MD_readNode 296 = .ok (.aload_n 0, 1) := by decide +kernel
theorem d_MD_readNode_297 : decode c_MD_readNode 297 = .ok (.getfield 151, 3) := by decide +kernel
theorem d_MD_readNode_300 : decode c_MD_readNode 300 = .ok (.lstore 6, 2) := by decide +kernel
theorem d_MD_readNode_302 : decode c_MD_readNode 302 = .ok (.aload_n 0, 1) := by decide +kernel
theorem d_MD_readNode_303 : decode c_MD_readNode 303 = .ok (.getfield 17, 3) := by decide +kernel
theorem d_MD_readNode_306 : decode c_MD_readNode 306 = .ok (.iload 5, 2) := by decide +kernel
theorem d_MD_readNode_308 : decode c_MD_readNode 308 = .ok (.lload 6, 2) := by decide +kernel
theorem d_MD_readNode_310 : decode c_MD_readNode 310 = .ok (.l2i, 1) := by decide +kernel
theorem d_MD_readNode_311 : decode c_MD_readNode 311 = .ok (.iastore, 1) := by decide +kernel
theorem d_MD_readNode_312 : decode c_MD_readNode 312 = .ok (.aload_n 0, 1) := by decide +kernel
theorem d_MD_readNode_313 : decode c_MD_readNode 313 = .ok (.getfield 134, 3) := by decide +kernel
theorem d_MD_readNode_316 : decode c_MD_readNode 316 = .ok (.ifCond .le 7, 3) := by decide +kernel
theorem d_MD_readNode_319 : decode c_MD_readNode 319 = .ok (.lconst 0, 1) := by decide +kernel
theorem d_MD_readNode_320 : decode c_MD_readNode 320 = .ok (.goto 20, 3) := by decide +kernel
theorem d_MD_readNode_323 : decode c_MD_readNode 323 = .ok (.iload 4, 2) := by decide +kernel
theorem d_MD_readNode_325 : decode c_MD_readNode 325 = .ok (.iconst 5, 1) := by decide +kernel
theorem d_MD_readNode_326 : decode c_MD_readNode 326 = .ok (.if_icmp .ne 12, 3) := by decide +kernel
theorem d_MD_readNode_329 : decode c_MD_readNode 329 = .ok (.ldc2_w 184, 3) := by decide +kernel
theorem d_MD_readNode_332 : decode c_MD_readNode 332 = .ok (.lload 6, 2) := by decide +kernel
theorem d_MD_readNode_334 : decode c_MD_readNode 334 = .ok (.lmul, 1) := by decide +kernel
theorem d_MD_readNode_335 : decode c_MD_readNode 335 = .ok (.goto 5, 3) := by decide +kernel
theorem d_MD_readNode_338 : decode c_MD_readNode 338 = .ok (.lload 6, 2) := by decide +kernel
theorem d_MD_readNode_340 : decode c_MD_readNode 340 = .ok (.lreturn, 1) := by decide +kernel
theorem d_MD_read_0 : decode c_MD_read 0 = .ok (.aload_n 0, 1) := by decide +kernel
theorem d_MD_read_1 : decode c_MD_read 1 = .ok (.iconst 0, 1) := by decide +kernel
theorem d_MD_read_2 : decode c_MD_read 2 = .ok (.putfield 50, 3) := by decide +kernel
theorem d_MD_read_5 : decode c_MD_read 5 = .ok (.aload_n 0, 1) := by decide +kernel
theorem d_MD_read_6 : decode c_MD_read 6 = .ok (.getfield 131, 3) := by decide +kernel
theorem d_MD_read_9 : decode c_MD_read 9 = .ok (.aload_n 0, 1) := by decide +kernel
theorem d_MD_read_10 : decode c_MD_read 10 = .ok (.getfield 128, 3) := by decide +kernel
theorem d_MD_read_13 : decode c_MD_read 13 = .ok (.if_icmp .eq 12, 3) := by decide +kernel
theorem d_MD_read_16 : decode c_MD_read 16 = .ok (.aload_n 0, 1) := by decide +kernel
theorem d_MD_read_17 : decode c_MD_read 17 = .ok (.getfield 53, 3) := by decide +kernel
theorem d_MD_read_20 : decode c_MD_read 20 = .ok (.bipush 16, 2) := by decide +kernel
theorem d_MD_read_22 : decode c_MD_read 22 = .ok (.if_icmp .ne 5, 3) := by decide +kernel
theorem d_MD_read_25 : decode c_MD_read 25 = .ok (.iconst (-1), 1) := by decide +kernel
theorem d_MD_read_26 : decode c_MD_read 26 = .ok (.ireturn, 1) := by decide +kernel
theorem d_MD_read_27 : decode c_MD_read 27 = .ok (.aload_n 0, 1) := by decide +kernel
theorem d_MD_read_28 : decode c_MD_read 28 = .ok (.iconst 0, 1) := by decide +kernel
theorem d_MD_read_29 : decode c_MD_read 29 = .ok (.putfield 134, 3) := by decide +kernel
theorem d_MD_read_32 : decode c_MD_read 32 = .ok (.aload_n 0, 1) := by decide +kernel
theorem d_MD_read_33 : decode c_MD_read 33 = .ok (.iconst (-1), 1) := by decide +kernel
theorem d_MD_read_34 : decode c_MD_read 34 = .ok (.putfield 137, 3) := by decide +kernel
theorem d_MD_read_37 : decode c_MD_read 37 = .ok (.aload_n 0, 1) := by decide +kernel
theorem d_MD_read_38 : decode c_MD_read 38 = .ok (.aload_n 0, 1) := by decide +kernel
theorem d_MD_read_39 : decode c_MD_read 39 = .ok (.getfield 131, 3) := by decide +kernel
theorem d_MD_read_42 : decode c_MD_read 42 = .ok (.putfield 140, 3) := by decide +kernel
theorem d_MD_read_45 : decode c_MD_read 45 = .ok (.aload_n 0, 1) := by decide +kernel
theorem d_MD_read_46 : decode c_MD_read 46 = .ok (.aload_n 0, 1) := by decide +kernel
theorem d_MD_read_47 : decode c_MD_read 47 = .ok (.getfield 56, 3) := by decide +kernel
theorem d_MD_read_50 : decode c_MD_read 50 = .ok (.putfield 177, 3) := by decide +kernel
theorem d_MD_read_53 : decode c_MD_read 53 = .ok (.iconst 1, 1) := by decide +kernel
theorem d_MD_read_54 : decode c_MD_read 54 = .ok (.istore_n 1, 1) := by decide +kernel
theorem d_MD_read_55 : decode c_MD_read 55 = .ok (.aload_n 0, 1) := by decide +kernel
theorem d_MD_read_56 : decode c_MD_read 56 = .ok (.getfield 44, 3) := by decide +kernel
theorem d_MD_read_59 : decode c_MD_read 59 = .ok (.iconst 1, 1) := by decide +kernel
theorem d_MD_read_60 : decode c_MD_read 60 = .ok (.lconst 1, 1) := by decide +kernel
theorem d_MD_read_61 : decode c_MD_read 61 = .ok (.lastore, 1) := by decide +kernel
theorem d_MD_read_62 : decode c_MD_read 62 = .ok (.iload_n 1, 1) := by decide +kernel
theorem d_MD_read_63 : decode c_MD_read 63 = .ok (.ifCond .le 66, 3) := by decide +kernel
theorem d_MD_read_66 : decode c_MD_read 66 = .ok (.aload_n 0, 1) := by decide +kernel
theorem d_MD_read_67 : decode c_MD_read 67 = .ok (.getfield 134, 3) := by decide +kernel
theorem d_MD_read_70 : decode c_MD_read 70 = .ok (.ifCond .ne 59, 3) := by decide +kernel
theorem d_MD_read_73 : decode c_MD_read 73 = .ok (.aload_n 0, 1) := by decide +kernel
theorem d_MD_read_74 : decode c_MD_read 74 = .ok (.getfield 44, 3) := by decide +kernel
theorem d_MD_read_77 : decode c_MD_read 77 = .ok (.iload_n 1, 1) := by decide +kernel
theorem d_MD_read_78 : decode c_MD_read 78 = .ok (.laload, 1) := by decide +kernel
theorem d_MD_read_79 : decode c_MD_read 79 = .ok (.lconst 0, 1) := by decide +kernel
theorem d_MD_read_80 : decode c_MD_read 80 = .ok (.lcmp, 1) := by decide +kernel
theorem d_MD_read_81 : decode c_MD_read 81 = .ok (.ifCond .ne 9, 3) := by decide +kernel
theorem d_MD_read_84 : decode c_MD_read 84 = .ok (.iinc 1 (-1), 3) := by decide +kernel
theorem d_MD_read_87 : decode c_MD_read 87 = .ok (.goto (-25), 3) := by decide +kernel
theorem d_MD_read_90 : decode c_MD_read 90 = .ok (.aload_n 0, 1) := by decide +kernel
theorem d_MD_read_91 : decode c_MD_read 91 = .ok (.getfield 44, 3) := by decide +kernel
theorem d_MD_read_94 : decode c_MD_read 94 = .ok (.iload_n 1, 1) := by decide +kernel
theorem d_MD_read_95 : decode c_MD_read 95 = .ok (.dup2, 1) := by decide +kernel
theorem d_MD_read_96 : decode c_MD_read 96 = .ok (.laload, 1) := by decide +kernel
theorem d_MD_read_97 : decode c_MD_read 97 = .ok (.lconst 1, 1) := by decide +kernel
theorem d_MD_read_98 : decode c_MD_read 98 = .ok (.lsub, 1) := by decide +kernel
theorem d_MD_read_99 : decode c_MD_read 99 = .ok (.lastore, 1) := by decide +kernel
theorem d_MD_read_100 : decode c_MD_read 100 = .ok (.aload_n 0, 1) := by decide +kernel
theorem d_MD_read_101 : decode c_MD_read 101 = .ok (.iload_n 1, 1) := by decide +kernel
theorem d_MD_read_102 : decode c_MD_read 102 = .ok (.aload_n 0, 1) := by decide +kernel
theorem d_MD_read_103 : decode c_MD_read 103 = .ok (.getfield 56, 3) := by decide +kernel
theorem d_MD_read_106 : decode c_MD_read 106 = .ok (.invokevirtual 186, 3) := by decide +kernel
theorem d_MD_read_109 : decode c_MD_read 109 = .ok (.lstore_n 2, 1) := by decide +kernel
theorem d_MD_read_110 : decode c_MD_read 110 = .ok (.lload_n 2, 1) := by decide +kernel
theorem d_MD_read_111 : decode c_MD_read 111 = .ok (.lconst 0, 1) := by decide +kernel
theorem d_MD_read_112 : decode c_MD_read 112 = .ok (.lcmp, 1) := by decide +kernel
theorem d_MD_read_113 : decode c_MD_read 113 = .ok (.ifCond .le 13, 3) := by decide +kernel
theorem d_MD_read_116 : decode c_MD_read 116 = .ok (.iinc 1 1, 3) := by decide +kernel
theorem d_MD_read_119 : decode c_MD_read 119 = .ok (.aload_n 0, 1) := by decide +kernel
theorem d_MD_read_120 : decode c_MD_read 120 = .ok (.getfield 44, 3) := by decide +kernel
theorem d_MD_read_123 : decode c_MD_read 123 = .ok (.iload_n 1, 1) := by decide +kernel
theorem d_MD_read_124 : decode c_MD_read 124 = .ok (.lload_n 2, 1) := by decide +kernel
theorem d_MD_read_125 : decode c_MD_read 125 = .ok (.lastore, 1) := by decide +kernel
theorem d_MD_read_126 : decode c_MD_read 126 = .ok (.goto (-64), 3) := by decide +kernel
theorem d_MD_read_129 : decode c_MD_read 129 = .ok (.aload_n 0, 1) := by decide +kernel
theorem d_MD_read_130 : decode c_MD_read 130 = .ok (.getfield 134, 3) := by decide +kernel
theorem d_MD_read_133 : decode c_MD_read 133 = .ok (.ifCond .ne 15, 3) := by decide +kernel
theorem d_MD_read_136 : decode c_MD_read 136 = .ok (.aload_n 0, 1) := by decide +kernel
theorem d_MD_read_137 : decode c_MD_read 137 = .ok (.getfield 177, 3) := by decide +kernel
theorem d_MD_read_140 : decode c_MD_read 140 = .ok (.sipush 1000, 3) := by decide +kernel
theorem d_MD_read_143 : decode c_MD_read 143 = .ok (.if_icmp .le 5, 3) := by decide +kernel
theorem d_MD_read_146 : decode c_MD_read 146 = .ok (.iconst (-1), 1) := by decide +kernel
theorem d_MD_read_147 : decode c_MD_read 147 = .ok (.ireturn, 1) := by decide +kernel
theorem d_MD_read_148 : decode c_MD_read 148 = .ok (.aload_n 0, 1) := by decide +kernel
theorem d_MD_read_149 : decode c_MD_read 149 = .ok (.aload_n 0, 1) := by decide +kernel
theorem d_MD_read_150 : decode c_MD_read 150 = .ok (.getfield 134, 3) := by decide +kernel
theorem d_MD_read_153 : decode c_MD_read 153 = .ok (.putfield 190, 3) := by decide +kernel
theorem d_MD_read_156 : decode c_MD_read 156 = .ok (.aload_n 0, 1) := by decide +kernel
theorem d_MD_read_157 : decode c_MD_read 157 = .ok (.aload_n 0, 1) := by decide +kernel
theorem d_MD_read_158 : decode c_MD_read 158 = .ok (.getfield 137, 3) := by decide +kernel
theorem d_MD_read_161 : decode c_MD_read 161 = .ok (.putfield 34, 3) := by decide +kernel
theorem d_MD_read_164 : decode c_MD_read 164 = .ok (.aload_n 0, 1) := by decide +kernel
theorem d_MD_read_165 : decode c_MD_read 165 = .ok (.getfield 190, 3) := by decide +kernel
theorem d_MD_read_168 : decode c_MD_read 168 = .ok (.ifCond .le 8, 3) := by decide +kernel
theorem d_MD_read_171 : decode c_MD_read 171 = .ok (.aload_n 0, 1) := by decide +kernel
theorem d_MD_read_172 : decode c_MD_read 172 = .ok (.getfield 190, 3) := by decide +kernel
theorem d_MD_read_175 : decode c_MD_read 175 = .ok (.ireturn, 1) := by decide +kernel
theorem d_MD_read_176 : decode c_MD_read 176 = .ok (.aload_n 0, 1) := by decide +kernel
theorem d_MD_read_177 : decode c_MD_read 177 = .ok (.getfield 25, 3) := by decide +kernel
theorem d_MD_read_180 : decode c_MD_read 180 = .ok (.aload_n 0, 1) := by decide +kernel
theorem d_MD_read_181 : decode c_MD_read 181 = .ok (.getfield 53, 3) := by decide +kernel
theorem d_MD_read_184 : decode c_MD_read 184 = .ok (.aload_n 0, 1) := by decide +kernel
theorem d_MD_read_185 : decode c_MD_read 185 = .ok (.getfield 56, 3) := by decide +kernel
theorem d_MD_read_188 : decode c_MD_read 188 = .ok (.iastore, 1) := by decide +kernel
theorem d_MD_read_189 : decode c_MD_read 189 = .ok (.aload_n 0, 1) := by decide +kernel
theorem d_MD_read_190 : decode c_MD_read 190 = .ok (.dup, 1) := by decide +kernel
theorem d_MD_read_191 : decode c_MD_read 191 = .ok (.getfield 53, 3) := by decide +kernel
theorem d_MD_read_194 : decode c_MD_read 194 = .ok (.iconst 1, 1) := by decide +kernel
theorem d_MD_read_195 : decode c_MD_read 195 = .ok (.iadd, 1) := by decide +kernel
theorem d_MD_read_196 : decode c_MD_read 196 = .ok (.putfield 53, 3) := by decide +kernel
theorem d_MD_read_199 : decode c_MD_read 199 = .ok (.aload_n 0, 1) := by decide +kernel
theorem d_MD_read_200 : decode c_MD_read 200 = .ok (.aload_n 0, 1) := by decide +kernel
theorem d_MD_read_201 : decode c_MD_read 201 = .ok (.getfield 177, 3) := by decide +kernel
theorem d_MD_read_204 : decode c_MD_read 204 = .ok (.putfield 56, 3) := by decide +kernel
theorem d_MD_read_207 : decode c_MD_read 207 = .ok (.aload_n 0, 1) := by decide +kernel
theorem d_MD_read_208 : decode c_MD_read 208 = .ok (.aload_n 0, 1) := by decide +kernel
theorem d_MD_read_209 : decode c_MD_read 209 = .ok (.getfield 140, 3) := by decide +kernel
theorem d_MD_read_212 : decode c_MD_read 212 = .ok (.putfield 131, 3) := by decide +kernel
theorem d_MD_read_215 : decode c_MD_read 215 = .ok (.iconst 0, 1) := by decide +kernel
theorem d_MD_read_216 : decode c_MD_read 216 = .ok (.ireturn, 1) := by decide +kernel
theorem d_MD_isNode_0 : decode c_MD_isNode 0 = .ok (.aload_n 0, 1) := by decide +kernel
theorem d_MD_isNode_1 : decode c_MD_isNode 1 = .ok (.iload_n 1, 1) := by decide +kernel
theorem d_MD_isNode_2 : decode c_MD_isNode 2 = .ok (.invokevirtual 92, 3) := by decide +kernel
theorem d_MD_isNode_5 : decode c_MD_isNode 5 = .ok (.ifCond .eq 36, 3) := by decide +kernel
theorem d_MD_isNode_8 : decode c_MD_isNode 8 = .ok (.iload_n 2, 1) := by decide +kernel
theorem d_MD_isNode_9 : decode c_MD_isNode 9 = .ok (.ifCond .lt 32, 3) := by decide +kernel
theorem d_MD_isNode_12 : decode c_MD_isNode 12 = .ok (.iload_n 2, 1) := by decide +kernel
theorem d_MD_isNode_13 : decode c_MD_isNode 13 = .ok (.aload_n 0, 1) := by decide +kernel
theorem d_MD_isNode_14 : decode c_MD_isNode 14 = .ok (.aload_n 0, 1) := by decide +kernel
theorem d_MD_isNode_15 : decode c_MD_isNode 15 = .ok (.aload_n 0, 1) := by decide +kernel
theorem d_MD_isNode_16 : decode c_MD_isNode 16 = .ok (.iload_n 1, 1) := by decide +kernel
theorem d_MD_isNode_17 : decode c_MD_isNode 17 = .ok (.invokevirtual 92, 3) := by decide +kernel
theorem d_MD_isNode_20 : decode c_MD_isNode 20 = .ok (.ifCond .eq 7, 3) := by decide +kernel
theorem d_MD_isNode_23 : decode c_MD_isNode 23 = .ok (.iload_n 1, 1) := by decide +kernel
theorem d_MD_isNode_24 : decode c_MD_isNode 24 = .ok (.goto 4, 3) := by decide +kernel
theorem d_MD_isNode_27 : decode c_MD_isNode 27 = .ok (.iconst 0, 1) := by decide +kernel
theorem d_MD_isNode_28 : decode c_MD_isNode 28 = .ok (.invokevirtual 95, 3) := by decide +kernel
theorem d_MD_isNode_31 : decode c_MD_isNode 31 = .ok (.invokevirtual 63, 3) := by decide +kernel
theorem d_MD_isNode_34 : decode c_MD_isNode 34 = .ok (.if_icmp .ge 7, 3) := by decide +kernel
theorem d_MD_isNode_37 : decode c_MD_isNode 37 = .ok (.iconst 1, 1) := by decide +kernel
theorem d_MD_isNode_38 : decode c_MD_isNode 38 = .ok (.goto 4, 3) := by decide +kernel
theorem d_MD_isNode_41 : decode c_MD_isNode 41 = .ok (.iconst 0, 1) := by decide +kernel
theorem d_MD_isNode_42 : decode c_MD_isNode 42 = .ok (.ireturn, 1) := by decide +kernel
theorem d_MD_node_0 : decode c_MD_node 0 = .ok (.aload_n 0, 1) := by decide +kernel
theorem d_MD_node_1 : decode c_MD_node 1 = .ok (.aload_n 0, 1) := by decide +kernel
theorem d_MD_node_2 : decode c_MD_node 2 = .ok (.iload_n 1, 1) := by decide +kernel
theorem d_MD_node_3 : decode c_MD_node 3 = .ok (.iload_n 2, 1) := by decide +kernel
theorem d_MD_node_4 : decode c_MD_node 4 = .ok (.invokevirtual 193, 3) := by decide +kernel
theorem d_MD_node_7 : decode c_MD_node 7 = .ok (.ifCond .eq 7, 3) := by decide +kernel
theorem d_MD_node_10 : decode c_MD_node 10 = .ok (.iconst 0, 1) := by decide +kernel
theorem d_MD_node_11 : decode c_MD_node 11 = .ok (.goto 4, 3) := by decide +kernel
theorem d_MD_node_14 : decode c_MD_node 14 = .ok (.iconst 1, 1) := by decide +kernel
theorem d_MD_node_15 : decode c_MD_node 15 = .ok (.putfield 50, 3) := by decide +kernel
theorem d_MD_node_18 : decode c_MD_node 18 = .ok (.aload_n 0, 1) := by decide +kernel
theorem d_MD_node_19 : decode c_MD_node 19 = .ok (.getfield 50, 3) := by decide +kernel
theorem d_MD_node_22 : decode c_MD_node 22 = .ok (.ifCond .le 5, 3) := by decide +kernel
theorem d_MD_node_25 : decode c_MD_node 25 = .ok (.iconst 0, 1) := by decide +kernel
theorem d_MD_node_26 : decode c_MD_node 26 = .ok (.ireturn, 1) := by decide +kernel
theorem d_MD_node_27 : decode c_MD_node 27 = .ok (.aload_n 0, 1) := by decide +kernel
theorem d_MD_node_28 : decode c_MD_node 28 = .ok (.iload_n 1, 1) := by decide +kernel
theorem d_MD_node_29 : decode c_MD_node 29 = .ok (.invokevirtual 95, 3) := by decide +kernel
theorem d_MD_node_32 : decode c_MD_node 32 = .ok (.istore 4, 2) := by decide +kernel
theorem d_MD_node_34 : decode c_MD_node 34 = .ok (.iload 4, 2) := by decide +kernel
theorem d_MD_node_36 : decode c_MD_node 36 = .ok (.iload_n 2, 1) := by decide +kernel
theorem d_MD_node_37 : decode c_MD_node 37 = .ok (.iadd, 1) := by decide +kernel
theorem d_MD_node_38 : decode c_MD_node 38 = .ok (.istore 5, 2) := by decide +kernel
theorem d_MD_node_40 : decode c_MD_node 40 = .ok (.iload_n 3, 1) := by decide +kernel
theorem d_MD_node_41 : decode c_MD_node 41 = .ok (.tableswitch 117 0 5 #[39, 47, 69, 94, 101, 108], 39) := by decide +kernel
theorem d_MD_node_80 : decode c_MD_node 80 = .ok (.aload_n 0, 1) := by decide +kernel
theorem d_MD_node_81 : decode c_MD_node 81 = .ok (.getfield 7, 3) := by decide +kernel
theorem d_MD_node_84 : decode c_MD_node 84 = .ok (.iload 5, 2) := by decide +kernel
theorem d_MD_node_86 : decode c_MD_node 86 = .ok (.iaload, 1) := by decide +kernel
theorem d_MD_node_87 : decode c_MD_node 87 = .ok (.ireturn, 1) := by decide +kernel
theorem d_MD_node_88 : decode c_MD_node 88 = .ok (.aload_n 0, 1) := by decide +kernel
theorem d_MD_node_89 : decode c_MD_node 89 = .ok (.getfield 7, 3) := by decide +kernel
theorem d_MD_node_92 : decode c_MD_node 92 = .ok (.iload 5, 2) := by decide +kernel
theorem d_MD_node_94 : decode c_MD_node 94 = .ok (.iaload, 1) := by decide +kernel
theorem d_MD_node_95 : decode c_MD_node 95 = .ok (.ifCond .ne 7, 3) := by decide +kernel
theorem d_MD_node_98 : decode c_MD_node 98 = .ok (.iconst (-1), 1) := by decide +kernel
theorem d_MD_node_99 : decode c_MD_node 99 = .ok (.goto 10, 3) := by decide +kernel
theorem d_MD_node_102 : decode c_MD_node 102 = .ok (.aload_n 0, 1) := by decide +kernel
theorem d_MD_node_103 : decode c_MD_node 103 = .ok (.getfield 17, 3) := by decide +kernel
theorem d_MD_node_106 : decode c_MD_node 106 = .ok (.iload 5, 2) := by decide +kernel
theorem d_MD_node_108 : decode c_MD_node 108 = .ok (.iaload, 1) := by decide +kernel
theorem d_MD_node_109 : decode c_MD_node 109 = .ok (.ireturn, 1) := by decide +kernel
theorem d_MD_node_110 : decode c_MD_node 110 = .ok (.aload_n 0, 1) := by decide +kernel
theorem d_MD_node_111 : decode c_MD_node 111 = .ok (.getfield 7, 3) := by decide +kernel
theorem d_MD_node_114 : decode c_MD_node 114 = .ok (.iload 5, 2) := by decide +kernel
theorem d_MD_node_116 : decode c_MD_node 116 = .ok (.iaload, 1) := by decide +kernel
theorem d_MD_node_117 : decode c_MD_node 117 = .ok (.bipush 6, 2) := by decide +kernel
theorem d_MD_node_119 : decode c_MD_node 119 = .ok (.if_icmp .ne 14, 3) := by decide +kernel
theorem d_MD_node_122 : decode c_MD_node 122 = .ok (.aload_n 0, 1) := by decide +kernel
theorem d_MD_node_123 : decode c_MD_node 123 = .ok (.getfield 13, 3) := by decide +kernel
theorem d_MD_node_126 : decode c_MD_node 126 = .ok (.iload 5, 2) := by decide +kernel
theorem d_MD_node_128 : decode c_MD_node 128 = .ok (.laload, 1) := by decide +kernel
theorem d_MD_node_129 : decode c_MD_node 129 = .ok (.l2i, 1) := by decide +kernel
theorem d_MD_node_130 : decode c_MD_node 130 = .ok (.goto 4, 3) := by decide +kernel
theorem d_MD_node_133 : decode c_MD_node 133 = .ok (.iconst (-1), 1) := by decide +kernel
theorem d_MD_node_134 : decode c_MD_node 134 = .ok (.ireturn, 1) := by decide +kernel
theorem d_MD_node_135 : decode c_MD_node 135 = .ok (.aload_n 0, 1) := by decide +kernel
theorem d_MD_node_136 : decode c_MD_node 136 = .ok (.iload 5, 2) := by decide +kernel
theorem d_MD_node_138 : decode c_MD_node 138 = .ok (.invokevirtual 63, 3) := by decide +kernel
theorem d_MD_node_141 : decode c_MD_node 141 = .ok (.ireturn, 1) := by decide +kernel
theorem d_MD_node_142 : decode c_MD_node 142 = .ok (.aload_n 0, 1) := by decide +kernel
theorem d_MD_node_143 : decode c_MD_node 143 = .ok (.iload 5, 2) := by decide +kernel
theorem d_MD_node_145 : decode c_MD_node 145 = .ok (.invokevirtual 81, 3) := by decide +kernel
theorem d_MD_node_148 : decode c_MD_node 148 = .ok (.ireturn, 1) := by decide +kernel
theorem d_MD_node_149 : decode c_MD_node 149 = .ok (.aload_n 0, 1) := by decide +kernel
theorem d_MD_node_150 : decode c_MD_node 150 = .ok (.iload 4, 2) := by decide +kernel
theorem d_MD_node_152 : decode c_MD_node 152 = .ok (.iload 5, 2) := by decide +kernel
theorem d_MD_node_154 : decode c_MD_node 154 = .ok (.invokevirtual 197, 3) := by decide +kernel
theorem d_MD_node_157 : decode c_MD_node 157 = .ok (.ireturn, 1) := by decide +kernel
theorem d_MD_node_158 : decode c_MD_node 158 = .ok (.iconst (-1), 1) := by decide +kernel
theorem d_MD_node_159 : decode c_MD_node 159 = .ok (.ireturn, 1) := by decide +kernel
theorem d_MD_value_0 : decode c_MD_value 0 = .ok (.aload_n 0, 1) := by decide +kernel
theorem d_MD_value_1 : decode c_MD_value 1 = .ok (.aload_n 0, 1) := by decide +kernel
theorem d_MD_value_2 : decode c_MD_value 2 = .ok (.iload_n 1, 1) := by decide +kernel
theorem d_MD_value_3 : decode c_MD_value 3 = .ok (.iload_n 2, 1) := by decide +kernel
theorem d_MD_value_4 : decode c_MD_value 4 = .ok (.invokevirtual 193, 3) := by decide +kernel
theorem d_MD_value_7 : decode c_MD_value 7 = .ok (.ifCond .ne 7, 3) := by decide +kernel
theorem d_MD_value_10 : decode c_MD_value 10 = .ok (.iconst 1, 1) := by decide +kernel
theorem d_MD_value_11 : decode c_MD_value 11 = .ok (.goto 23, 3) := by decide +kernel
theorem d_MD_value_14 : decode c_MD_value 14 = .ok (.aload_n 0, 1) := by decide +kernel
theorem d_MD_value_15 : decode c_MD_value 15 = .ok (.getfield 7, 3) := by decide +kernel
theorem d_MD_value_18 : decode c_MD_value 18 = .ok (.aload_n 0, 1) := by decide +kernel
theorem d_MD_value_19 : decode c_MD_value 19 = .ok (.iload_n 1, 1) := by decide +kernel
theorem d_MD_value_20 : decode c_MD_value 20 = .ok (.invokevirtual 95, 3) := by decide +kernel
theorem d_MD_value_23 : decode c_MD_value 23 = .ok (.iload_n 2, 1) := by decide +kernel
theorem d_MD_value_24 : decode c_MD_value 24 = .ok (.iadd, 1) := by decide +kernel
theorem d_MD_value_25 : decode c_MD_value 25 = .ok (.iaload, 1) := by decide +kernel
theorem d_MD_value_26 : decode c_MD_value 26 = .ok (.ifCond .eq 7, 3) := by decide +kernel
theorem d_MD_value_29 : decode c_MD_value 29 = .ok (.iconst 2, 1) := by decide +kernel
theorem d_MD_value_30 : decode c_MD_value 30 = .ok (.goto 4, 3) := by decide +kernel
theorem d_MD_value_33 : decode c_MD_value 33 = .ok (.iconst 0, 1) := by decide +kernel
theorem d_MD_value_34 : decode c_MD_value 34 = .ok (.putfield 50, 3) := by decide +kernel
theorem d_MD_value_37 : decode c_MD_value 37 = .ok (.aload_n 0, 1) := by decide +kernel
theorem d_MD_value_38 : decode c_MD_value 38 = .ok (.getfield 50, 3) := by decide +kernel
theorem d_MD_value_41 : decode c_MD_value 41 = .ok (.ifCond .le 7, 3) := by decide +kernel
theorem d_MD_value_44 : decode c_MD_value 44 = .ok (.lconst 0, 1) := by decide +kernel
theorem d_MD_value_45 : decode c_MD_value 45 = .ok (.goto 15, 3) := by decide +kernel
theorem d_MD_value_48 : decode c_MD_value 48 = .ok (.aload_n 0, 1) := by decide +kernel
theorem d_MD_value_49 : decode c_MD_value 49 = .ok (.getfield 13, 3) := by decide +kernel
theorem d_MD_value_52 : decode c_MD_value 52 = .ok (.aload_n 0, 1) := by decide +kernel
theorem d_MD_value_53 : decode c_MD_value 53 = .ok (.iload_n 1, 1) := by decide +kernel
theorem d_MD_value_54 : decode c_MD_value 54 = .ok (.invokevirtual 95, 3) := by decide +kernel
theorem d_MD_value_57 : decode c_MD_value 57 = .ok (.iload_n 2, 1) := by decide +kernel
theorem d_MD_value_58 : decode c_MD_value 58 = .ok (.iadd, 1) := by decide +kernel
theorem d_MD_value_59 : decode c_MD_value 59 = .ok (.laload, 1) := by decide +kernel
theorem d_MD_value_60 : decode c_MD_value 60 = .ok (.lreturn, 1) := by decide +kernel
theorem d_MD_byteAt_0 : decode c_MD_byteAt 0 = .ok (.aload_n 0, 1) := by decide +kernel
theorem d_MD_byteAt_1 : decode c_MD_byteAt 1 = .ok (.iconst 0, 1) := by decide +kernel
theorem d_MD_byteAt_2 : decode c_MD_byteAt 2 = .ok (.putfield 50, 3) := by decide +kernel
theorem d_MD_byteAt_5 : decode c_MD_byteAt 5 = .ok (.aload_n 0, 1) := by decide +kernel
theorem d_MD_byteAt_6 : decode c_MD_byteAt 6 = .ok (.iload_n 1, 1) := by decide +kernel
theorem d_MD_byteAt_7 : decode c_MD_byteAt 7 = .ok (.iload_n 2, 1) := by decide +kernel
theorem d_MD_byteAt_8 : decode c_MD_byteAt 8 = .ok (.invokevirtual 193, 3) := by decide +kernel
theorem d_MD_byteAt_11 : decode c_MD_byteAt 11 = .ok (.ifCond .ne 5, 3) := by decide +kernel
theorem d_MD_byteAt_14 : decode c_MD_byteAt 14 = .ok (.iconst (-1), 1) := by decide +kernel
theorem d_MD_byteAt_15 : decode c_MD_byteAt 15 = .ok (.ireturn, 1) := by decide +kernel
theorem d_MD_byteAt_16 : decode c_MD_byteAt 16 = .ok (.aload_n 0, 1) := by decide +kernel
theorem d_MD_byteAt_17 : decode c_MD_byteAt 17 = .ok (.iload_n 1, 1) := by decide +kernel
theorem d_MD_byteAt_18 : decode c_MD_byteAt 18 = .ok (.invokevirtual 95, 3) := by decide +kernel
theorem d_MD_byteAt_21 : decode c_MD_byteAt 21 = .ok (.iload_n 2, 1) := by decide +kernel
theorem d_MD_byteAt_22 : decode c_MD_byteAt 22 = .ok (.iadd, 1) := by decide +kernel
theorem d_MD_byteAt_23 : decode c_MD_byteAt 23 = .ok (.istore 4, 2) := by decide +kernel
theorem d_MD_byteAt_25 : decode c_MD_byteAt 25 = .ok (.aload_n 0, 1) := by decide +kernel
theorem d_MD_byteAt_26 : decode c_MD_byteAt 26 = .ok (.getfield 7, 3) := by decide +kernel
theorem d_MD_byteAt_29 : decode c_MD_byteAt 29 = .ok (.iload 4, 2) := by decide +kernel
theorem d_MD_byteAt_31 : decode c_MD_byteAt 31 = .ok (.iaload, 1) := by decide +kernel
theorem d_MD_byteAt_32 : decode c_MD_byteAt 32 = .ok (.iconst 2, 1) := by decide +kernel
theorem d_MD_byteAt_33 : decode c_MD_byteAt 33 = .ok (.if_icmp .ne 18, 3) := by decide +kernel
theorem d_MD_byteAt_36 : decode c_MD_byteAt 36 = .ok (.iload_n 3, 1) := by decide +kernel
theorem d_MD_byteAt_37 : decode c_MD_byteAt 37 = .ok (.ifCond .lt 14, 3) := by decide +kernel
theorem d_MD_byteAt_40 : decode c_MD_byteAt 40 = .ok (.iload_n 3, 1) := by decide +kernel
theorem d_MD_byteAt_41 : decode c_MD_byteAt 41 = .ok (.aload_n 0, 1) := by decide +kernel
theorem d_MD_byteAt_42 : decode c_MD_byteAt 42 = .ok (.getfield 17, 3) := by decide +kernel
theorem d_MD_byteAt_45 : decode c_MD_byteAt 45 = .ok (.iload 4, 2) := by decide +kernel
theorem d_MD_byteAt_47 : decode c_MD_byteAt 47 = .ok (.iaload, 1) := by decide +kernel
theorem d_MD_byteAt_48 : decode c_MD_byteAt 48 = .ok (.if_icmp .lt 7, 3) := by decide +kernel
theorem d_MD_byteAt_51 : decode c_MD_byteAt 51 = .ok (.iconst (-1), 1) := by decide +kernel
theorem d_MD_byteAt_52 : decode c_MD_byteAt 52 = .ok (.goto 19, 3) := by decide +kernel
theorem d_MD_byteAt_55 : decode c_MD_byteAt 55 = .ok (.aload_n 0, 1) := by decide +kernel
theorem d_MD_byteAt_56 : decode c_MD_byteAt 56 = .ok (.getfield 21, 3) := by decide +kernel
theorem d_MD_byteAt_59 : decode c_MD_byteAt 59 = .ok (.bipush 64, 2) := by decide +kernel
theorem d_MD_byteAt_61 : decode c_MD_byteAt 61 = .ok (.iload 4, 2) := by decide +kernel
theorem d_MD_byteAt_63 : decode c_MD_byteAt 63 = .ok (.imul, 1) := by decide +kernel
theorem d_MD_byteAt_64 : decode c_MD_byteAt 64 = .ok (.iload_n 3, 1) := by decide +kernel
theorem d_MD_byteAt_65 : decode c_MD_byteAt 65 = .ok (.iadd, 1) := by decide +kernel
theorem d_MD_byteAt_66 : decode c_MD_byteAt 66 = .ok (.baload, 1) := by decide +kernel
theorem d_MD_byteAt_67 : decode c_MD_byteAt 67 = .ok (.sipush 255, 3) := by decide +kernel
theorem d_MD_byteAt_70 : decode c_MD_byteAt 70 = .ok (.iand, 1) := by decide +kernel
theorem d_MD_byteAt_71 : decode c_MD_byteAt 71 = .ok (.ireturn, 1) := by decide +kernel
theorem d_MD_compare_0 : decode c_MD_compare 0 = .ok (.aload_n 0, 1) := by decide +kernel
theorem d_MD_compare_1 : decode c_MD_compare 1 = .ok (.aload_n 0, 1) := by decide +kernel
theorem d_MD_compare_2 : decode c_MD_compare 2 = .ok (.iload_n 1, 1) := by decide +kernel
theorem d_MD_compare_3 : decode c_MD_compare 3 = .ok (.invokevirtual 92, 3) := by decide +kernel
theorem d_MD_compare_6 : decode c_MD_compare 6 = .ok (.ifCond .eq 15, 3) := by decide +kernel
theorem d_MD_compare_9 : decode c_MD_compare 9 = .ok (.aload_n 0, 1) := by decide +kernel
theorem d_MD_compare_10 : decode c_MD_compare 10 = .ok (.iload_n 2, 1) := by decide +kernel
theorem d_MD_compare_11 : decode c_MD_compare 11 = .ok (.invokevirtual 92, 3) := by decide +kernel
theorem d_MD_compare_14 : decode c_MD_compare 14 = .ok (.ifCond .eq 7, 3) := by decide +kernel
theorem d_MD_compare_17 : decode c_MD_compare 17 = .ok (.iconst 0, 1) := by decide +kernel
theorem d_MD_compare_18 : decode c_MD_compare 18 = .ok (.goto 4, 3) := by decide +kernel
theorem d_MD_compare_21 : decode c_MD_compare 21 = .ok (.iconst 1, 1) := by decide +kernel
theorem d_MD_compare_22 : decode c_MD_compare 22 = .ok (.putfield 50, 3) := by decide +kernel
theorem d_MD_compare_25 : decode c_MD_compare 25 = .ok (.aload_n 0, 1) := by decide +kernel
theorem d_MD_compare_26 : decode c_MD_compare 26 = .ok (.getfield 50, 3) := by decide +kernel
theorem d_MD_compare_29 : decode c_MD_compare 29 = .ok (.ifCond .le 5, 3) := by decide +kernel
theorem d_MD_compare_32 : decode c_MD_compare 32 = .ok (.iconst 0, 1) := by decide +kernel
theorem d_MD_compare_33 : decode c_MD_compare 33 = .ok (.ireturn, 1) := by decide +kernel
theorem d_MD_compare_34 : decode c_MD_compare 34 = .ok (.aload_n 0, 1) := by decide +kernel
theorem d_MD_compare_35 : decode c_MD_compare 35 = .ok (.aload_n 0, 1) := by decide +kernel
theorem d_MD_compare_36 : decode c_MD_compare 36 = .ok (.getfield 38, 3) := by decide +kernel
theorem d_MD_compare_39 : decode c_MD_compare 39 = .ok (.iload_n 1, 1) := by decide +kernel
theorem d_MD_compare_40 : decode c_MD_compare 40 = .ok (.invokevirtual 121, 3) := by decide +kernel
theorem d_MD_compare_43 : decode c_MD_compare 43 = .ok (.aload_n 0, 1) := by decide +kernel
theorem d_MD_compare_44 : decode c_MD_compare 44 = .ok (.getfield 106, 3) := by decide +kernel
theorem d_MD_compare_47 : decode c_MD_compare 47 = .ok (.istore_n 3, 1) := by decide +kernel
theorem d_MD_compare_48 : decode c_MD_compare 48 = .ok (.aload_n 0, 1) := by decide +kernel
theorem d_MD_compare_49 : decode c_MD_compare 49 = .ok (.aload_n 0, 1) := by decide +kernel
theorem d_MD_compare_50 : decode c_MD_compare 50 = .ok (.getfield 41, 3) := by decide +kernel
theorem d_MD_compare_53 : decode c_MD_compare 53 = .ok (.iload_n 2, 1) := by decide +kernel
theorem d_MD_compare_54 : decode c_MD_compare 54 = .ok (.invokevirtual 121, 3) := by decide +kernel
theorem d_MD_compare_57 : decode c_MD_compare 57 = .ok (.iconst 0, 1) := by decide +kernel
theorem d_MD_compare_58 : decode c_MD_compare 58 = .ok (.istore 4, 2) := by decide +kernel
theorem d_MD_compare_60 : decode c_MD_compare 60 = .ok (.iload 4, 2) := by decide +kernel
theorem d_MD_compare_62 : decode c_MD_compare 62 = .ok (.iload_n 3, 1) := by decide +kernel
theorem d_MD_compare_63 : decode c_MD_compare 63 = .ok (.if_icmp .ge 64, 3) := by decide +kernel
theorem d_MD_compare_66 : decode c_MD_compare 66 = .ok (.iload 4, 2) := by decide +kernel
theorem d_MD_compare_68 : decode c_MD_compare 68 = .ok (.aload_n 0, 1) := by decide +kernel
theorem d_MD_compare_69 : decode c_MD_compare 69 = .ok (.getfield 106, 3) := by decide +kernel
theorem d_MD_compare_72 : decode c_MD_compare 72 = .ok (.if_icmp .ge 55, 3) := by decide +kernel
theorem d_MD_compare_75 : decode c_MD_compare 75 = .ok (.aload_n 0, 1) := by decide +kernel
theorem d_MD_compare_76 : decode c_MD_compare 76 = .ok (.getfield 38, 3) := by decide +kernel
theorem d_MD_compare_79 : decode c_MD_compare 79 = .ok (.iload 4, 2) := by decide +kernel
theorem d_MD_compare_81 : decode c_MD_compare 81 = .ok (.baload, 1) := by decide +kernel
theorem d_MD_compare_82 : decode c_MD_compare 82 = .ok (.sipush 255, 3) := by decide +kernel
theorem d_MD_compare_85 : decode c_MD_compare 85 = .ok (.iand, 1) := by decide +kernel
theorem d_MD_compare_86 : decode c_MD_compare 86 = .ok (.istore 5, 2) := by decide +kernel
theorem d_MD_compare_88 : decode c_MD_compare 88 = .ok (.aload_n 0, 1) := by decide +kernel
theorem d_MD_compare_89 : decode c_MD_compare 89 = .ok (.getfield 41, 3) := by decide +kernel
theorem d_MD_compare_92 : decode c_MD_compare 92 = .ok (.iload 4, 2) := by decide +kernel
theorem d_MD_compare_94 : decode c_MD_compare 94 = .ok (.baload, 1) := by decide +kernel
theorem d_MD_compare_95 : decode c_MD_compare 95 = .ok (.sipush 255, 3) := by decide +kernel
theorem d_MD_compare_98 : decode c_MD_compare 98 = .ok (.iand, 1) := by decide +kernel
theorem d_MD_compare_99 : decode c_MD_compare 99 = .ok (.istore 6, 2) := by decide +kernel
theorem d_MD_compare_101 : decode c_MD_compare 101 = .ok (.iload 5, 2) := by decide +kernel
theorem d_MD_compare_103 : decode c_MD_compare 103 = .ok (.iload 6, 2) := by decide +kernel
theorem d_MD_compare_105 : decode c_MD_compare 105 = .ok (.if_icmp .eq 16, 3) := by decide +kernel
theorem d_MD_compare_108 : decode c_MD_compare 108 = .ok (.iload 5, 2) := by decide +kernel
theorem d_MD_compare_110 : decode c_MD_compare 110 = .ok (.iload 6, 2) := by decide +kernel
theorem d_MD_compare_112 : decode c_MD_compare 112 = .ok (.if_icmp .ge 7, 3) := by decide +kernel
theorem d_MD_compare_115 : decode c_MD_compare 115 = .ok (.iconst (-1), 1) := by decide +kernel
theorem d_MD_compare_116 : decode c_MD_compare 116 = .ok (.goto 4, 3) := by decide +kernel
theorem d_MD_compare_119 : decode c_MD_compare 119 = .ok (.iconst 1, 1) := by decide +kernel
theorem d_MD_compare_120 : decode c_MD_compare 120 = .ok (.ireturn, 1) := by decide +kernel
theorem d_MD_compare_121 : decode c_MD_compare 121 = .ok (.iinc 4 1, 3) := by decide +kernel
theorem d_MD_compare_124 : decode c_MD_compare 124 = .ok (.goto (-64), 3) := by decide +kernel
theorem d_MD_compare_127 : decode c_MD_compare 127 = .ok (.iload_n 3, 1) := by decide +kernel
theorem d_MD_compare_128 : decode c_MD_compare 128 = .ok (.aload_n 0, 1) := by decide +kernel
theorem d_MD_compare_129 : decode c_MD_compare 129 = .ok (.getfield 106, 3) := by decide +kernel
theorem d_MD_compare_132 : decode c_MD_compare 132 = .ok (.if_icmp .ge 7, 3) := by decide +kernel
theorem d_MD_compare_135 : decode c_MD_compare 135 = .ok (.iconst (-1), 1) := by decide +kernel
theorem d_MD_compare_136 : decode c_MD_compare 136 = .ok (.goto 16, 3) := by decide +kernel
theorem d_MD_compare_139 : decode c_MD_compare 139 = .ok (.iload_n 3, 1) := by decide +kernel
theorem d_MD_compare_140 : decode c_MD_compare 140 = .ok (.aload_n 0, 1) := by decide +kernel
theorem d_MD_compare_141 : decode c_MD_compare 141 = .ok (.getfield 106, 3) := by decide +kernel
theorem d_MD_compare_144 : decode c_MD_compare 144 = .ok (.if_icmp .le 7, 3) := by decide +kernel
theorem d_MD_compare_147 : decode c_MD_compare 147 = .ok (.iconst 1, 1) := by decide +kernel
theorem d_MD_compare_148 : decode c_MD_compare 148 = .ok (.goto 4, 3) := by decide +kernel
theorem d_MD_compare_151 : decode c_MD_compare 151 = .ok (.iconst 0, 1) := by decide +kernel
theorem d_MD_compare_152 : decode c_MD_compare 152 = .ok (.ireturn, 1) := by decide +kernel
theorem d_MD_output_0 : decode c_MD_output 0 = .ok (.aload_n 0, 1) := by decide +kernel
theorem d_MD_output_1 : decode c_MD_output 1 = .ok (.iconst 0, 1) := by decide +kernel
theorem d_MD_output_2 : decode c_MD_output 2 = .ok (.putfield 50, 3) := by decide +kernel
theorem d_MD_output_5 : decode c_MD_output 5 = .ok (.iload_n 1, 1) := by decide +kernel
theorem d_MD_output_6 : decode c_MD_output 6 = .ok (.ifCond .lt 11, 3) := by decide +kernel
theorem d_MD_output_9 : decode c_MD_output 9 = .ok (.iload_n 1, 1) := by decide +kernel
theorem d_MD_output_10 : decode c_MD_output 10 = .ok (.aload_n 0, 1) := by decide +kernel
theorem d_MD_output_11 : decode c_MD_output 11 = .ok (.getfield 125, 3) := by decide +kernel
theorem d_MD_output_14 : decode c_MD_output 14 = .ok (.if_icmp .lt 7, 3) := by decide +kernel
theorem d_MD_output_17 : decode c_MD_output 17 = .ok (.iconst (-1), 1) := by decide +kernel
theorem d_MD_output_18 : decode c_MD_output 18 = .ok (.goto 13, 3) := by decide +kernel
theorem d_MD_output_21 : decode c_MD_output 21 = .ok (.aload_n 0, 1) := by decide +kernel
theorem d_MD_output_22 : decode c_MD_output 22 = .ok (.getfield 28, 3) := by decide +kernel
theorem d_MD_output_25 : decode c_MD_output 25 = .ok (.iload_n 1, 1) := by decide +kernel
theorem d_MD_output_26 : decode c_MD_output 26 = .ok (.baload, 1) := by decide +kernel
theorem d_MD_output_27 : decode c_MD_output 27 = .ok (.sipush 255, 3) := by decide +kernel
theorem d_MD_output_30 : decode c_MD_output 30 = .ok (.iand, 1) := by decide +kernel
theorem d_MD_output_31 : decode c_MD_output 31 = .ok (.ireturn, 1) := by decide +kernel
theorem d_MD_lengthOfTop_0 : decode c_MD_lengthOfTop 0 = .ok (.aload_n 0, 1) := by decide +kernel
theorem d_MD_lengthOfTop_1 : decode c_MD_lengthOfTop 1 = .ok (.getfield 53, 3) := by decide +kernel
theorem d_MD_lengthOfTop_4 : decode c_MD_lengthOfTop 4 = .ok (.ifCond .ne 5, 3) := by decide +kernel
theorem d_MD_lengthOfTop_7 : decode c_MD_lengthOfTop 7 = .ok (.iconst (-1), 1) := by decide +kernel
theorem d_MD_lengthOfTop_8 : decode c_MD_lengthOfTop 8 = .ok (.ireturn, 1) := by decide +kernel
theorem d_MD_lengthOfTop_9 : decode c_MD_lengthOfTop 9 = .ok (.aload_n 0, 1) := by decide +kernel
theorem d_MD_lengthOfTop_10 : decode c_MD_lengthOfTop 10 = .ok (.aload_n 0, 1) := by decide +kernel
theorem d_MD_lengthOfTop_11 : decode c_MD_lengthOfTop 11 = .ok (.getfield 38, 3) := by decide +kernel
theorem d_MD_lengthOfTop_14 : decode c_MD_lengthOfTop 14 = .ok (.iconst 0, 1) := by decide +kernel
theorem d_MD_lengthOfTop_15 : decode c_MD_lengthOfTop 15 = .ok (.invokevirtual 121, 3) := by decide +kernel
theorem d_MD_lengthOfTop_18 : decode c_MD_lengthOfTop 18 = .ok (.aload_n 0, 1) := by decide +kernel
theorem d_MD_lengthOfTop_19 : decode c_MD_lengthOfTop 19 = .ok (.getfield 106, 3) := by decide +kernel
theorem d_MD_lengthOfTop_22 : decode c_MD_lengthOfTop 22 = .ok (.ireturn, 1) := by decide +kernel
theorem d_MD_look_0 : decode c_MD_look 0 = .ok (.aload_n 0, 1) := by decide +kernel
theorem d_MD_look_1 : decode c_MD_look 1 = .ok (.iconst 0, 1) := by decide +kernel
theorem d_MD_look_2 : decode c_MD_look 2 = .ok (.putfield 50, 3) := by decide +kernel
theorem d_MD_look_5 : decode c_MD_look 5 = .ok (.iload_n 1, 1) := by decide +kernel
theorem d_MD_look_6 : decode c_MD_look 6 = .ok (.tableswitch 86 0 7 #[46, 51, 56, 61, 66, 71, 76, 81], 46) := by decide +kernel
theorem d_MD_look_52 : decode c_MD_look 52 = .ok (.aload_n 0, 1) := by decide +kernel
theorem d_MD_look_53 : decode c_MD_look 53 = .ok (.getfield 53, 3) := by decide +kernel
theorem d_MD_look_56 : decode c_MD_look 56 = .ok (.ireturn, 1) := by decide +kernel
theorem d_MD_look_57 : decode c_MD_look 57 = .ok (.aload_n 0, 1) := by decide +kernel
theorem d_MD_look_58 : decode c_MD_look 58 = .ok (.getfield 56, 3) := by decide +kernel
theorem d_MD_look_61 : decode c_MD_look 61 = .ok (.ireturn, 1) := by decide +kernel
theorem d_MD_look_62 : decode c_MD_look 62 = .ok (.aload_n 0, 1) := by decide +kernel
theorem d_MD_look_63 : decode c_MD_look 63 = .ok (.getfield 125, 3) := by decide +kernel
theorem d_MD_look_66 : decode c_MD_look 66 = .ok (.ireturn, 1) := by decide +kernel
theorem d_MD_look_67 : decode c_MD_look 67 = .ok (.aload_n 0, 1) := by decide +kernel
theorem d_MD_look_68 : decode c_MD_look 68 = .ok (.getfield 128, 3) := by decide +kernel
theorem d_MD_look_71 : decode c_MD_look 71 = .ok (.ireturn, 1) := by decide +kernel
theorem d_MD_look_72 : decode c_MD_look 72 = .ok (.aload_n 0, 1) := by decide +kernel
theorem d_MD_look_73 : decode c_MD_look 73 = .ok (.getfield 131, 3) := by decide +kernel
theorem d_MD_look_76 : decode c_MD_look 76 = .ok (.ireturn, 1) := by decide +kernel
theorem d_MD_look_77 : decode c_MD_look 77 = .ok (.aload_n 0, 1) := by decide +kernel
theorem d_MD_look_78 : decode c_MD_look 78 = .ok (.getfield 190, 3) := by decide +kernel
theorem d_MD_look_81 : decode c_MD_look 81 = .ok (.ireturn, 1) := by decide +kernel
theorem d_MD_look_82 : decode c_MD_look 82 = .ok (.aload_n 0, 1) := by decide +kernel
theorem d_MD_look_83 : decode c_MD_look 83 = .ok (.getfield 34, 3) := by decide +kernel
theorem d_MD_look_86 : decode c_MD_look 86 = .ok (.ireturn, 1) := by decide +kernel
theorem d_MD_look_87 : decode c_MD_look 87 = .ok (.aload_n 0, 1) := by decide +kernel
theorem d_MD_look_88 : decode c_MD_look 88 = .ok (.invokevirtual 200, 3) := by decide +kernel
theorem d_MD_look_91 : decode c_MD_look 91 = .ok (.ireturn, 1) := by decide +kernel
theorem d_MD_look_92 : decode c_MD_look 92 = .ok (.iconst (-1), 1) := by decide +kernel
theorem d_MD_look_93 : decode c_MD_look 93 = .ok (.ireturn, 1) := by decide +kernel

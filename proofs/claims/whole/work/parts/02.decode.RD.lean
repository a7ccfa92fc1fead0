theorem d_RD_init_0 : decode c_RD_init 0 = .ok (.aload_n 0, 1) := by decide +kernel
theorem d_RD_init_1 : decode c_RD_init 1 = .ok (.invokespecial 3, 3) := by decide +kernel
theorem d_RD_init_4 : decode c_RD_init 4 = .ok (.aload_n 0, 1) := by decide +kernel
theorem d_RD_init_5 : decode c_RD_init 5 = .ok (.aload_n 1, 1) := by decide +kernel
theorem d_RD_init_6 : decode c_RD_init 6 = .ok (.putfield 9, 3) := by decide +kernel
theorem d_RD_init_9 : decode c_RD_init 9 = .ok (.aload_n 0, 1) := by decide +kernel
theorem d_RD_init_10 : decode c_RD_init 10 = .ok (.iload_n 2, 1) := by decide +kernel
theorem d_RD_init_11 : decode c_RD_init 11 = .ok (.putfield 15, 3) := by decide +kernel
theorem d_RD_init_14 : decode c_RD_init 14 = .ok (.aload_n 0, 1) := by decide +kernel
theorem d_RD_init_15 : decode c_RD_init 15 = .ok (.aload_n 3, 1) := by decide +kernel
theorem d_RD_init_16 : decode c_RD_init 16 = .ok (.putfield 19, 3) := by decide +kernel
theorem d_RD_init_19 : decode c_RD_init 19 = .ok (.aload_n 0, 1) := by decide +kernel
theorem d_RD_init_20 : decode c_RD_init 20 = .ok (.iload 4, 2) := by decide +kernel
theorem d_RD_init_22 : decode c_RD_init 22 = .ok (.putfield 23, 3) := by decide +kernel
theorem d_RD_init_25 : decode c_RD_init 25 = .ok (.aload_n 0, 1) := by decide +kernel
theorem d_RD_init_26 : decode c_RD_init 26 = .ok (.iload 4, 2) := by decide +kernel
theorem d_RD_init_28 : decode c_RD_init 28 = .ok (.putfield 26, 3) := by decide +kernel
theorem d_RD_init_31 : decode c_RD_init 31 = .ok (.return_, 1) := by decide +kernel
theorem d_RD_takeData_0 : decode c_RD_takeData 0 = .ok (.aload_n 0, 1) := by decide +kernel
theorem d_RD_takeData_1 : decode c_RD_takeData 1 = .ok (.iconst 1, 1) := by decide +kernel
theorem d_RD_takeData_2 : decode c_RD_takeData 2 = .ok (.invokevirtual 29, 3) := by decide +kernel
theorem d_RD_takeData_5 : decode c_RD_takeData 5 = .ok (.ireturn, 1) := by decide +kernel
theorem d_RD_takeNode_0 : decode c_RD_takeNode 0 = .ok (.aload_n 0, 1) := by decide +kernel
theorem d_RD_takeNode_1 : decode c_RD_takeNode 1 = .ok (.iload_n 1, 1) := by decide +kernel
theorem d_RD_takeNode_2 : decode c_RD_takeNode 2 = .ok (.invokevirtual 33, 3) := by decide +kernel
theorem d_RD_takeNode_5 : decode c_RD_takeNode 5 = .ok (.istore_n 2, 1) := by decide +kernel
theorem d_RD_takeNode_6 : decode c_RD_takeNode 6 = .ok (.iload_n 2, 1) := by decide +kernel
theorem d_RD_takeNode_7 : decode c_RD_takeNode 7 = .ok (.ifCond .eq 5, 3) := by decide +kernel
theorem d_RD_takeNode_10 : decode c_RD_takeNode 10 = .ok (.iload_n 2, 1) := by decide +kernel
theorem d_RD_takeNode_11 : decode c_RD_takeNode 11 = .ok (.ireturn, 1) := by decide +kernel
theorem d_RD_takeNode_12 : decode c_RD_takeNode 12 = .ok (.aload_n 0, 1) := by decide +kernel
theorem d_RD_takeNode_13 : decode c_RD_takeNode 13 = .ok (.getfield 26, 3) := by decide +kernel
theorem d_RD_takeNode_16 : decode c_RD_takeNode 16 = .ok (.istore_n 3, 1) := by decide +kernel
theorem d_RD_takeNode_17 : decode c_RD_takeNode 17 = .ok (.aload_n 0, 1) := by decide +kernel
theorem d_RD_takeNode_18 : decode c_RD_takeNode 18 = .ok (.dup, 1) := by decide +kernel
theorem d_RD_takeNode_19 : decode c_RD_takeNode 19 = .ok (.getfield 26, 3) := by decide +kernel
theorem d_RD_takeNode_22 : decode c_RD_takeNode 22 = .ok (.iconst 1, 1) := by decide +kernel
theorem d_RD_takeNode_23 : decode c_RD_takeNode 23 = .ok (.iadd, 1) := by decide +kernel
theorem d_RD_takeNode_24 : decode c_RD_takeNode 24 = .ok (.putfield 26, 3) := by decide +kernel
theorem d_RD_takeNode_27 : decode c_RD_takeNode 27 = .ok (.aload_n 0, 1) := by decide +kernel
theorem d_RD_takeNode_28 : decode c_RD_takeNode 28 = .ok (.getfield 36, 3) := by decide +kernel
theorem d_RD_takeNode_31 : decode c_RD_takeNode 31 = .ok (.tableswitch 90 0 6 #[41, 57, 77, 90, 90, 90, 83], 41) := by decide +kernel
theorem d_RD_takeNode_72 : decode c_RD_takeNode 72 = .ok (.aload_n 0, 1) := by decide +kernel
theorem d_RD_takeNode_73 : decode c_RD_takeNode 73 = .ok (.getfield 19, 3) := by decide +kernel
theorem d_RD_takeNode_76 : decode c_RD_takeNode 76 = .ok (.iload_n 3, 1) := by decide +kernel
theorem d_RD_takeNode_77 : decode c_RD_takeNode 77 = .ok (.iconst 0, 1) := by decide +kernel
theorem d_RD_takeNode_78 : decode c_RD_takeNode 78 = .ok (.iconst 0, 1) := by decide +kernel
theorem d_RD_takeNode_79 : decode c_RD_takeNode 79 = .ok (.aload_n 0, 1) := by decide +kernel
theorem d_RD_takeNode_80 : decode c_RD_takeNode 80 = .ok (.getfield 39, 3) := by decide +kernel
theorem d_RD_takeNode_83 : decode c_RD_takeNode 83 = .ok (.invokevirtual 43, 3) := by decide +kernel
theorem d_RD_takeNode_86 : decode c_RD_takeNode 86 = .ok (.iconst 0, 1) := by decide +kernel
theorem d_RD_takeNode_87 : decode c_RD_takeNode 87 = .ok (.ireturn, 1) := by decide +kernel
theorem d_RD_takeNode_88 : decode c_RD_takeNode 88 = .ok (.aload_n 0, 1) := by decide +kernel
theorem d_RD_takeNode_89 : decode c_RD_takeNode 89 = .ok (.getfield 19, 3) := by decide +kernel
theorem d_RD_takeNode_92 : decode c_RD_takeNode 92 = .ok (.iload_n 3, 1) := by decide +kernel
theorem d_RD_takeNode_93 : decode c_RD_takeNode 93 = .ok (.iconst 0, 1) := by decide +kernel
theorem d_RD_takeNode_94 : decode c_RD_takeNode 94 = .ok (.iconst 0, 1) := by decide +kernel
theorem d_RD_takeNode_95 : decode c_RD_takeNode 95 = .ok (.ldc2_w 49, 3) := by decide +kernel
theorem d_RD_takeNode_98 : decode c_RD_takeNode 98 = .ok (.aload_n 0, 1) := by decide +kernel
theorem d_RD_takeNode_99 : decode c_RD_takeNode 99 = .ok (.getfield 39, 3) := by decide +kernel
theorem d_RD_takeNode_102 : decode c_RD_takeNode 102 = .ok (.lsub, 1) := by decide +kernel
theorem d_RD_takeNode_103 : decode c_RD_takeNode 103 = .ok (.invokevirtual 43, 3) := by decide +kernel
theorem d_RD_takeNode_106 : decode c_RD_takeNode 106 = .ok (.iconst 0, 1) := by decide +kernel
theorem d_RD_takeNode_107 : decode c_RD_takeNode 107 = .ok (.ireturn, 1) := by decide +kernel
theorem d_RD_takeNode_108 : decode c_RD_takeNode 108 = .ok (.aload_n 0, 1) := by decide +kernel
theorem d_RD_takeNode_109 : decode c_RD_takeNode 109 = .ok (.iload_n 3, 1) := by decide +kernel
theorem d_RD_takeNode_110 : decode c_RD_takeNode 110 = .ok (.invokevirtual 51, 3) := by decide +kernel
theorem d_RD_takeNode_113 : decode c_RD_takeNode 113 = .ok (.ireturn, 1) := by decide +kernel
theorem d_RD_takeNode_114 : decode c_RD_takeNode 114 = .ok (.aload_n 0, 1) := by decide +kernel
theorem d_RD_takeNode_115 : decode c_RD_takeNode 115 = .ok (.iload_n 3, 1) := by decide +kernel
theorem d_RD_takeNode_116 : decode c_RD_takeNode 116 = .ok (.iload_n 1, 1) := by decide +kernel
theorem d_RD_takeNode_117 : decode c_RD_takeNode 117 = .ok (.invokevirtual 54, 3) := by decide +kernel
theorem d_RD_takeNode_120 : decode c_RD_takeNode 120 = .ok (.ireturn, 1) := by decide +kernel
theorem d_RD_takeNode_121 : decode c_RD_takeNode 121 = .ok (.aload_n 0, 1) := by decide +kernel
theorem d_RD_takeNode_122 : decode c_RD_takeNode 122 = .ok (.getfield 19, 3) := by decide +kernel
theorem d_RD_takeNode_125 : decode c_RD_takeNode 125 = .ok (.iload_n 3, 1) := by decide +kernel
theorem d_RD_takeNode_126 : decode c_RD_takeNode 126 = .ok (.aload_n 0, 1) := by decide +kernel
theorem d_RD_takeNode_127 : decode c_RD_takeNode 127 = .ok (.getfield 36, 3) := by decide +kernel
theorem d_RD_takeNode_130 : decode c_RD_takeNode 130 = .ok (.aload_n 0, 1) := by decide +kernel
theorem d_RD_takeNode_131 : decode c_RD_takeNode 131 = .ok (.invokevirtual 58, 3) := by decide +kernel
theorem d_RD_takeNode_134 : decode c_RD_takeNode 134 = .ok (.lconst 0, 1) := by decide +kernel
theorem d_RD_takeNode_135 : decode c_RD_takeNode 135 = .ok (.invokevirtual 43, 3) := by decide +kernel
theorem d_RD_takeNode_138 : decode c_RD_takeNode 138 = .ok (.aload_n 0, 1) := by decide +kernel
theorem d_RD_takeNode_139 : decode c_RD_takeNode 139 = .ok (.iload_n 3, 1) := by decide +kernel
theorem d_RD_takeNode_140 : decode c_RD_takeNode 140 = .ok (.iload_n 1, 1) := by decide +kernel
theorem d_RD_takeNode_141 : decode c_RD_takeNode 141 = .ok (.invokevirtual 62, 3) := by decide +kernel
theorem d_RD_takeNode_144 : decode c_RD_takeNode 144 = .ok (.ireturn, 1) := by decide +kernel
theorem d_RD_takeNodeHead_0 : decode c_RD_takeNodeHead 0 = .ok (.aload_n 0, 1) := by decide +kernel
theorem d_RD_takeNodeHead_1 : decode c_RD_takeNodeHead 1 = .ok (.iconst 0, 1) := by decide +kernel
theorem d_RD_takeNodeHead_2 : decode c_RD_takeNodeHead 2 = .ok (.invokevirtual 65, 3) := by decide +kernel
theorem d_RD_takeNodeHead_5 : decode c_RD_takeNodeHead 5 = .ok (.istore_n 2, 1) := by decide +kernel
theorem d_RD_takeNodeHead_6 : decode c_RD_takeNodeHead 6 = .ok (.iload_n 2, 1) := by decide +kernel
theorem d_RD_takeNodeHead_7 : decode c_RD_takeNodeHead 7 = .ok (.ifCond .eq 5, 3) := by decide +kernel
theorem d_RD_takeNodeHead_10 : decode c_RD_takeNodeHead 10 = .ok (.iload_n 2, 1) := by decide +kernel
theorem d_RD_takeNodeHead_11 : decode c_RD_takeNodeHead 11 = .ok (.ireturn, 1) := by decide +kernel
theorem d_RD_takeNodeHead_12 : decode c_RD_takeNodeHead 12 = .ok (.aload_n 0, 1) := by decide +kernel
theorem d_RD_takeNodeHead_13 : decode c_RD_takeNodeHead 13 = .ok (.invokevirtual 69, 3) := by decide +kernel
theorem d_RD_takeNodeHead_16 : decode c_RD_takeNodeHead 16 = .ok (.ifCond .ne 5, 3) := by decide +kernel
theorem d_RD_takeNodeHead_19 : decode c_RD_takeNodeHead 19 = .ok (.iconst 3, 1) := by decide +kernel
theorem d_RD_takeNodeHead_20 : decode c_RD_takeNodeHead 20 = .ok (.ireturn, 1) := by decide +kernel
theorem d_RD_takeNodeHead_21 : decode c_RD_takeNodeHead 21 = .ok (.iload_n 1, 1) := by decide +kernel
theorem d_RD_takeNodeHead_22 : decode c_RD_takeNodeHead 22 = .ok (.bipush 12, 2) := by decide +kernel
theorem d_RD_takeNodeHead_24 : decode c_RD_takeNodeHead 24 = .ok (.if_icmp .le 5, 3) := by decide +kernel
theorem d_RD_takeNodeHead_27 : decode c_RD_takeNodeHead 27 = .ok (.iconst 4, 1) := by decide +kernel
theorem d_RD_takeNodeHead_28 : decode c_RD_takeNodeHead 28 = .ok (.ireturn, 1) := by decide +kernel
theorem d_RD_takeNodeHead_29 : decode c_RD_takeNodeHead 29 = .ok (.aload_n 0, 1) := by decide +kernel
theorem d_RD_takeNodeHead_30 : decode c_RD_takeNodeHead 30 = .ok (.getfield 26, 3) := by decide +kernel
theorem d_RD_takeNodeHead_33 : decode c_RD_takeNodeHead 33 = .ok (.aload_n 0, 1) := by decide +kernel
theorem d_RD_takeNodeHead_34 : decode c_RD_takeNodeHead 34 = .ok (.getfield 23, 3) := by decide +kernel
theorem d_RD_takeNodeHead_37 : decode c_RD_takeNodeHead 37 = .ok (.isub, 1) := by decide +kernel
theorem d_RD_takeNodeHead_38 : decode c_RD_takeNodeHead 38 = .ok (.sipush 200, 3) := by decide +kernel
theorem d_RD_takeNodeHead_41 : decode c_RD_takeNodeHead 41 = .ok (.if_icmp .lt 7, 3) := by decide +kernel
theorem d_RD_takeNodeHead_44 : decode c_RD_takeNodeHead 44 = .ok (.iconst 5, 1) := by decide +kernel
theorem d_RD_takeNodeHead_45 : decode c_RD_takeNodeHead 45 = .ok (.goto 4, 3) := by decide +kernel
theorem d_RD_takeNodeHead_48 : decode c_RD_takeNodeHead 48 = .ok (.iconst 0, 1) := by decide +kernel
theorem d_RD_takeNodeHead_49 : decode c_RD_takeNodeHead 49 = .ok (.ireturn, 1) := by decide +kernel
theorem d_RD_takeHead_0 : decode c_RD_takeHead 0 = .ok (.aload_n 0, 1) := by decide +kernel
theorem d_RD_takeHead_1 : decode c_RD_takeHead 1 = .ok (.aload_n 0, 1) := by decide +kernel
theorem d_RD_takeHead_2 : decode c_RD_takeHead 2 = .ok (.getfield 15, 3) := by decide +kernel
theorem d_RD_takeHead_5 : decode c_RD_takeHead 5 = .ok (.putfield 73, 3) := by decide +kernel
theorem d_RD_takeHead_8 : decode c_RD_takeHead 8 = .ok (.aload_n 0, 1) := by decide +kernel
theorem d_RD_takeHead_9 : decode c_RD_takeHead 9 = .ok (.getfield 15, 3) := by decide +kernel
theorem d_RD_takeHead_12 : decode c_RD_takeHead 12 = .ok (.aload_n 0, 1) := by decide +kernel
theorem d_RD_takeHead_13 : decode c_RD_takeHead 13 = .ok (.getfield 9, 3) := by decide +kernel
theorem d_RD_takeHead_16 : decode c_RD_takeHead 16 = .ok (.getfield 76, 3) := by decide +kernel
theorem d_RD_takeHead_19 : decode c_RD_takeHead 19 = .ok (.if_icmp .lt 8, 3) := by decide +kernel
theorem d_RD_takeHead_22 : decode c_RD_takeHead 22 = .ok (.aload_n 0, 1) := by decide +kernel
theorem d_RD_takeHead_23 : decode c_RD_takeHead 23 = .ok (.invokevirtual 81, 3) := by decide +kernel
theorem d_RD_takeHead_26 : decode c_RD_takeHead 26 = .ok (.ireturn, 1) := by decide +kernel
theorem d_RD_takeHead_27 : decode c_RD_takeHead 27 = .ok (.aload_n 0, 1) := by decide +kernel
theorem d_RD_takeHead_28 : decode c_RD_takeHead 28 = .ok (.getfield 9, 3) := by decide +kernel
theorem d_RD_takeHead_31 : decode c_RD_takeHead 31 = .ok (.aload_n 0, 1) := by decide +kernel
theorem d_RD_takeHead_32 : decode c_RD_takeHead 32 = .ok (.getfield 15, 3) := by decide +kernel
theorem d_RD_takeHead_35 : decode c_RD_takeHead 35 = .ok (.invokevirtual 84, 3) := by decide +kernel
theorem d_RD_takeHead_38 : decode c_RD_takeHead 38 = .ok (.istore_n 2, 1) := by decide +kernel
theorem d_RD_takeHead_39 : decode c_RD_takeHead 39 = .ok (.iload_n 2, 1) := by decide +kernel
theorem d_RD_takeHead_40 : decode c_RD_takeHead 40 = .ok (.bipush 31, 2) := by decide +kernel
theorem d_RD_takeHead_42 : decode c_RD_takeHead 42 = .ok (.iand, 1) := by decide +kernel
theorem d_RD_takeHead_43 : decode c_RD_takeHead 43 = .ok (.istore_n 3, 1) := by decide +kernel
theorem d_RD_takeHead_44 : decode c_RD_takeHead 44 = .ok (.aload_n 0, 1) := by decide +kernel
theorem d_RD_takeHead_45 : decode c_RD_takeHead 45 = .ok (.iload_n 2, 1) := by decide +kernel
theorem d_RD_takeHead_46 : decode c_RD_takeHead 46 = .ok (.iconst 5, 1) := by decide +kernel
theorem d_RD_takeHead_47 : decode c_RD_takeHead 47 = .ok (.ishr, 1) := by decide +kernel
theorem d_RD_takeHead_48 : decode c_RD_takeHead 48 = .ok (.putfield 36, 3) := by decide +kernel
theorem d_RD_takeHead_51 : decode c_RD_takeHead 51 = .ok (.aload_n 0, 1) := by decide +kernel
theorem d_RD_takeHead_52 : decode c_RD_takeHead 52 = .ok (.dup, 1) := by decide +kernel
theorem d_RD_takeHead_53 : decode c_RD_takeHead 53 = .ok (.getfield 15, 3) := by decide +kernel
theorem d_RD_takeHead_56 : decode c_RD_takeHead 56 = .ok (.iconst 1, 1) := by decide +kernel
theorem d_RD_takeHead_57 : decode c_RD_takeHead 57 = .ok (.iadd, 1) := by decide +kernel
theorem d_RD_takeHead_58 : decode c_RD_takeHead 58 = .ok (.putfield 15, 3) := by decide +kernel
theorem d_RD_takeHead_61 : decode c_RD_takeHead 61 = .ok (.iload_n 3, 1) := by decide +kernel
theorem d_RD_takeHead_62 : decode c_RD_takeHead 62 = .ok (.bipush 27, 2) := by decide +kernel
theorem d_RD_takeHead_64 : decode c_RD_takeHead 64 = .ok (.if_icmp .gt 32, 3) := by decide +kernel
theorem d_RD_takeHead_67 : decode c_RD_takeHead 67 = .ok (.aload_n 0, 1) := by decide +kernel
theorem d_RD_takeHead_68 : decode c_RD_takeHead 68 = .ok (.getfield 36, 3) := by decide +kernel
theorem d_RD_takeHead_71 : decode c_RD_takeHead 71 = .ok (.iconst 3, 1) := by decide +kernel
theorem d_RD_takeHead_72 : decode c_RD_takeHead 72 = .ok (.if_icmp .eq 24, 3) := by decide +kernel
theorem d_RD_takeHead_75 : decode c_RD_takeHead 75 = .ok (.aload_n 0, 1) := by decide +kernel
theorem d_RD_takeHead_76 : decode c_RD_takeHead 76 = .ok (.getfield 36, 3) := by decide +kernel
theorem d_RD_takeHead_79 : decode c_RD_takeHead 79 = .ok (.bipush 7, 2) := by decide +kernel
theorem d_RD_takeHead_81 : decode c_RD_takeHead 81 = .ok (.if_icmp .eq 15, 3) := by decide +kernel
theorem d_RD_takeHead_84 : decode c_RD_takeHead 84 = .ok (.iload_n 1, 1) := by decide +kernel
theorem d_RD_takeHead_85 : decode c_RD_takeHead 85 = .ok (.ifCond .eq 13, 3) := by decide +kernel
theorem d_RD_takeHead_88 : decode c_RD_takeHead 88 = .ok (.aload_n 0, 1) := by decide +kernel
theorem d_RD_takeHead_89 : decode c_RD_takeHead 89 = .ok (.getfield 36, 3) := by decide +kernel
theorem d_RD_takeHead_92 : decode c_RD_takeHead 92 = .ok (.iconst 4, 1) := by decide +kernel
theorem d_RD_takeHead_93 : decode c_RD_takeHead 93 = .ok (.if_icmp .eq 5, 3) := by decide +kernel
theorem d_RD_takeHead_96 : decode c_RD_takeHead 96 = .ok (.iconst 3, 1) := by decide +kernel
theorem d_RD_takeHead_97 : decode c_RD_takeHead 97 = .ok (.ireturn, 1) := by decide +kernel
theorem d_RD_takeHead_98 : decode c_RD_takeHead 98 = .ok (.aload_n 0, 1) := by decide +kernel
theorem d_RD_takeHead_99 : decode c_RD_takeHead 99 = .ok (.iload_n 3, 1) := by decide +kernel
theorem d_RD_takeHead_100 : decode c_RD_takeHead 100 = .ok (.i2l, 1) := by decide +kernel
theorem d_RD_takeHead_101 : decode c_RD_takeHead 101 = .ok (.putfield 39, 3) := by decide +kernel
theorem d_RD_takeHead_104 : decode c_RD_takeHead 104 = .ok (.iload_n 3, 1) := by decide +kernel
theorem d_RD_takeHead_105 : decode c_RD_takeHead 105 = .ok (.invokestatic 87, 3) := by decide +kernel
theorem d_RD_takeHead_108 : decode c_RD_takeHead 108 = .ok (.istore 4, 2) := by decide +kernel
theorem d_RD_takeHead_110 : decode c_RD_takeHead 110 = .ok (.iload 4, 2) := by decide +kernel
theorem d_RD_takeHead_112 : decode c_RD_takeHead 112 = .ok (.ifCond .ne 5, 3) := by decide +kernel
theorem d_RD_takeHead_115 : decode c_RD_takeHead 115 = .ok (.iconst 0, 1) := by decide +kernel
theorem d_RD_takeHead_116 : decode c_RD_takeHead 116 = .ok (.ireturn, 1) := by decide +kernel
theorem d_RD_takeHead_117 : decode c_RD_takeHead 117 = .ok (.iload 4, 2) := by decide +kernel
theorem d_RD_takeHead_119 : decode c_RD_takeHead 119 = .ok (.aload_n 0, 1) := by decide +kernel
theorem d_RD_takeHead_120 : decode c_RD_takeHead 120 = .ok (.getfield 9, 3) := by decide +kernel
theorem d_RD_takeHead_123 : decode c_RD_takeHead 123 = .ok (.getfield 76, 3) := by decide +kernel
theorem d_RD_takeHead_126 : decode c_RD_takeHead 126 = .ok (.aload_n 0, 1) := by decide +kernel
theorem d_RD_takeHead_127 : decode c_RD_takeHead 127 = .ok (.getfield 15, 3) := by decide +kernel
theorem d_RD_takeHead_130 : decode c_RD_takeHead 130 = .ok (.isub, 1) := by decide +kernel
theorem d_RD_takeHead_131 : decode c_RD_takeHead 131 = .ok (.if_icmp .le 8, 3) := by decide +kernel
theorem d_RD_takeHead_134 : decode c_RD_takeHead 134 = .ok (.aload_n 0, 1) := by decide +kernel
theorem d_RD_takeHead_135 : decode c_RD_takeHead 135 = .ok (.invokevirtual 81, 3) := by decide +kernel
theorem d_RD_takeHead_138 : decode c_RD_takeHead 138 = .ok (.ireturn, 1) := by decide +kernel
theorem d_RD_takeHead_139 : decode c_RD_takeHead 139 = .ok (.aload_n 0, 1) := by decide +kernel
theorem d_RD_takeHead_140 : decode c_RD_takeHead 140 = .ok (.iload 4, 2) := by decide +kernel
theorem d_RD_takeHead_142 : decode c_RD_takeHead 142 = .ok (.invokevirtual 90, 3) := by decide +kernel
theorem d_RD_takeHead_145 : decode c_RD_takeHead 145 = .ok (.aload_n 0, 1) := by decide +kernel
theorem d_RD_takeHead_146 : decode c_RD_takeHead 146 = .ok (.getfield 39, 3) := by decide +kernel
theorem d_RD_takeHead_149 : decode c_RD_takeHead 149 = .ok (.invokestatic 94, 3) := by decide +kernel
theorem d_RD_takeHead_152 : decode c_RD_takeHead 152 = .ok (.iload_n 3, 1) := by decide +kernel
theorem d_RD_takeHead_153 : decode c_RD_takeHead 153 = .ok (.if_icmp .ne 7, 3) := by decide +kernel
theorem d_RD_takeHead_156 : decode c_RD_takeHead 156 = .ok (.iconst 0, 1) := by decide +kernel
theorem d_RD_takeHead_157 : decode c_RD_takeHead 157 = .ok (.goto 4, 3) := by decide +kernel
theorem d_RD_takeHead_160 : decode c_RD_takeHead 160 = .ok (.iconst 2, 1) := by decide +kernel
theorem d_RD_takeHead_161 : decode c_RD_takeHead 161 = .ok (.ireturn, 1) := by decide +kernel
theorem d_RD_endOfRow_0 : decode c_RD_endOfRow 0 = .ok (.aload_n 0, 1) := by decide +kernel
theorem d_RD_endOfRow_1 : decode c_RD_endOfRow 1 = .ok (.aload_n 0, 1) := by decide +kernel
theorem d_RD_endOfRow_2 : decode c_RD_endOfRow 2 = .ok (.getfield 9, 3) := by decide +kernel
theorem d_RD_endOfRow_5 : decode c_RD_endOfRow 5 = .ok (.getfield 76, 3) := by decide +kernel
theorem d_RD_endOfRow_8 : decode c_RD_endOfRow 8 = .ok (.putfield 73, 3) := by decide +kernel
theorem d_RD_endOfRow_11 : decode c_RD_endOfRow 11 = .ok (.iconst 1, 1) := by decide +kernel
theorem d_RD_endOfRow_12 : decode c_RD_endOfRow 12 = .ok (.ireturn, 1) := by decide +kernel
theorem d_RD_takeNumber_0 : decode c_RD_takeNumber 0 = .ok (.aload_n 0, 1) := by decide +kernel
theorem d_RD_takeNumber_1 : decode c_RD_takeNumber 1 = .ok (.lconst 0, 1) := by decide +kernel
theorem d_RD_takeNumber_2 : decode c_RD_takeNumber 2 = .ok (.putfield 39, 3) := by decide +kernel
theorem d_RD_takeNumber_5 : decode c_RD_takeNumber 5 = .ok (.iconst 0, 1) := by decide +kernel
theorem d_RD_takeNumber_6 : decode c_RD_takeNumber 6 = .ok (.istore_n 2, 1) := by decide +kernel
theorem d_RD_takeNumber_7 : decode c_RD_takeNumber 7 = .ok (.iload_n 2, 1) := by decide +kernel
theorem d_RD_takeNumber_8 : decode c_RD_takeNumber 8 = .ok (.iload_n 1, 1) := by decide +kernel
theorem d_RD_takeNumber_9 : decode c_RD_takeNumber 9 = .ok (.if_icmp .ge 43, 3) := by decide +kernel
theorem d_RD_takeNumber_12 : decode c_RD_takeNumber 12 = .ok (.aload_n 0, 1) := by decide +kernel
theorem d_RD_takeNumber_13 : decode c_RD_takeNumber 13 = .ok (.aload_n 0, 1) := by decide +kernel
theorem d_RD_takeNumber_14 : decode c_RD_takeNumber 14 = .ok (.getfield 39, 3) := by decide +kernel
theorem d_RD_takeNumber_17 : decode c_RD_takeNumber 17 = .ok (.bipush 8, 2) := by decide +kernel
theorem d_RD_takeNumber_19 : decode c_RD_takeNumber 19 = .ok (.lshl, 1) := by decide +kernel
theorem d_RD_takeNumber_20 : decode c_RD_takeNumber 20 = .ok (.aload_n 0, 1) := by decide +kernel
theorem d_RD_takeNumber_21 : decode c_RD_takeNumber 21 = .ok (.getfield 9, 3) := by decide +kernel
theorem d_RD_takeNumber_24 : decode c_RD_takeNumber 24 = .ok (.aload_n 0, 1) := by decide +kernel
theorem d_RD_takeNumber_25 : decode c_RD_takeNumber 25 = .ok (.getfield 15, 3) := by decide +kernel
theorem d_RD_takeNumber_28 : decode c_RD_takeNumber 28 = .ok (.invokevirtual 84, 3) := by decide +kernel
theorem d_RD_takeNumber_31 : decode c_RD_takeNumber 31 = .ok (.i2l, 1) := by decide +kernel
theorem d_RD_takeNumber_32 : decode c_RD_takeNumber 32 = .ok (.lor, 1) := by decide +kernel
theorem d_RD_takeNumber_33 : decode c_RD_takeNumber 33 = .ok (.putfield 39, 3) := by decide +kernel
theorem d_RD_takeNumber_36 : decode c_RD_takeNumber 36 = .ok (.aload_n 0, 1) := by decide +kernel
theorem d_RD_takeNumber_37 : decode c_RD_takeNumber 37 = .ok (.dup, 1) := by decide +kernel
theorem d_RD_takeNumber_38 : decode c_RD_takeNumber 38 = .ok (.getfield 15, 3) := by decide +kernel
theorem d_RD_takeNumber_41 : decode c_RD_takeNumber 41 = .ok (.iconst 1, 1) := by decide +kernel
theorem d_RD_takeNumber_42 : decode c_RD_takeNumber 42 = .ok (.iadd, 1) := by decide +kernel
theorem d_RD_takeNumber_43 : decode c_RD_takeNumber 43 = .ok (.putfield 15, 3) := by decide +kernel
theorem d_RD_takeNumber_46 : decode c_RD_takeNumber 46 = .ok (.iinc 2 1, 3) := by decide +kernel
theorem d_RD_takeNumber_49 : decode c_RD_takeNumber 49 = .ok (.goto (-42), 3) := by decide +kernel
theorem d_RD_takeNumber_52 : decode c_RD_takeNumber 52 = .ok (.return_, 1) := by decide +kernel
theorem d_RD_numberFits_0 : decode c_RD_numberFits 0 = .ok (.aload_n 0, 1) := by decide +kernel
theorem d_RD_numberFits_1 : decode c_RD_numberFits 1 = .ok (.getfield 36, 3) := by decide +kernel
theorem d_RD_numberFits_4 : decode c_RD_numberFits 4 = .ok (.tableswitch 135 0 6 #[44, 44, 59, 135, 135, 135, 85], 44) := by decide +kernel
theorem d_RD_numberFits_48 : decode c_RD_numberFits 48 = .ok (.aload_n 0, 1) := by decide +kernel
theorem d_RD_numberFits_49 : decode c_RD_numberFits 49 = .ok (.getfield 39, 3) := by decide +kernel
theorem d_RD_numberFits_52 : decode c_RD_numberFits 52 = .ok (.lconst 0, 1) := by decide +kernel
theorem d_RD_numberFits_53 : decode c_RD_numberFits 53 = .ok (.lcmp, 1) := by decide +kernel
theorem d_RD_numberFits_54 : decode c_RD_numberFits 54 = .ok (.ifCond .lt 7, 3) := by decide +kernel
theorem d_RD_numberFits_57 : decode c_RD_numberFits 57 = .ok (.iconst 1, 1) := by decide +kernel
theorem d_RD_numberFits_58 : decode c_RD_numberFits 58 = .ok (.goto 4, 3) := by decide +kernel
theorem d_RD_numberFits_61 : decode c_RD_numberFits 61 = .ok (.iconst 0, 1) := by decide +kernel
theorem d_RD_numberFits_62 : decode c_RD_numberFits 62 = .ok (.ireturn, 1) := by decide +kernel
theorem d_RD_numberFits_63 : decode c_RD_numberFits 63 = .ok (.aload_n 0, 1) := by decide +kernel
theorem d_RD_numberFits_64 : decode c_RD_numberFits 64 = .ok (.getfield 39, 3) := by decide +kernel
theorem d_RD_numberFits_67 : decode c_RD_numberFits 67 = .ok (.lconst 0, 1) := by decide +kernel
theorem d_RD_numberFits_68 : decode c_RD_numberFits 68 = .ok (.lcmp, 1) := by decide +kernel
theorem d_RD_numberFits_69 : decode c_RD_numberFits 69 = .ok (.ifCond .lt 18, 3) := by decide +kernel
theorem d_RD_numberFits_72 : decode c_RD_numberFits 72 = .ok (.aload_n 0, 1) := by decide +kernel
theorem d_RD_numberFits_73 : decode c_RD_numberFits 73 = .ok (.getfield 39, 3) := by decide +kernel
theorem d_RD_numberFits_76 : decode c_RD_numberFits 76 = .ok (.ldc2_w 98, 3) := by decide +kernel
theorem d_RD_numberFits_79 : decode c_RD_numberFits 79 = .ok (.lcmp, 1) := by decide +kernel
theorem d_RD_numberFits_80 : decode c_RD_numberFits 80 = .ok (.ifCond .gt 7, 3) := by decide +kernel
theorem d_RD_numberFits_83 : decode c_RD_numberFits 83 = .ok (.iconst 1, 1) := by decide +kernel
theorem d_RD_numberFits_84 : decode c_RD_numberFits 84 = .ok (.goto 4, 3) := by decide +kernel
theorem d_RD_numberFits_87 : decode c_RD_numberFits 87 = .ok (.iconst 0, 1) := by decide +kernel
theorem d_RD_numberFits_88 : decode c_RD_numberFits 88 = .ok (.ireturn, 1) := by decide +kernel
theorem d_RD_numberFits_89 : decode c_RD_numberFits 89 = .ok (.aload_n 0, 1) := by decide +kernel
theorem d_RD_numberFits_90 : decode c_RD_numberFits 90 = .ok (.getfield 39, 3) := by decide +kernel
theorem d_RD_numberFits_93 : decode c_RD_numberFits 93 = .ok (.ldc2_w 100, 3) := by decide +kernel
theorem d_RD_numberFits_96 : decode c_RD_numberFits 96 = .ok (.lcmp, 1) := by decide +kernel
theorem d_RD_numberFits_97 : decode c_RD_numberFits 97 = .ok (.ifCond .lt 14, 3) := by decide +kernel
theorem d_RD_numberFits_100 : decode c_RD_numberFits 100 = .ok (.aload_n 0, 1) := by decide +kernel
theorem d_RD_numberFits_101 : decode c_RD_numberFits 101 = .ok (.getfield 39, 3) := by decide +kernel
theorem d_RD_numberFits_104 : decode c_RD_numberFits 104 = .ok (.ldc2_w 102, 3) := by decide +kernel
theorem d_RD_numberFits_107 : decode c_RD_numberFits 107 = .ok (.lcmp, 1) := by decide +kernel
theorem d_RD_numberFits_108 : decode c_RD_numberFits 108 = .ok (.ifCond .le 25, 3) := by decide +kernel
theorem d_RD_numberFits_111 : decode c_RD_numberFits 111 = .ok (.aload_n 0, 1) := by decide +kernel
theorem d_RD_numberFits_112 : decode c_RD_numberFits 112 = .ok (.getfield 39, 3) := by decide +kernel
theorem d_RD_numberFits_115 : decode c_RD_numberFits 115 = .ok (.ldc2_w 104, 3) := by decide +kernel
theorem d_RD_numberFits_118 : decode c_RD_numberFits 118 = .ok (.lcmp, 1) := by decide +kernel
theorem d_RD_numberFits_119 : decode c_RD_numberFits 119 = .ok (.ifCond .lt 18, 3) := by decide +kernel
theorem d_RD_numberFits_122 : decode c_RD_numberFits 122 = .ok (.aload_n 0, 1) := by decide +kernel
theorem d_RD_numberFits_123 : decode c_RD_numberFits 123 = .ok (.getfield 39, 3) := by decide +kernel
theorem d_RD_numberFits_126 : decode c_RD_numberFits 126 = .ok (.ldc2_w 106, 3) := by decide +kernel
theorem d_RD_numberFits_129 : decode c_RD_numberFits 129 = .ok (.lcmp, 1) := by decide +kernel
theorem d_RD_numberFits_130 : decode c_RD_numberFits 130 = .ok (.ifCond .gt 7, 3) := by decide +kernel
theorem d_RD_numberFits_133 : decode c_RD_numberFits 133 = .ok (.iconst 1, 1) := by decide +kernel
theorem d_RD_numberFits_134 : decode c_RD_numberFits 134 = .ok (.goto 4, 3) := by decide +kernel
theorem d_RD_numberFits_137 : decode c_RD_numberFits 137 = .ok (.iconst 0, 1) := by decide +kernel
theorem d_RD_numberFits_138 : decode c_RD_numberFits 138 = .ok (.ireturn, 1) := by decide +kernel
theorem d_RD_numberFits_139 : decode c_RD_numberFits 139 = .ok (.iconst 1, 1) := by decide +kernel
theorem d_RD_numberFits_140 : decode c_RD_numberFits 140 = .ok (.ireturn, 1) := by decide +kernel
theorem d_RD_takeBytes_0 : decode c_RD_takeBytes 0 = .ok (.aload_n 0, 1) := by decide +kernel
theorem d_RD_takeBytes_1 : decode c_RD_takeBytes 1 = .ok (.getfield 19, 3) := by decide +kernel
theorem d_RD_takeBytes_4 : decode c_RD_takeBytes 4 = .ok (.iload_n 1, 1) := by decide +kernel
theorem d_RD_takeBytes_5 : decode c_RD_takeBytes 5 = .ok (.iconst 2, 1) := by decide +kernel
theorem d_RD_takeBytes_6 : decode c_RD_takeBytes 6 = .ok (.iconst 0, 1) := by decide +kernel
theorem d_RD_takeBytes_7 : decode c_RD_takeBytes 7 = .ok (.lconst 0, 1) := by decide +kernel
theorem d_RD_takeBytes_8 : decode c_RD_takeBytes 8 = .ok (.invokevirtual 43, 3) := by decide +kernel
theorem d_RD_takeBytes_11 : decode c_RD_takeBytes 11 = .ok (.aload_n 0, 1) := by decide +kernel
theorem d_RD_takeBytes_12 : decode c_RD_takeBytes 12 = .ok (.getfield 39, 3) := by decide +kernel
theorem d_RD_takeBytes_15 : decode c_RD_takeBytes 15 = .ok (.aload_n 0, 1) := by decide +kernel
theorem d_RD_takeBytes_16 : decode c_RD_takeBytes 16 = .ok (.getfield 9, 3) := by decide +kernel
theorem d_RD_takeBytes_19 : decode c_RD_takeBytes 19 = .ok (.getfield 76, 3) := by decide +kernel
theorem d_RD_takeBytes_22 : decode c_RD_takeBytes 22 = .ok (.aload_n 0, 1) := by decide +kernel
theorem d_RD_takeBytes_23 : decode c_RD_takeBytes 23 = .ok (.getfield 15, 3) := by decide +kernel
theorem d_RD_takeBytes_26 : decode c_RD_takeBytes 26 = .ok (.isub, 1) := by decide +kernel
theorem d_RD_takeBytes_27 : decode c_RD_takeBytes 27 = .ok (.i2l, 1) := by decide +kernel
theorem d_RD_takeBytes_28 : decode c_RD_takeBytes 28 = .ok (.lcmp, 1) := by decide +kernel
theorem d_RD_takeBytes_29 : decode c_RD_takeBytes 29 = .ok (.ifCond .le 8, 3) := by decide +kernel
theorem d_RD_takeBytes_32 : decode c_RD_takeBytes 32 = .ok (.aload_n 0, 1) := by decide +kernel
theorem d_RD_takeBytes_33 : decode c_RD_takeBytes 33 = .ok (.invokevirtual 81, 3) := by decide +kernel
theorem d_RD_takeBytes_36 : decode c_RD_takeBytes 36 = .ok (.ireturn, 1) := by decide +kernel
theorem d_RD_takeBytes_37 : decode c_RD_takeBytes 37 = .ok (.aload_n 0, 1) := by decide +kernel
theorem d_RD_takeBytes_38 : decode c_RD_takeBytes 38 = .ok (.getfield 39, 3) := by decide +kernel
theorem d_RD_takeBytes_41 : decode c_RD_takeBytes 41 = .ok (.l2i, 1) := by decide +kernel
theorem d_RD_takeBytes_42 : decode c_RD_takeBytes 42 = .ok (.istore_n 2, 1) := by decide +kernel
theorem d_RD_takeBytes_43 : decode c_RD_takeBytes 43 = .ok (.iconst 0, 1) := by decide +kernel
theorem d_RD_takeBytes_44 : decode c_RD_takeBytes 44 = .ok (.istore_n 3, 1) := by decide +kernel
theorem d_RD_takeBytes_45 : decode c_RD_takeBytes 45 = .ok (.iload_n 3, 1) := by decide +kernel
theorem d_RD_takeBytes_46 : decode c_RD_takeBytes 46 = .ok (.iload_n 2, 1) := by decide +kernel
theorem d_RD_takeBytes_47 : decode c_RD_takeBytes 47 = .ok (.if_icmp .ge 38, 3) := by decide +kernel
theorem d_RD_takeBytes_50 : decode c_RD_takeBytes 50 = .ok (.aload_n 0, 1) := by decide +kernel
theorem d_RD_takeBytes_51 : decode c_RD_takeBytes 51 = .ok (.getfield 19, 3) := by decide +kernel
theorem d_RD_takeBytes_54 : decode c_RD_takeBytes 54 = .ok (.iload_n 1, 1) := by decide +kernel
theorem d_RD_takeBytes_55 : decode c_RD_takeBytes 55 = .ok (.aload_n 0, 1) := by decide +kernel
theorem d_RD_takeBytes_56 : decode c_RD_takeBytes 56 = .ok (.getfield 9, 3) := by decide +kernel
theorem d_RD_takeBytes_59 : decode c_RD_takeBytes 59 = .ok (.aload_n 0, 1) := by decide +kernel
theorem d_RD_takeBytes_60 : decode c_RD_takeBytes 60 = .ok (.getfield 15, 3) := by decide +kernel
theorem d_RD_takeBytes_63 : decode c_RD_takeBytes 63 = .ok (.invokevirtual 84, 3) := by decide +kernel
theorem d_RD_takeBytes_66 : decode c_RD_takeBytes 66 = .ok (.invokevirtual 108, 3) := by decide +kernel
theorem d_RD_takeBytes_69 : decode c_RD_takeBytes 69 = .ok (.aload_n 0, 1) := by decide +kernel
theorem d_RD_takeBytes_70 : decode c_RD_takeBytes 70 = .ok (.dup, 1) := by decide +kernel
theorem d_RD_takeBytes_71 : decode c_RD_takeBytes 71 = .ok (.getfield 15, 3) := by decide +kernel
theorem d_RD_takeBytes_74 : decode c_RD_takeBytes 74 = .ok (.iconst 1, 1) := by decide +kernel
theorem d_RD_takeBytes_75 : decode c_RD_takeBytes 75 = .ok (.iadd, 1) := by decide +kernel
theorem d_RD_takeBytes_76 : decode c_RD_takeBytes 76 = .ok (.putfield 15, 3) := by decide +kernel
theorem d_RD_takeBytes_79 : decode c_RD_takeBytes 79 = .ok (.iinc 3 1, 3) := by decide +kernel
theorem d_RD_takeBytes_82 : decode c_RD_takeBytes 82 = .ok (.goto (-37), 3) := by decide +kernel
theorem d_RD_takeBytes_85 : decode c_RD_takeBytes 85 = .ok (.iconst 0, 1) := by decide +kernel
theorem d_RD_takeBytes_86 : decode c_RD_takeBytes 86 = .ok (.ireturn, 1) := by decide +kernel
theorem d_RD_takeFields_0 : decode c_RD_takeFields 0 = .ok (.aload_n 0, 1) := by decide +kernel
theorem d_RD_takeFields_1 : decode c_RD_takeFields 1 = .ok (.getfield 39, 3) := by decide +kernel
theorem d_RD_takeFields_4 : decode c_RD_takeFields 4 = .ok (.ldc2_w 102, 3) := by decide +kernel
theorem d_RD_takeFields_7 : decode c_RD_takeFields 7 = .ok (.lcmp, 1) := by decide +kernel
theorem d_RD_takeFields_8 : decode c_RD_takeFields 8 = .ok (.ifCond .gt 14, 3) := by decide +kernel
theorem d_RD_takeFields_11 : decode c_RD_takeFields 11 = .ok (.aload_n 0, 1) := by decide +kernel
theorem d_RD_takeFields_12 : decode c_RD_takeFields 12 = .ok (.getfield 39, 3) := by decide +kernel
theorem d_RD_takeFields_15 : decode c_RD_takeFields 15 = .ok (.ldc2_w 100, 3) := by decide +kernel
theorem d_RD_takeFields_18 : decode c_RD_takeFields 18 = .ok (.lsub, 1) := by decide +kernel
theorem d_RD_takeFields_19 : decode c_RD_takeFields 19 = .ok (.goto 11, 3) := by decide +kernel
theorem d_RD_takeFields_22 : decode c_RD_takeFields 22 = .ok (.aload_n 0, 1) := by decide +kernel
theorem d_RD_takeFields_23 : decode c_RD_takeFields 23 = .ok (.getfield 39, 3) := by decide +kernel
theorem d_RD_takeFields_26 : decode c_RD_takeFields 26 = .ok (.ldc2_w 112, 3) := by decide +kernel
theorem d_RD_takeFields_29 : decode c_RD_takeFields 29 = .ok (.lsub, 1) := by decide +kernel
theorem d_RD_takeFields_30 : decode c_RD_takeFields 30 = .ok (.lstore_n 3, 1) := by decide +kernel
theorem d_RD_takeFields_31 : decode c_RD_takeFields 31 = .ok (.aload_n 0, 1) := by decide +kernel
theorem d_RD_takeFields_32 : decode c_RD_takeFields 32 = .ok (.iconst 1, 1) := by decide +kernel
theorem d_RD_takeFields_33 : decode c_RD_takeFields 33 = .ok (.invokevirtual 65, 3) := by decide +kernel
theorem d_RD_takeFields_36 : decode c_RD_takeFields 36 = .ok (.istore 5, 2) := by decide +kernel
theorem d_RD_takeFields_38 : decode c_RD_takeFields 38 = .ok (.iload 5, 2) := by decide +kernel
theorem d_RD_takeFields_40 : decode c_RD_takeFields 40 = .ok (.ifCond .eq 6, 3) := by decide +kernel
theorem d_RD_takeFields_43 : decode c_RD_takeFields 43 = .ok (.iload 5, 2) := by decide +kernel
theorem d_RD_takeFields_45 : decode c_RD_takeFields 45 = .ok (.ireturn, 1) := by decide +kernel
theorem d_RD_takeFields_46 : decode c_RD_takeFields 46 = .ok (.aload_n 0, 1) := by decide +kernel
theorem d_RD_takeFields_47 : decode c_RD_takeFields 47 = .ok (.getfield 19, 3) := by decide +kernel
theorem d_RD_takeFields_50 : decode c_RD_takeFields 50 = .ok (.iload_n 1, 1) := by decide +kernel
theorem d_RD_takeFields_51 : decode c_RD_takeFields 51 = .ok (.bipush 6, 2) := by decide +kernel
theorem d_RD_takeFields_53 : decode c_RD_takeFields 53 = .ok (.aload_n 0, 1) := by decide +kernel
theorem d_RD_takeFields_54 : decode c_RD_takeFields 54 = .ok (.invokevirtual 58, 3) := by decide +kernel
theorem d_RD_takeFields_57 : decode c_RD_takeFields 57 = .ok (.lload_n 3, 1) := by decide +kernel
theorem d_RD_takeFields_58 : decode c_RD_takeFields 58 = .ok (.invokevirtual 43, 3) := by decide +kernel
theorem d_RD_takeFields_61 : decode c_RD_takeFields 61 = .ok (.aload_n 0, 1) := by decide +kernel
theorem d_RD_takeFields_62 : decode c_RD_takeFields 62 = .ok (.iload_n 1, 1) := by decide +kernel
theorem d_RD_takeFields_63 : decode c_RD_takeFields 63 = .ok (.iload_n 2, 1) := by decide +kernel
theorem d_RD_takeFields_64 : decode c_RD_takeFields 64 = .ok (.invokevirtual 62, 3) := by decide +kernel
theorem d_RD_takeFields_67 : decode c_RD_takeFields 67 = .ok (.ireturn, 1) := by decide +kernel
theorem d_RD_dataCount_0 : decode c_RD_dataCount 0 = .ok (.aload_n 0, 1) := by decide +kernel
theorem d_RD_dataCount_1 : decode c_RD_dataCount 1 = .ok (.getfield 39, 3) := by decide +kernel
theorem d_RD_dataCount_4 : decode c_RD_dataCount 4 = .ok (.lconst 0, 1) := by decide +kernel
theorem d_RD_dataCount_5 : decode c_RD_dataCount 5 = .ok (.lcmp, 1) := by decide +kernel
theorem d_RD_dataCount_6 : decode c_RD_dataCount 6 = .ok (.ifCond .lt 14, 3) := by decide +kernel
theorem d_RD_dataCount_9 : decode c_RD_dataCount 9 = .ok (.aload_n 0, 1) := by decide +kernel
theorem d_RD_dataCount_10 : decode c_RD_dataCount 10 = .ok (.getfield 39, 3) := by decide +kernel
theorem d_RD_dataCount_13 : decode c_RD_dataCount 13 = .ok (.ldc2_w 114, 3) := by decide +kernel
theorem d_RD_dataCount_16 : decode c_RD_dataCount 16 = .ok (.lcmp, 1) := by decide +kernel
theorem d_RD_dataCount_17 : decode c_RD_dataCount 17 = .ok (.ifCond .le 9, 3) := by decide +kernel
theorem d_RD_dataCount_20 : decode c_RD_dataCount 20 = .ok (.sipush 200, 3) := by decide +kernel
theorem d_RD_dataCount_23 : decode c_RD_dataCount 23 = .ok (.goto 8, 3) := by decide +kernel
theorem d_RD_dataCount_26 : decode c_RD_dataCount 26 = .ok (.aload_n 0, 1) := by decide +kernel
theorem d_RD_dataCount_27 : decode c_RD_dataCount 27 = .ok (.getfield 39, 3) := by decide +kernel
theorem d_RD_dataCount_30 : decode c_RD_dataCount 30 = .ok (.l2i, 1) := by decide +kernel
theorem d_RD_dataCount_31 : decode c_RD_dataCount 31 = .ok (.ireturn, 1) := by decide +kernel
theorem d_RD_takeWithin_0 : decode c_RD_takeWithin 0 = .ok (.iconst 0, 1) := by decide +kernel
theorem d_RD_takeWithin_1 : decode c_RD_takeWithin 1 = .ok (.istore_n 3, 1) := by decide +kernel
theorem d_RD_takeWithin_2 : decode c_RD_takeWithin 2 = .ok (.aload_n 0, 1) := by decide +kernel
theorem d_RD_takeWithin_3 : decode c_RD_takeWithin 3 = .ok (.getfield 19, 3) := by decide +kernel
theorem d_RD_takeWithin_6 : decode c_RD_takeWithin 6 = .ok (.iload_n 1, 1) := by decide +kernel
theorem d_RD_takeWithin_7 : decode c_RD_takeWithin 7 = .ok (.invokevirtual 116, 3) := by decide +kernel
theorem d_RD_takeWithin_10 : decode c_RD_takeWithin 10 = .ok (.istore 4, 2) := by decide +kernel
theorem d_RD_takeWithin_12 : decode c_RD_takeWithin 12 = .ok (.iconst 0, 1) := by decide +kernel
theorem d_RD_takeWithin_13 : decode c_RD_takeWithin 13 = .ok (.istore 5, 2) := by decide +kernel
theorem d_RD_takeWithin_15 : decode c_RD_takeWithin 15 = .ok (.iload 5, 2) := by decide +kernel
theorem d_RD_takeWithin_17 : decode c_RD_takeWithin 17 = .ok (.iload 4, 2) := by decide +kernel
theorem d_RD_takeWithin_19 : decode c_RD_takeWithin 19 = .ok (.if_icmp .ge 47, 3) := by decide +kernel
theorem d_RD_takeWithin_22 : decode c_RD_takeWithin 22 = .ok (.aload_n 0, 1) := by decide +kernel
theorem d_RD_takeWithin_23 : decode c_RD_takeWithin 23 = .ok (.getfield 26, 3) := by decide +kernel
theorem d_RD_takeWithin_26 : decode c_RD_takeWithin 26 = .ok (.istore 6, 2) := by decide +kernel
theorem d_RD_takeWithin_28 : decode c_RD_takeWithin 28 = .ok (.aload_n 0, 1) := by decide +kernel
theorem d_RD_takeWithin_29 : decode c_RD_takeWithin 29 = .ok (.iload_n 2, 1) := by decide +kernel
theorem d_RD_takeWithin_30 : decode c_RD_takeWithin 30 = .ok (.iconst 1, 1) := by decide +kernel
theorem d_RD_takeWithin_31 : decode c_RD_takeWithin 31 = .ok (.iadd, 1) := by decide +kernel
theorem d_RD_takeWithin_32 : decode c_RD_takeWithin 32 = .ok (.invokevirtual 29, 3) := by decide +kernel
theorem d_RD_takeWithin_35 : decode c_RD_takeWithin 35 = .ok (.istore 7, 2) := by decide +kernel
theorem d_RD_takeWithin_37 : decode c_RD_takeWithin 37 = .ok (.iload 7, 2) := by decide +kernel
theorem d_RD_takeWithin_39 : decode c_RD_takeWithin 39 = .ok (.ifCond .eq 6, 3) := by decide +kernel
theorem d_RD_takeWithin_42 : decode c_RD_takeWithin 42 = .ok (.iload 7, 2) := by decide +kernel
theorem d_RD_takeWithin_44 : decode c_RD_takeWithin 44 = .ok (.ireturn, 1) := by decide +kernel
theorem d_RD_takeWithin_45 : decode c_RD_takeWithin 45 = .ok (.iload_n 3, 1) := by decide +kernel
theorem d_RD_takeWithin_46 : decode c_RD_takeWithin 46 = .ok (.aload_n 0, 1) := by decide +kernel
theorem d_RD_takeWithin_47 : decode c_RD_takeWithin 47 = .ok (.getfield 19, 3) := by decide +kernel
theorem d_RD_takeWithin_50 : decode c_RD_takeWithin 50 = .ok (.getfield 119, 3) := by decide +kernel
theorem d_RD_takeWithin_53 : decode c_RD_takeWithin 53 = .ok (.iload 6, 2) := by decide +kernel
theorem d_RD_takeWithin_55 : decode c_RD_takeWithin 55 = .ok (.iaload, 1) := by decide +kernel
theorem d_RD_takeWithin_56 : decode c_RD_takeWithin 56 = .ok (.invokestatic 123, 3) := by decide +kernel
theorem d_RD_takeWithin_59 : decode c_RD_takeWithin 59 = .ok (.istore_n 3, 1) := by decide +kernel
theorem d_RD_takeWithin_60 : decode c_RD_takeWithin 60 = .ok (.iinc 5 1, 3) := by decide +kernel
theorem d_RD_takeWithin_63 : decode c_RD_takeWithin 63 = .ok (.goto (-48), 3) := by decide +kernel
theorem d_RD_takeWithin_66 : decode c_RD_takeWithin 66 = .ok (.aload_n 0, 1) := by decide +kernel
theorem d_RD_takeWithin_67 : decode c_RD_takeWithin 67 = .ok (.getfield 19, 3) := by decide +kernel
theorem d_RD_takeWithin_70 : decode c_RD_takeWithin 70 = .ok (.iload_n 1, 1) := by decide +kernel
theorem d_RD_takeWithin_71 : decode c_RD_takeWithin 71 = .ok (.aload_n 0, 1) := by decide +kernel
theorem d_RD_takeWithin_72 : decode c_RD_takeWithin 72 = .ok (.getfield 26, 3) := by decide +kernel
theorem d_RD_takeWithin_75 : decode c_RD_takeWithin 75 = .ok (.iload_n 1, 1) := by decide +kernel
theorem d_RD_takeWithin_76 : decode c_RD_takeWithin 76 = .ok (.isub, 1) := by decide +kernel
theorem d_RD_takeWithin_77 : decode c_RD_takeWithin 77 = .ok (.iload_n 3, 1) := by decide +kernel
theorem d_RD_takeWithin_78 : decode c_RD_takeWithin 78 = .ok (.iconst 1, 1) := by decide +kernel
theorem d_RD_takeWithin_79 : decode c_RD_takeWithin 79 = .ok (.iadd, 1) := by decide +kernel
theorem d_RD_takeWithin_80 : decode c_RD_takeWithin 80 = .ok (.invokevirtual 128, 3) := by decide +kernel
theorem d_RD_takeWithin_83 : decode c_RD_takeWithin 83 = .ok (.iconst 0, 1) := by decide +kernel
theorem d_RD_takeWithin_84 : decode c_RD_takeWithin 84 = .ok (.ireturn, 1) := by decide +kernel

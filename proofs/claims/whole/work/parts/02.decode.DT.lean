theorem d_DT_init_0 : decode c_DT_init 0 = .ok (.aload_n 0, 1) := by decide +kernel
theorem d_DT_init_1 : decode c_DT_init 1 = .ok (.invokespecial 3, 3) := by decide +kernel
theorem d_DT_init_4 : decode c_DT_init 4 = .ok (.aload_n 0, 1) := by decide +kernel
theorem d_DT_init_5 : decode c_DT_init 5 = .ok (.new 9, 3) := by decide +kernel
theorem d_DT_init_8 : decode c_DT_init 8 = .ok (.dup, 1) := by decide +kernel
theorem d_DT_init_9 : decode c_DT_init 9 = .ok (.invokespecial 11, 3) := by decide +kernel
theorem d_DT_init_12 : decode c_DT_init 12 = .ok (.putfield 12, 3) := by decide +kernel
theorem d_DT_init_15 : decode c_DT_init 15 = .ok (.aload_n 0, 1) := by decide +kernel
theorem d_DT_init_16 : decode c_DT_init 16 = .ok (.bipush 17, 2) := by decide +kernel
theorem d_DT_init_18 : decode c_DT_init 18 = .ok (.newarray .int, 2) := by decide +kernel
theorem d_DT_init_20 : decode c_DT_init 20 = .ok (.putfield 16, 3) := by decide +kernel
theorem d_DT_init_23 : decode c_DT_init 23 = .ok (.aload_n 0, 1) := by decide +kernel
theorem d_DT_init_24 : decode c_DT_init 24 = .ok (.new 20, 3) := by decide +kernel
theorem d_DT_init_27 : decode c_DT_init 27 = .ok (.dup, 1) := by decide +kernel
theorem d_DT_init_28 : decode c_DT_init 28 = .ok (.sipush 4096, 3) := by decide +kernel
theorem d_DT_init_31 : decode c_DT_init 31 = .ok (.invokespecial 22, 3) := by decide +kernel
theorem d_DT_init_34 : decode c_DT_init 34 = .ok (.putfield 25, 3) := by decide +kernel
theorem d_DT_init_37 : decode c_DT_init 37 = .ok (.aload_n 0, 1) := by decide +kernel
theorem d_DT_init_38 : decode c_DT_init 38 = .ok (.new 20, 3) := by decide +kernel
theorem d_DT_init_41 : decode c_DT_init 41 = .ok (.dup, 1) := by decide +kernel
theorem d_DT_init_42 : decode c_DT_init 42 = .ok (.sipush 4096, 3) := by decide +kernel
theorem d_DT_init_45 : decode c_DT_init 45 = .ok (.invokespecial 22, 3) := by decide +kernel
theorem d_DT_init_48 : decode c_DT_init 48 = .ok (.putfield 29, 3) := by decide +kernel
theorem d_DT_init_51 : decode c_DT_init 51 = .ok (.aload_n 0, 1) := by decide +kernel
theorem d_DT_init_52 : decode c_DT_init 52 = .ok (.new 20, 3) := by decide +kernel
theorem d_DT_init_55 : decode c_DT_init 55 = .ok (.dup, 1) := by decide +kernel
theorem d_DT_init_56 : decode c_DT_init 56 = .ok (.bipush 66, 2) := by decide +kernel
theorem d_DT_init_58 : decode c_DT_init 58 = .ok (.invokespecial 22, 3) := by decide +kernel
theorem d_DT_init_61 : decode c_DT_init 61 = .ok (.putfield 32, 3) := by decide +kernel
theorem d_DT_init_64 : decode c_DT_init 64 = .ok (.aload_n 0, 1) := by decide +kernel
theorem d_DT_init_65 : decode c_DT_init 65 = .ok (.new 20, 3) := by decide +kernel
theorem d_DT_init_68 : decode c_DT_init 68 = .ok (.dup, 1) := by decide +kernel
theorem d_DT_init_69 : decode c_DT_init 69 = .ok (.bipush 66, 2) := by decide +kernel
theorem d_DT_init_71 : decode c_DT_init 71 = .ok (.invokespecial 22, 3) := by decide +kernel
theorem d_DT_init_74 : decode c_DT_init 74 = .ok (.putfield 35, 3) := by decide +kernel
theorem d_DT_init_77 : decode c_DT_init 77 = .ok (.aload_n 0, 1) := by decide +kernel
theorem d_DT_init_78 : decode c_DT_init 78 = .ok (.iconst (-1), 1) := by decide +kernel
theorem d_DT_init_79 : decode c_DT_init 79 = .ok (.putfield 38, 3) := by decide +kernel
theorem d_DT_init_82 : decode c_DT_init 82 = .ok (.return_, 1) := by decide +kernel
theorem d_DT_integer_0 : decode c_DT_integer 0 = .ok (.aload_n 0, 1) := by decide +kernel
theorem d_DT_integer_1 : decode c_DT_integer 1 = .ok (.iconst 1, 1) := by decide +kernel
theorem d_DT_integer_2 : decode c_DT_integer 2 = .ok (.invokevirtual 42, 3) := by decide +kernel
theorem d_DT_integer_5 : decode c_DT_integer 5 = .ok (.ifCond .ne 5, 3) := by decide +kernel
theorem d_DT_integer_8 : decode c_DT_integer 8 = .ok (.iconst 0, 1) := by decide +kernel
theorem d_DT_integer_9 : decode c_DT_integer 9 = .ok (.ireturn, 1) := by decide +kernel
theorem d_DT_integer_10 : decode c_DT_integer 10 = .ok (.aload_n 0, 1) := by decide +kernel
theorem d_DT_integer_11 : decode c_DT_integer 11 = .ok (.getfield 12, 3) := by decide +kernel
theorem d_DT_integer_14 : decode c_DT_integer 14 = .ok (.aload_n 0, 1) := by decide +kernel
theorem d_DT_integer_15 : decode c_DT_integer 15 = .ok (.invokevirtual 46, 3) := by decide +kernel
theorem d_DT_integer_18 : decode c_DT_integer 18 = .ok (.iconst 0, 1) := by decide +kernel
theorem d_DT_integer_19 : decode c_DT_integer 19 = .ok (.iconst 0, 1) := by decide +kernel
theorem d_DT_integer_20 : decode c_DT_integer 20 = .ok (.lload_n 1, 1) := by decide +kernel
theorem d_DT_integer_21 : decode c_DT_integer 21 = .ok (.invokevirtual 50, 3) := by decide +kernel
theorem d_DT_integer_24 : decode c_DT_integer 24 = .ok (.aload_n 0, 1) := by decide +kernel
theorem d_DT_integer_25 : decode c_DT_integer 25 = .ok (.invokevirtual 54, 3) := by decide +kernel
theorem d_DT_integer_28 : decode c_DT_integer 28 = .ok (.iconst 1, 1) := by decide +kernel
theorem d_DT_integer_29 : decode c_DT_integer 29 = .ok (.ireturn, 1) := by decide +kernel
theorem d_DT_bytes_0 : decode c_DT_bytes 0 = .ok (.iload_n 3, 1) := by decide +kernel
theorem d_DT_bytes_1 : decode c_DT_bytes 1 = .ok (.ifCond .lt 17, 3) := by decide +kernel
theorem d_DT_bytes_4 : decode c_DT_bytes 4 = .ok (.iload_n 3, 1) := by decide +kernel
theorem d_DT_bytes_5 : decode c_DT_bytes 5 = .ok (.bipush 8, 2) := by decide +kernel
theorem d_DT_bytes_7 : decode c_DT_bytes 7 = .ok (.if_icmp .gt 11, 3) := by decide +kernel
theorem d_DT_bytes_10 : decode c_DT_bytes 10 = .ok (.aload_n 0, 1) := by decide +kernel
theorem d_DT_bytes_11 : decode c_DT_bytes 11 = .ok (.iconst 1, 1) := by decide +kernel
theorem d_DT_bytes_12 : decode c_DT_bytes 12 = .ok (.invokevirtual 42, 3) := by decide +kernel
theorem d_DT_bytes_15 : decode c_DT_bytes 15 = .ok (.ifCond .ne 5, 3) := by decide +kernel
theorem d_DT_bytes_18 : decode c_DT_bytes 18 = .ok (.iconst 0, 1) := by decide +kernel
theorem d_DT_bytes_19 : decode c_DT_bytes 19 = .ok (.ireturn, 1) := by decide +kernel
theorem d_DT_bytes_20 : decode c_DT_bytes 20 = .ok (.aload_n 0, 1) := by decide +kernel
theorem d_DT_bytes_21 : decode c_DT_bytes 21 = .ok (.getfield 12, 3) := by decide +kernel
theorem d_DT_bytes_24 : decode c_DT_bytes 24 = .ok (.aload_n 0, 1) := by decide +kernel
theorem d_DT_bytes_25 : decode c_DT_bytes 25 = .ok (.invokevirtual 46, 3) := by decide +kernel
theorem d_DT_bytes_28 : decode c_DT_bytes 28 = .ok (.iconst 2, 1) := by decide +kernel
theorem d_DT_bytes_29 : decode c_DT_bytes 29 = .ok (.iconst 0, 1) := by decide +kernel
theorem d_DT_bytes_30 : decode c_DT_bytes 30 = .ok (.lconst 0, 1) := by decide +kernel
theorem d_DT_bytes_31 : decode c_DT_bytes 31 = .ok (.invokevirtual 50, 3) := by decide +kernel
theorem d_DT_bytes_34 : decode c_DT_bytes 34 = .ok (.aload_n 0, 1) := by decide +kernel
theorem d_DT_bytes_35 : decode c_DT_bytes 35 = .ok (.getfield 12, 3) := by decide +kernel
theorem d_DT_bytes_38 : decode c_DT_bytes 38 = .ok (.aload_n 0, 1) := by decide +kernel
theorem d_DT_bytes_39 : decode c_DT_bytes 39 = .ok (.invokevirtual 46, 3) := by decide +kernel
theorem d_DT_bytes_42 : decode c_DT_bytes 42 = .ok (.lload_n 1, 1) := by decide +kernel
theorem d_DT_bytes_43 : decode c_DT_bytes 43 = .ok (.iload_n 3, 1) := by decide +kernel
theorem d_DT_bytes_44 : decode c_DT_bytes 44 = .ok (.invokevirtual 57, 3) := by decide +kernel
theorem d_DT_bytes_47 : decode c_DT_bytes 47 = .ok (.aload_n 0, 1) := by decide +kernel
theorem d_DT_bytes_48 : decode c_DT_bytes 48 = .ok (.invokevirtual 54, 3) := by decide +kernel
theorem d_DT_bytes_51 : decode c_DT_bytes 51 = .ok (.iconst 1, 1) := by decide +kernel
theorem d_DT_bytes_52 : decode c_DT_bytes 52 = .ok (.ireturn, 1) := by decide +kernel
theorem d_DT_more_0 : decode c_DT_more 0 = .ok (.iload_n 3, 1) := by decide +kernel
theorem d_DT_more_1 : decode c_DT_more 1 = .ok (.iconst 1, 1) := by decide +kernel
theorem d_DT_more_2 : decode c_DT_more 2 = .ok (.if_icmp .lt 16, 3) := by decide +kernel
theorem d_DT_more_5 : decode c_DT_more 5 = .ok (.iload_n 3, 1) := by decide +kernel
theorem d_DT_more_6 : decode c_DT_more 6 = .ok (.bipush 8, 2) := by decide +kernel
theorem d_DT_more_8 : decode c_DT_more 8 = .ok (.if_icmp .gt 10, 3) := by decide +kernel
theorem d_DT_more_11 : decode c_DT_more 11 = .ok (.aload_n 0, 1) := by decide +kernel
theorem d_DT_more_12 : decode c_DT_more 12 = .ok (.getfield 61, 3) := by decide +kernel
theorem d_DT_more_15 : decode c_DT_more 15 = .ok (.ifCond .ne 5, 3) := by decide +kernel
theorem d_DT_more_18 : decode c_DT_more 18 = .ok (.iconst 0, 1) := by decide +kernel
theorem d_DT_more_19 : decode c_DT_more 19 = .ok (.ireturn, 1) := by decide +kernel
theorem d_DT_more_20 : decode c_DT_more 20 = .ok (.aload_n 0, 1) := by decide +kernel
theorem d_DT_more_21 : decode c_DT_more 21 = .ok (.getfield 16, 3) := by decide +kernel
theorem d_DT_more_24 : decode c_DT_more 24 = .ok (.aload_n 0, 1) := by decide +kernel
theorem d_DT_more_25 : decode c_DT_more 25 = .ok (.getfield 61, 3) := by decide +kernel
theorem d_DT_more_28 : decode c_DT_more 28 = .ok (.iconst 1, 1) := by decide +kernel
theorem d_DT_more_29 : decode c_DT_more 29 = .ok (.isub, 1) := by decide +kernel
theorem d_DT_more_30 : decode c_DT_more 30 = .ok (.iaload, 1) := by decide +kernel
theorem d_DT_more_31 : decode c_DT_more 31 = .ok (.istore 4, 2) := by decide +kernel
theorem d_DT_more_33 : decode c_DT_more 33 = .ok (.aload_n 0, 1) := by decide +kernel
theorem d_DT_more_34 : decode c_DT_more 34 = .ok (.getfield 12, 3) := by decide +kernel
theorem d_DT_more_37 : decode c_DT_more 37 = .ok (.getfield 64, 3) := by decide +kernel
theorem d_DT_more_40 : decode c_DT_more 40 = .ok (.iload 4, 2) := by decide +kernel
theorem d_DT_more_42 : decode c_DT_more 42 = .ok (.iaload, 1) := by decide +kernel
theorem d_DT_more_43 : decode c_DT_more 43 = .ok (.iconst 2, 1) := by decide +kernel
theorem d_DT_more_44 : decode c_DT_more 44 = .ok (.if_icmp .ne 20, 3) := by decide +kernel
theorem d_DT_more_47 : decode c_DT_more 47 = .ok (.aload_n 0, 1) := by decide +kernel
theorem d_DT_more_48 : decode c_DT_more 48 = .ok (.getfield 12, 3) := by decide +kernel
theorem d_DT_more_51 : decode c_DT_more 51 = .ok (.getfield 67, 3) := by decide +kernel
theorem d_DT_more_54 : decode c_DT_more 54 = .ok (.iload 4, 2) := by decide +kernel
theorem d_DT_more_56 : decode c_DT_more 56 = .ok (.iaload, 1) := by decide +kernel
theorem d_DT_more_57 : decode c_DT_more 57 = .ok (.iload_n 3, 1) := by decide +kernel
theorem d_DT_more_58 : decode c_DT_more 58 = .ok (.iadd, 1) := by decide +kernel
theorem d_DT_more_59 : decode c_DT_more 59 = .ok (.bipush 64, 2) := by decide +kernel
theorem d_DT_more_61 : decode c_DT_more 61 = .ok (.if_icmp .le 5, 3) := by decide +kernel
theorem d_DT_more_64 : decode c_DT_more 64 = .ok (.iconst 0, 1) := by decide +kernel
theorem d_DT_more_65 : decode c_DT_more 65 = .ok (.ireturn, 1) := by decide +kernel
theorem d_DT_more_66 : decode c_DT_more 66 = .ok (.aload_n 0, 1) := by decide +kernel
theorem d_DT_more_67 : decode c_DT_more 67 = .ok (.getfield 12, 3) := by decide +kernel
theorem d_DT_more_70 : decode c_DT_more 70 = .ok (.iload 4, 2) := by decide +kernel
theorem d_DT_more_72 : decode c_DT_more 72 = .ok (.lload_n 1, 1) := by decide +kernel
theorem d_DT_more_73 : decode c_DT_more 73 = .ok (.iload_n 3, 1) := by decide +kernel
theorem d_DT_more_74 : decode c_DT_more 74 = .ok (.invokevirtual 57, 3) := by decide +kernel
theorem d_DT_more_77 : decode c_DT_more 77 = .ok (.iconst 1, 1) := by decide +kernel
theorem d_DT_more_78 : decode c_DT_more 78 = .ok (.ireturn, 1) := by decide +kernel
theorem d_DT_list_0 : decode c_DT_list 0 = .ok (.aload_n 0, 1) := by decide +kernel
theorem d_DT_list_1 : decode c_DT_list 1 = .ok (.iconst 4, 1) := by decide +kernel
theorem d_DT_list_2 : decode c_DT_list 2 = .ok (.iconst 0, 1) := by decide +kernel
theorem d_DT_list_3 : decode c_DT_list 3 = .ok (.iload_n 1, 1) := by decide +kernel
theorem d_DT_list_4 : decode c_DT_list 4 = .ok (.iload_n 1, 1) := by decide +kernel
theorem d_DT_list_5 : decode c_DT_list 5 = .ok (.invokevirtual 70, 3) := by decide +kernel
theorem d_DT_list_8 : decode c_DT_list 8 = .ok (.ireturn, 1) := by decide +kernel
theorem d_DT_map_0 : decode c_DT_map 0 = .ok (.iload_n 1, 1) := by decide +kernel
theorem d_DT_map_1 : decode c_DT_map 1 = .ok (.ifCond .lt 9, 3) := by decide +kernel
theorem d_DT_map_4 : decode c_DT_map 4 = .ok (.iload_n 1, 1) := by decide +kernel
theorem d_DT_map_5 : decode c_DT_map 5 = .ok (.bipush 8, 2) := by decide +kernel
theorem d_DT_map_7 : decode c_DT_map 7 = .ok (.if_icmp .le 5, 3) := by decide +kernel
theorem d_DT_map_10 : decode c_DT_map 10 = .ok (.iconst 0, 1) := by decide +kernel
theorem d_DT_map_11 : decode c_DT_map 11 = .ok (.ireturn, 1) := by decide +kernel
theorem d_DT_map_12 : decode c_DT_map 12 = .ok (.aload_n 0, 1) := by decide +kernel
theorem d_DT_map_13 : decode c_DT_map 13 = .ok (.iconst 5, 1) := by decide +kernel
theorem d_DT_map_14 : decode c_DT_map 14 = .ok (.iconst 0, 1) := by decide +kernel
theorem d_DT_map_15 : decode c_DT_map 15 = .ok (.iload_n 1, 1) := by decide +kernel
theorem d_DT_map_16 : decode c_DT_map 16 = .ok (.iconst 2, 1) := by decide +kernel
theorem d_DT_map_17 : decode c_DT_map 17 = .ok (.iload_n 1, 1) := by decide +kernel
theorem d_DT_map_18 : decode c_DT_map 18 = .ok (.imul, 1) := by decide +kernel
theorem d_DT_map_19 : decode c_DT_map 19 = .ok (.invokevirtual 70, 3) := by decide +kernel
theorem d_DT_map_22 : decode c_DT_map 22 = .ok (.ireturn, 1) := by decide +kernel
theorem d_DT_constructor_0 : decode c_DT_constructor 0 = .ok (.iload_n 1, 1) := by decide +kernel
theorem d_DT_constructor_1 : decode c_DT_constructor 1 = .ok (.ifCond .lt 9, 3) := by decide +kernel
theorem d_DT_constructor_4 : decode c_DT_constructor 4 = .ok (.iload_n 1, 1) := by decide +kernel
theorem d_DT_constructor_5 : decode c_DT_constructor 5 = .ok (.bipush 127, 2) := by decide +kernel
theorem d_DT_constructor_7 : decode c_DT_constructor 7 = .ok (.if_icmp .le 5, 3) := by decide +kernel
theorem d_DT_constructor_10 : decode c_DT_constructor 10 = .ok (.iconst 0, 1) := by decide +kernel
theorem d_DT_constructor_11 : decode c_DT_constructor 11 = .ok (.ireturn, 1) := by decide +kernel
theorem d_DT_constructor_12 : decode c_DT_constructor 12 = .ok (.aload_n 0, 1) := by decide +kernel
theorem d_DT_constructor_13 : decode c_DT_constructor 13 = .ok (.bipush 6, 2) := by decide +kernel
theorem d_DT_constructor_15 : decode c_DT_constructor 15 = .ok (.iload_n 1, 1) := by decide +kernel
theorem d_DT_constructor_16 : decode c_DT_constructor 16 = .ok (.iload_n 2, 1) := by decide +kernel
theorem d_DT_constructor_17 : decode c_DT_constructor 17 = .ok (.iload_n 2, 1) := by decide +kernel
theorem d_DT_constructor_18 : decode c_DT_constructor 18 = .ok (.invokevirtual 70, 3) := by decide +kernel
theorem d_DT_constructor_21 : decode c_DT_constructor 21 = .ok (.ireturn, 1) := by decide +kernel
theorem d_DT_copy_0 : decode c_DT_copy 0 = .ok (.aload_n 0, 1) := by decide +kernel
theorem d_DT_copy_1 : decode c_DT_copy 1 = .ok (.iload_n 1, 1) := by decide +kernel
theorem d_DT_copy_2 : decode c_DT_copy 2 = .ok (.invokevirtual 74, 3) := by decide +kernel
theorem d_DT_copy_5 : decode c_DT_copy 5 = .ok (.istore_n 2, 1) := by decide +kernel
theorem d_DT_copy_6 : decode c_DT_copy 6 = .ok (.iload_n 2, 1) := by decide +kernel
theorem d_DT_copy_7 : decode c_DT_copy 7 = .ok (.iconst (-1), 1) := by decide +kernel
theorem d_DT_copy_8 : decode c_DT_copy 8 = .ok (.if_icmp .eq 19, 3) := by decide +kernel
theorem d_DT_copy_11 : decode c_DT_copy 11 = .ok (.aload_n 0, 1) := by decide +kernel
theorem d_DT_copy_12 : decode c_DT_copy 12 = .ok (.aload_n 0, 1) := by decide +kernel
theorem d_DT_copy_13 : decode c_DT_copy 13 = .ok (.getfield 12, 3) := by decide +kernel
theorem d_DT_copy_16 : decode c_DT_copy 16 = .ok (.getfield 78, 3) := by decide +kernel
theorem d_DT_copy_19 : decode c_DT_copy 19 = .ok (.iload_n 2, 1) := by decide +kernel
theorem d_DT_copy_20 : decode c_DT_copy 20 = .ok (.iaload, 1) := by decide +kernel
theorem d_DT_copy_21 : decode c_DT_copy 21 = .ok (.invokevirtual 42, 3) := by decide +kernel
theorem d_DT_copy_24 : decode c_DT_copy 24 = .ok (.ifCond .ne 5, 3) := by decide +kernel
theorem d_DT_copy_27 : decode c_DT_copy 27 = .ok (.iconst 0, 1) := by decide +kernel
theorem d_DT_copy_28 : decode c_DT_copy 28 = .ok (.ireturn, 1) := by decide +kernel
theorem d_DT_copy_29 : decode c_DT_copy 29 = .ok (.aload_n 0, 1) := by decide +kernel
theorem d_DT_copy_30 : decode c_DT_copy 30 = .ok (.getfield 12, 3) := by decide +kernel
theorem d_DT_copy_33 : decode c_DT_copy 33 = .ok (.iload_n 2, 1) := by decide +kernel
theorem d_DT_copy_34 : decode c_DT_copy 34 = .ok (.aload_n 0, 1) := by decide +kernel
theorem d_DT_copy_35 : decode c_DT_copy 35 = .ok (.invokevirtual 46, 3) := by decide +kernel
theorem d_DT_copy_38 : decode c_DT_copy 38 = .ok (.aload_n 0, 1) := by decide +kernel
theorem d_DT_copy_39 : decode c_DT_copy 39 = .ok (.getfield 12, 3) := by decide +kernel
theorem d_DT_copy_42 : decode c_DT_copy 42 = .ok (.getfield 78, 3) := by decide +kernel
theorem d_DT_copy_45 : decode c_DT_copy 45 = .ok (.iload_n 2, 1) := by decide +kernel
theorem d_DT_copy_46 : decode c_DT_copy 46 = .ok (.iaload, 1) := by decide +kernel
theorem d_DT_copy_47 : decode c_DT_copy 47 = .ok (.invokevirtual 81, 3) := by decide +kernel
theorem d_DT_copy_50 : decode c_DT_copy 50 = .ok (.aload_n 0, 1) := by decide +kernel
theorem d_DT_copy_51 : decode c_DT_copy 51 = .ok (.invokevirtual 54, 3) := by decide +kernel
theorem d_DT_copy_54 : decode c_DT_copy 54 = .ok (.iconst 1, 1) := by decide +kernel
theorem d_DT_copy_55 : decode c_DT_copy 55 = .ok (.ireturn, 1) := by decide +kernel
theorem d_DT_drop_0 : decode c_DT_drop 0 = .ok (.aload_n 0, 1) := by decide +kernel
theorem d_DT_drop_1 : decode c_DT_drop 1 = .ok (.getfield 61, 3) := by decide +kernel
theorem d_DT_drop_4 : decode c_DT_drop 4 = .ok (.ifCond .ne 5, 3) := by decide +kernel
theorem d_DT_drop_7 : decode c_DT_drop 7 = .ok (.iconst 0, 1) := by decide +kernel
theorem d_DT_drop_8 : decode c_DT_drop 8 = .ok (.ireturn, 1) := by decide +kernel
theorem d_DT_drop_9 : decode c_DT_drop 9 = .ok (.aload_n 0, 1) := by decide +kernel
theorem d_DT_drop_10 : decode c_DT_drop 10 = .ok (.dup, 1) := by decide +kernel
theorem d_DT_drop_11 : decode c_DT_drop 11 = .ok (.getfield 61, 3) := by decide +kernel
theorem d_DT_drop_14 : decode c_DT_drop 14 = .ok (.iconst 1, 1) := by decide +kernel
theorem d_DT_drop_15 : decode c_DT_drop 15 = .ok (.isub, 1) := by decide +kernel
theorem d_DT_drop_16 : decode c_DT_drop 16 = .ok (.putfield 61, 3) := by decide +kernel
theorem d_DT_drop_19 : decode c_DT_drop 19 = .ok (.iconst 1, 1) := by decide +kernel
theorem d_DT_drop_20 : decode c_DT_drop 20 = .ok (.ireturn, 1) := by decide +kernel
theorem d_DT_open_0 : decode c_DT_open 0 = .ok (.aload_n 0, 1) := by decide +kernel
theorem d_DT_open_1 : decode c_DT_open 1 = .ok (.iconst 0, 1) := by decide +kernel
theorem d_DT_open_2 : decode c_DT_open 2 = .ok (.invokevirtual 74, 3) := by decide +kernel
theorem d_DT_open_5 : decode c_DT_open 5 = .ok (.istore_n 1, 1) := by decide +kernel
theorem d_DT_open_6 : decode c_DT_open 6 = .ok (.iload_n 1, 1) := by decide +kernel
theorem d_DT_open_7 : decode c_DT_open 7 = .ok (.iconst (-1), 1) := by decide +kernel
theorem d_DT_open_8 : decode c_DT_open 8 = .ok (.if_icmp .eq 14, 3) := by decide +kernel
theorem d_DT_open_11 : decode c_DT_open 11 = .ok (.aload_n 0, 1) := by decide +kernel
theorem d_DT_open_12 : decode c_DT_open 12 = .ok (.getfield 12, 3) := by decide +kernel
theorem d_DT_open_15 : decode c_DT_open 15 = .ok (.iload_n 1, 1) := by decide +kernel
theorem d_DT_open_16 : decode c_DT_open 16 = .ok (.invokevirtual 85, 3) := by decide +kernel
theorem d_DT_open_19 : decode c_DT_open 19 = .ok (.ifCond .ne 5, 3) := by decide +kernel
theorem d_DT_open_22 : decode c_DT_open 22 = .ok (.iconst (-1), 1) := by decide +kernel
theorem d_DT_open_23 : decode c_DT_open 23 = .ok (.ireturn, 1) := by decide +kernel
theorem d_DT_open_24 : decode c_DT_open 24 = .ok (.aload_n 0, 1) := by decide +kernel
theorem d_DT_open_25 : decode c_DT_open 25 = .ok (.getfield 12, 3) := by decide +kernel
theorem d_DT_open_28 : decode c_DT_open 28 = .ok (.iload_n 1, 1) := by decide +kernel
theorem d_DT_open_29 : decode c_DT_open 29 = .ok (.invokevirtual 88, 3) := by decide +kernel
theorem d_DT_open_32 : decode c_DT_open 32 = .ok (.istore_n 2, 1) := by decide +kernel
theorem d_DT_open_33 : decode c_DT_open 33 = .ok (.aload_n 0, 1) := by decide +kernel
theorem d_DT_open_34 : decode c_DT_open 34 = .ok (.getfield 61, 3) := by decide +kernel
theorem d_DT_open_37 : decode c_DT_open 37 = .ok (.iconst 1, 1) := by decide +kernel
theorem d_DT_open_38 : decode c_DT_open 38 = .ok (.isub, 1) := by decide +kernel
theorem d_DT_open_39 : decode c_DT_open 39 = .ok (.iload_n 2, 1) := by decide +kernel
theorem d_DT_open_40 : decode c_DT_open 40 = .ok (.iadd, 1) := by decide +kernel
theorem d_DT_open_41 : decode c_DT_open 41 = .ok (.bipush 16, 2) := by decide +kernel
theorem d_DT_open_43 : decode c_DT_open 43 = .ok (.if_icmp .le 5, 3) := by decide +kernel
theorem d_DT_open_46 : decode c_DT_open 46 = .ok (.iconst (-1), 1) := by decide +kernel
theorem d_DT_open_47 : decode c_DT_open 47 = .ok (.ireturn, 1) := by decide +kernel
theorem d_DT_open_48 : decode c_DT_open 48 = .ok (.aload_n 0, 1) := by decide +kernel
theorem d_DT_open_49 : decode c_DT_open 49 = .ok (.getfield 12, 3) := by decide +kernel
theorem d_DT_open_52 : decode c_DT_open 52 = .ok (.iload_n 1, 1) := by decide +kernel
theorem d_DT_open_53 : decode c_DT_open 53 = .ok (.iconst 1, 1) := by decide +kernel
theorem d_DT_open_54 : decode c_DT_open 54 = .ok (.iadd, 1) := by decide +kernel
theorem d_DT_open_55 : decode c_DT_open 55 = .ok (.iload_n 1, 1) := by decide +kernel
theorem d_DT_open_56 : decode c_DT_open 56 = .ok (.aload_n 0, 1) := by decide +kernel
theorem d_DT_open_57 : decode c_DT_open 57 = .ok (.getfield 12, 3) := by decide +kernel
theorem d_DT_open_60 : decode c_DT_open 60 = .ok (.getfield 78, 3) := by decide +kernel
theorem d_DT_open_63 : decode c_DT_open 63 = .ok (.iload_n 1, 1) := by decide +kernel
theorem d_DT_open_64 : decode c_DT_open 64 = .ok (.iaload, 1) := by decide +kernel
theorem d_DT_open_65 : decode c_DT_open 65 = .ok (.iconst 1, 1) := by decide +kernel
theorem d_DT_open_66 : decode c_DT_open 66 = .ok (.isub, 1) := by decide +kernel
theorem d_DT_open_67 : decode c_DT_open 67 = .ok (.invokevirtual 81, 3) := by decide +kernel
theorem d_DT_open_70 : decode c_DT_open 70 = .ok (.aload_n 0, 1) := by decide +kernel
theorem d_DT_open_71 : decode c_DT_open 71 = .ok (.dup, 1) := by decide +kernel
theorem d_DT_open_72 : decode c_DT_open 72 = .ok (.getfield 61, 3) := by decide +kernel
theorem d_DT_open_75 : decode c_DT_open 75 = .ok (.iconst 1, 1) := by decide +kernel
theorem d_DT_open_76 : decode c_DT_open 76 = .ok (.isub, 1) := by decide +kernel
theorem d_DT_open_77 : decode c_DT_open 77 = .ok (.putfield 61, 3) := by decide +kernel
theorem d_DT_open_80 : decode c_DT_open 80 = .ok (.iconst 0, 1) := by decide +kernel
theorem d_DT_open_81 : decode c_DT_open 81 = .ok (.istore_n 3, 1) := by decide +kernel
theorem d_DT_open_82 : decode c_DT_open 82 = .ok (.iload_n 3, 1) := by decide +kernel
theorem d_DT_open_83 : decode c_DT_open 83 = .ok (.iload_n 2, 1) := by decide +kernel
theorem d_DT_open_84 : decode c_DT_open 84 = .ok (.if_icmp .ge 13, 3) := by decide +kernel
theorem d_DT_open_87 : decode c_DT_open 87 = .ok (.aload_n 0, 1) := by decide +kernel
theorem d_DT_open_88 : decode c_DT_open 88 = .ok (.invokevirtual 54, 3) := by decide +kernel
theorem d_DT_open_91 : decode c_DT_open 91 = .ok (.iinc 3 1, 3) := by decide +kernel
theorem d_DT_open_94 : decode c_DT_open 94 = .ok (.goto (-12), 3) := by decide +kernel
theorem d_DT_open_97 : decode c_DT_open 97 = .ok (.iload_n 2, 1) := by decide +kernel
theorem d_DT_open_98 : decode c_DT_open 98 = .ok (.ireturn, 1) := by decide +kernel
theorem d_DT_write_0 : decode c_DT_write 0 = .ok (.aload_n 0, 1) := by decide +kernel
theorem d_DT_write_1 : decode c_DT_write 1 = .ok (.iconst 0, 1) := by decide +kernel
theorem d_DT_write_2 : decode c_DT_write 2 = .ok (.invokevirtual 74, 3) := by decide +kernel
theorem d_DT_write_5 : decode c_DT_write 5 = .ok (.istore_n 1, 1) := by decide +kernel
theorem d_DT_write_6 : decode c_DT_write 6 = .ok (.iload_n 1, 1) := by decide +kernel
theorem d_DT_write_7 : decode c_DT_write 7 = .ok (.iconst (-1), 1) := by decide +kernel
theorem d_DT_write_8 : decode c_DT_write 8 = .ok (.if_icmp .eq 21, 3) := by decide +kernel
theorem d_DT_write_11 : decode c_DT_write 11 = .ok (.aload_n 0, 1) := by decide +kernel
theorem d_DT_write_12 : decode c_DT_write 12 = .ok (.getfield 29, 3) := by decide +kernel
theorem d_DT_write_15 : decode c_DT_write 15 = .ok (.aload_n 0, 1) := by decide +kernel
theorem d_DT_write_16 : decode c_DT_write 16 = .ok (.getfield 12, 3) := by decide +kernel
theorem d_DT_write_19 : decode c_DT_write 19 = .ok (.iload_n 1, 1) := by decide +kernel
theorem d_DT_write_20 : decode c_DT_write 20 = .ok (.invokevirtual 91, 3) := by decide +kernel
theorem d_DT_write_23 : decode c_DT_write 23 = .ok (.invokevirtual 94, 3) := by decide +kernel
theorem d_DT_write_26 : decode c_DT_write 26 = .ok (.ifCond .ne 5, 3) := by decide +kernel
theorem d_DT_write_29 : decode c_DT_write 29 = .ok (.iconst (-1), 1) := by decide +kernel
theorem d_DT_write_30 : decode c_DT_write 30 = .ok (.ireturn, 1) := by decide +kernel
theorem d_DT_write_31 : decode c_DT_write 31 = .ok (.iload_n 1, 1) := by decide +kernel
theorem d_DT_write_32 : decode c_DT_write 32 = .ok (.aload_n 0, 1) := by decide +kernel
theorem d_DT_write_33 : decode c_DT_write 33 = .ok (.getfield 12, 3) := by decide +kernel
theorem d_DT_write_36 : decode c_DT_write 36 = .ok (.getfield 78, 3) := by decide +kernel
theorem d_DT_write_39 : decode c_DT_write 39 = .ok (.iload_n 1, 1) := by decide +kernel
theorem d_DT_write_40 : decode c_DT_write 40 = .ok (.iaload, 1) := by decide +kernel
theorem d_DT_write_41 : decode c_DT_write 41 = .ok (.iadd, 1) := by decide +kernel
theorem d_DT_write_42 : decode c_DT_write 42 = .ok (.istore_n 2, 1) := by decide +kernel
theorem d_DT_write_43 : decode c_DT_write 43 = .ok (.iload_n 1, 1) := by decide +kernel
theorem d_DT_write_44 : decode c_DT_write 44 = .ok (.istore_n 3, 1) := by decide +kernel
theorem d_DT_write_45 : decode c_DT_write 45 = .ok (.iload_n 3, 1) := by decide +kernel
theorem d_DT_write_46 : decode c_DT_write 46 = .ok (.iload_n 2, 1) := by decide +kernel
theorem d_DT_write_47 : decode c_DT_write 47 = .ok (.if_icmp .ge 21, 3) := by decide +kernel
theorem d_DT_write_50 : decode c_DT_write 50 = .ok (.aload_n 0, 1) := by decide +kernel
theorem d_DT_write_51 : decode c_DT_write 51 = .ok (.getfield 12, 3) := by decide +kernel
theorem d_DT_write_54 : decode c_DT_write 54 = .ok (.iload_n 3, 1) := by decide +kernel
theorem d_DT_write_55 : decode c_DT_write 55 = .ok (.aload_n 0, 1) := by decide +kernel
theorem d_DT_write_56 : decode c_DT_write 56 = .ok (.getfield 29, 3) := by decide +kernel
theorem d_DT_write_59 : decode c_DT_write 59 = .ok (.invokevirtual 95, 3) := by decide +kernel
theorem d_DT_write_62 : decode c_DT_write 62 = .ok (.iinc 3 1, 3) := by decide +kernel
theorem d_DT_write_65 : decode c_DT_write 65 = .ok (.goto (-20), 3) := by decide +kernel
theorem d_DT_write_68 : decode c_DT_write 68 = .ok (.aload_n 0, 1) := by decide +kernel
theorem d_DT_write_69 : decode c_DT_write 69 = .ok (.getfield 29, 3) := by decide +kernel
theorem d_DT_write_72 : decode c_DT_write 72 = .ok (.getfield 99, 3) := by decide +kernel
theorem d_DT_write_75 : decode c_DT_write 75 = .ok (.ireturn, 1) := by decide +kernel
theorem d_DT_clear_0 : decode c_DT_clear 0 = .ok (.aload_n 0, 1) := by decide +kernel
theorem d_DT_clear_1 : decode c_DT_clear 1 = .ok (.getfield 29, 3) := by decide +kernel
theorem d_DT_clear_4 : decode c_DT_clear 4 = .ok (.iconst 0, 1) := by decide +kernel
theorem d_DT_clear_5 : decode c_DT_clear 5 = .ok (.invokevirtual 102, 3) := by decide +kernel
theorem d_DT_clear_8 : decode c_DT_clear 8 = .ok (.return_, 1) := by decide +kernel
theorem d_DT_give_0 : decode c_DT_give 0 = .ok (.iload_n 3, 1) := by decide +kernel
theorem d_DT_give_1 : decode c_DT_give 1 = .ok (.iconst 1, 1) := by decide +kernel
theorem d_DT_give_2 : decode c_DT_give 2 = .ok (.if_icmp .lt 20, 3) := by decide +kernel
theorem d_DT_give_5 : decode c_DT_give 5 = .ok (.iload_n 3, 1) := by decide +kernel
theorem d_DT_give_6 : decode c_DT_give 6 = .ok (.bipush 8, 2) := by decide +kernel
theorem d_DT_give_8 : decode c_DT_give 8 = .ok (.if_icmp .gt 14, 3) := by decide +kernel
theorem d_DT_give_11 : decode c_DT_give 11 = .ok (.aload_n 0, 1) := by decide +kernel
theorem d_DT_give_12 : decode c_DT_give 12 = .ok (.getfield 25, 3) := by decide +kernel
theorem d_DT_give_15 : decode c_DT_give 15 = .ok (.iload_n 3, 1) := by decide +kernel
theorem d_DT_give_16 : decode c_DT_give 16 = .ok (.invokevirtual 94, 3) := by decide +kernel
theorem d_DT_give_19 : decode c_DT_give 19 = .ok (.ifCond .ne 5, 3) := by decide +kernel
theorem d_DT_give_22 : decode c_DT_give 22 = .ok (.iconst 0, 1) := by decide +kernel
theorem d_DT_give_23 : decode c_DT_give 23 = .ok (.ireturn, 1) := by decide +kernel
theorem d_DT_give_24 : decode c_DT_give 24 = .ok (.aload_n 0, 1) := by decide +kernel
theorem d_DT_give_25 : decode c_DT_give 25 = .ok (.getfield 25, 3) := by decide +kernel
theorem d_DT_give_28 : decode c_DT_give 28 = .ok (.lload_n 1, 1) := by decide +kernel
theorem d_DT_give_29 : decode c_DT_give 29 = .ok (.iload_n 3, 1) := by decide +kernel
theorem d_DT_give_30 : decode c_DT_give 30 = .ok (.invokevirtual 105, 3) := by decide +kernel
theorem d_DT_give_33 : decode c_DT_give 33 = .ok (.iconst 1, 1) := by decide +kernel
theorem d_DT_give_34 : decode c_DT_give 34 = .ok (.ireturn, 1) := by decide +kernel
theorem d_DT_cut_0 : decode c_DT_cut 0 = .ok (.iload_n 1, 1) := by decide +kernel
theorem d_DT_cut_1 : decode c_DT_cut 1 = .ok (.ifCond .lt 14, 3) := by decide +kernel
theorem d_DT_cut_4 : decode c_DT_cut 4 = .ok (.iload_n 1, 1) := by decide +kernel
theorem d_DT_cut_5 : decode c_DT_cut 5 = .ok (.aload_n 0, 1) := by decide +kernel
theorem d_DT_cut_6 : decode c_DT_cut 6 = .ok (.getfield 25, 3) := by decide +kernel
theorem d_DT_cut_9 : decode c_DT_cut 9 = .ok (.getfield 99, 3) := by decide +kernel
theorem d_DT_cut_12 : decode c_DT_cut 12 = .ok (.if_icmp .le 5, 3) := by decide +kernel
theorem d_DT_cut_15 : decode c_DT_cut 15 = .ok (.iconst 0, 1) := by decide +kernel
theorem d_DT_cut_16 : decode c_DT_cut 16 = .ok (.ireturn, 1) := by decide +kernel
theorem d_DT_cut_17 : decode c_DT_cut 17 = .ok (.aload_n 0, 1) := by decide +kernel
theorem d_DT_cut_18 : decode c_DT_cut 18 = .ok (.getfield 25, 3) := by decide +kernel
theorem d_DT_cut_21 : decode c_DT_cut 21 = .ok (.iload_n 1, 1) := by decide +kernel
theorem d_DT_cut_22 : decode c_DT_cut 22 = .ok (.invokevirtual 102, 3) := by decide +kernel
theorem d_DT_cut_25 : decode c_DT_cut 25 = .ok (.aload_n 0, 1) := by decide +kernel
theorem d_DT_cut_26 : decode c_DT_cut 26 = .ok (.iconst 0, 1) := by decide +kernel
theorem d_DT_cut_27 : decode c_DT_cut 27 = .ok (.putfield 108, 3) := by decide +kernel
theorem d_DT_cut_30 : decode c_DT_cut 30 = .ok (.iconst 1, 1) := by decide +kernel
theorem d_DT_cut_31 : decode c_DT_cut 31 = .ok (.ireturn, 1) := by decide +kernel
theorem d_DT_turn_0 : decode c_DT_turn 0 = .ok (.aload_n 0, 1) := by decide +kernel
theorem d_DT_turn_1 : decode c_DT_turn 1 = .ok (.getfield 25, 3) := by decide +kernel
theorem d_DT_turn_4 : decode c_DT_turn 4 = .ok (.aload_n 0, 1) := by decide +kernel
theorem d_DT_turn_5 : decode c_DT_turn 5 = .ok (.getfield 29, 3) := by decide +kernel
theorem d_DT_turn_8 : decode c_DT_turn 8 = .ok (.invokevirtual 111, 3) := by decide +kernel
theorem d_DT_turn_11 : decode c_DT_turn 11 = .ok (.aload_n 0, 1) := by decide +kernel
theorem d_DT_turn_12 : decode c_DT_turn 12 = .ok (.iconst 0, 1) := by decide +kernel
theorem d_DT_turn_13 : decode c_DT_turn 13 = .ok (.putfield 108, 3) := by decide +kernel
theorem d_DT_turn_16 : decode c_DT_turn 16 = .ok (.return_, 1) := by decide +kernel
theorem d_DT_read_0 : decode c_DT_read 0 = .ok (.aload_n 0, 1) := by decide +kernel
theorem d_DT_read_1 : decode c_DT_read 1 = .ok (.getfield 108, 3) := by decide +kernel
theorem d_DT_read_4 : decode c_DT_read 4 = .ok (.aload_n 0, 1) := by decide +kernel
theorem d_DT_read_5 : decode c_DT_read 5 = .ok (.getfield 25, 3) := by decide +kernel
theorem d_DT_read_8 : decode c_DT_read 8 = .ok (.getfield 99, 3) := by decide +kernel
theorem d_DT_read_11 : decode c_DT_read 11 = .ok (.if_icmp .ge 12, 3) := by decide +kernel
theorem d_DT_read_14 : decode c_DT_read 14 = .ok (.aload_n 0, 1) := by decide +kernel
theorem d_DT_read_15 : decode c_DT_read 15 = .ok (.getfield 61, 3) := by decide +kernel
theorem d_DT_read_18 : decode c_DT_read 18 = .ok (.bipush 16, 2) := by decide +kernel
theorem d_DT_read_20 : decode c_DT_read 20 = .ok (.if_icmp .ne 5, 3) := by decide +kernel
theorem d_DT_read_23 : decode c_DT_read 23 = .ok (.iconst (-1), 1) := by decide +kernel
theorem d_DT_read_24 : decode c_DT_read 24 = .ok (.ireturn, 1) := by decide +kernel
theorem d_DT_read_25 : decode c_DT_read 25 = .ok (.new 115, 3) := by decide +kernel
theorem d_DT_read_28 : decode c_DT_read 28 = .ok (.dup, 1) := by decide +kernel
theorem d_DT_read_29 : decode c_DT_read 29 = .ok (.aload_n 0, 1) := by decide +kernel
theorem d_DT_read_30 : decode c_DT_read 30 = .ok (.getfield 25, 3) := by decide +kernel
theorem d_DT_read_33 : decode c_DT_read 33 = .ok (.aload_n 0, 1) := by decide +kernel
theorem d_DT_read_34 : decode c_DT_read 34 = .ok (.getfield 108, 3) := by decide +kernel
theorem d_DT_read_37 : decode c_DT_read 37 = .ok (.aload_n 0, 1) := by decide +kernel
theorem d_DT_read_38 : decode c_DT_read 38 = .ok (.getfield 12, 3) := by decide +kernel
theorem d_DT_read_41 : decode c_DT_read 41 = .ok (.aload_n 0, 1) := by decide +kernel
theorem d_DT_read_42 : decode c_DT_read 42 = .ok (.invokevirtual 46, 3) := by decide +kernel
theorem d_DT_read_45 : decode c_DT_read 45 = .ok (.invokespecial 117, 3) := by decide +kernel
theorem d_DT_read_48 : decode c_DT_read 48 = .ok (.astore_n 1, 1) := by decide +kernel
theorem d_DT_read_49 : decode c_DT_read 49 = .ok (.aload_n 1, 1) := by decide +kernel
theorem d_DT_read_50 : decode c_DT_read 50 = .ok (.invokevirtual 120, 3) := by decide +kernel
theorem d_DT_read_53 : decode c_DT_read 53 = .ok (.istore_n 2, 1) := by decide +kernel
theorem d_DT_read_54 : decode c_DT_read 54 = .ok (.iload_n 2, 1) := by decide +kernel
theorem d_DT_read_55 : decode c_DT_read 55 = .ok (.ifCond .eq 18, 3) := by decide +kernel
theorem d_DT_read_58 : decode c_DT_read 58 = .ok (.aload_n 0, 1) := by decide +kernel
theorem d_DT_read_59 : decode c_DT_read 59 = .ok (.iload_n 2, 1) := by decide +kernel
theorem d_DT_read_60 : decode c_DT_read 60 = .ok (.putfield 123, 3) := by decide +kernel
theorem d_DT_read_63 : decode c_DT_read 63 = .ok (.aload_n 0, 1) := by decide +kernel
theorem d_DT_read_64 : decode c_DT_read 64 = .ok (.aload_n 1, 1) := by decide +kernel
theorem d_DT_read_65 : decode c_DT_read 65 = .ok (.getfield 126, 3) := by decide +kernel
theorem d_DT_read_68 : decode c_DT_read 68 = .ok (.putfield 38, 3) := by decide +kernel
theorem d_DT_read_71 : decode c_DT_read 71 = .ok (.iload_n 2, 1) := by decide +kernel
theorem d_DT_read_72 : decode c_DT_read 72 = .ok (.ireturn, 1) := by decide +kernel
theorem d_DT_read_73 : decode c_DT_read 73 = .ok (.aload_n 1, 1) := by decide +kernel
theorem d_DT_read_74 : decode c_DT_read 74 = .ok (.getfield 129, 3) := by decide +kernel
theorem d_DT_read_77 : decode c_DT_read 77 = .ok (.sipush 1000, 3) := by decide +kernel
theorem d_DT_read_80 : decode c_DT_read 80 = .ok (.if_icmp .le 5, 3) := by decide +kernel
theorem d_DT_read_83 : decode c_DT_read 83 = .ok (.iconst (-1), 1) := by decide +kernel
theorem d_DT_read_84 : decode c_DT_read 84 = .ok (.ireturn, 1) := by decide +kernel
theorem d_DT_read_85 : decode c_DT_read 85 = .ok (.aload_n 0, 1) := by decide +kernel
theorem d_DT_read_86 : decode c_DT_read 86 = .ok (.invokevirtual 54, 3) := by decide +kernel
theorem d_DT_read_89 : decode c_DT_read 89 = .ok (.aload_n 0, 1) := by decide +kernel
theorem d_DT_read_90 : decode c_DT_read 90 = .ok (.aload_n 1, 1) := by decide +kernel
theorem d_DT_read_91 : decode c_DT_read 91 = .ok (.getfield 132, 3) := by decide +kernel
theorem d_DT_read_94 : decode c_DT_read 94 = .ok (.putfield 108, 3) := by decide +kernel
theorem d_DT_read_97 : decode c_DT_read 97 = .ok (.aload_n 0, 1) := by decide +kernel
theorem d_DT_read_98 : decode c_DT_read 98 = .ok (.iconst 0, 1) := by decide +kernel
theorem d_DT_read_99 : decode c_DT_read 99 = .ok (.putfield 123, 3) := by decide +kernel
theorem d_DT_read_102 : decode c_DT_read 102 = .ok (.aload_n 0, 1) := by decide +kernel
theorem d_DT_read_103 : decode c_DT_read 103 = .ok (.iconst (-1), 1) := by decide +kernel
theorem d_DT_read_104 : decode c_DT_read 104 = .ok (.putfield 38, 3) := by decide +kernel
theorem d_DT_read_107 : decode c_DT_read 107 = .ok (.iconst 0, 1) := by decide +kernel
theorem d_DT_read_108 : decode c_DT_read 108 = .ok (.ireturn, 1) := by decide +kernel
theorem d_DT_node_0 : decode c_DT_node 0 = .ok (.aload_n 0, 1) := by decide +kernel
theorem d_DT_node_1 : decode c_DT_node 1 = .ok (.iload_n 1, 1) := by decide +kernel
theorem d_DT_node_2 : decode c_DT_node 2 = .ok (.iload_n 2, 1) := by decide +kernel
theorem d_DT_node_3 : decode c_DT_node 3 = .ok (.invokevirtual 133, 3) := by decide +kernel
theorem d_DT_node_6 : decode c_DT_node 6 = .ok (.istore 4, 2) := by decide +kernel
theorem d_DT_node_8 : decode c_DT_node 8 = .ok (.iload 4, 2) := by decide +kernel
theorem d_DT_node_10 : decode c_DT_node 10 = .ok (.iconst (-1), 1) := by decide +kernel
theorem d_DT_node_11 : decode c_DT_node 11 = .ok (.if_icmp .ne 13, 3) := by decide +kernel
theorem d_DT_node_14 : decode c_DT_node 14 = .ok (.new 137, 3) := by decide +kernel
theorem d_DT_node_17 : decode c_DT_node 17 = .ok (.dup, 1) := by decide +kernel
theorem d_DT_node_18 : decode c_DT_node 18 = .ok (.ldc 139, 2) := by decide +kernel
theorem d_DT_node_20 : decode c_DT_node 20 = .ok (.invokespecial 141, 3) := by decide +kernel
theorem d_DT_node_23 : decode c_DT_node 23 = .ok (.athrow, 1) := by decide +kernel
theorem d_DT_node_24 : decode c_DT_node 24 = .ok (.iload_n 3, 1) := by decide +kernel
theorem d_DT_node_25 : decode c_DT_node 25 = .ok (.tableswitch 144 0 5 #[39, 50, 78, 109, 120, 131], 39) := by decide +kernel
theorem d_DT_node_64 : decode c_DT_node 64 = .ok (.aload_n 0, 1) := by decide +kernel
theorem d_DT_node_65 : decode c_DT_node 65 = .ok (.getfield 12, 3) := by decide +kernel
theorem d_DT_node_68 : decode c_DT_node 68 = .ok (.getfield 64, 3) := by decide +kernel
theorem d_DT_node_71 : decode c_DT_node 71 = .ok (.iload 4, 2) := by decide +kernel
theorem d_DT_node_73 : decode c_DT_node 73 = .ok (.iaload, 1) := by decide +kernel
theorem d_DT_node_74 : decode c_DT_node 74 = .ok (.ireturn, 1) := by decide +kernel
theorem d_DT_node_75 : decode c_DT_node 75 = .ok (.aload_n 0, 1) := by decide +kernel
theorem d_DT_node_76 : decode c_DT_node 76 = .ok (.getfield 12, 3) := by decide +kernel
theorem d_DT_node_79 : decode c_DT_node 79 = .ok (.getfield 64, 3) := by decide +kernel
theorem d_DT_node_82 : decode c_DT_node 82 = .ok (.iload 4, 2) := by decide +kernel
theorem d_DT_node_84 : decode c_DT_node 84 = .ok (.iaload, 1) := by decide +kernel
theorem d_DT_node_85 : decode c_DT_node 85 = .ok (.ifCond .ne 7, 3) := by decide +kernel
theorem d_DT_node_88 : decode c_DT_node 88 = .ok (.iconst (-1), 1) := by decide +kernel
theorem d_DT_node_89 : decode c_DT_node 89 = .ok (.goto 13, 3) := by decide +kernel
theorem d_DT_node_92 : decode c_DT_node 92 = .ok (.aload_n 0, 1) := by decide +kernel
theorem d_DT_node_93 : decode c_DT_node 93 = .ok (.getfield 12, 3) := by decide +kernel
theorem d_DT_node_96 : decode c_DT_node 96 = .ok (.getfield 67, 3) := by decide +kernel
theorem d_DT_node_99 : decode c_DT_node 99 = .ok (.iload 4, 2) := by decide +kernel
theorem d_DT_node_101 : decode c_DT_node 101 = .ok (.iaload, 1) := by decide +kernel
theorem d_DT_node_102 : decode c_DT_node 102 = .ok (.ireturn, 1) := by decide +kernel
theorem d_DT_node_103 : decode c_DT_node 103 = .ok (.aload_n 0, 1) := by decide +kernel
theorem d_DT_node_104 : decode c_DT_node 104 = .ok (.getfield 12, 3) := by decide +kernel
theorem d_DT_node_107 : decode c_DT_node 107 = .ok (.getfield 64, 3) := by decide +kernel
theorem d_DT_node_110 : decode c_DT_node 110 = .ok (.iload 4, 2) := by decide +kernel
theorem d_DT_node_112 : decode c_DT_node 112 = .ok (.iaload, 1) := by decide +kernel
theorem d_DT_node_113 : decode c_DT_node 113 = .ok (.bipush 6, 2) := by decide +kernel
theorem d_DT_node_115 : decode c_DT_node 115 = .ok (.if_icmp .ne 17, 3) := by decide +kernel
theorem d_DT_node_118 : decode c_DT_node 118 = .ok (.aload_n 0, 1) := by decide +kernel
theorem d_DT_node_119 : decode c_DT_node 119 = .ok (.getfield 12, 3) := by decide +kernel
theorem d_DT_node_122 : decode c_DT_node 122 = .ok (.getfield 144, 3) := by decide +kernel
theorem d_DT_node_125 : decode c_DT_node 125 = .ok (.iload 4, 2) := by decide +kernel
theorem d_DT_node_127 : decode c_DT_node 127 = .ok (.laload, 1) := by decide +kernel
theorem d_DT_node_128 : decode c_DT_node 128 = .ok (.l2i, 1) := by decide +kernel
theorem d_DT_node_129 : decode c_DT_node 129 = .ok (.goto 4, 3) := by decide +kernel
theorem d_DT_node_132 : decode c_DT_node 132 = .ok (.iconst (-1), 1) := by decide +kernel
theorem d_DT_node_133 : decode c_DT_node 133 = .ok (.ireturn, 1) := by decide +kernel
theorem d_DT_node_134 : decode c_DT_node 134 = .ok (.aload_n 0, 1) := by decide +kernel
theorem d_DT_node_135 : decode c_DT_node 135 = .ok (.getfield 12, 3) := by decide +kernel
theorem d_DT_node_138 : decode c_DT_node 138 = .ok (.getfield 78, 3) := by decide +kernel
theorem d_DT_node_141 : decode c_DT_node 141 = .ok (.iload 4, 2) := by decide +kernel
theorem d_DT_node_143 : decode c_DT_node 143 = .ok (.iaload, 1) := by decide +kernel
theorem d_DT_node_144 : decode c_DT_node 144 = .ok (.ireturn, 1) := by decide +kernel
theorem d_DT_node_145 : decode c_DT_node 145 = .ok (.aload_n 0, 1) := by decide +kernel
theorem d_DT_node_146 : decode c_DT_node 146 = .ok (.getfield 12, 3) := by decide +kernel
theorem d_DT_node_149 : decode c_DT_node 149 = .ok (.getfield 148, 3) := by decide +kernel
theorem d_DT_node_152 : decode c_DT_node 152 = .ok (.iload 4, 2) := by decide +kernel
theorem d_DT_node_154 : decode c_DT_node 154 = .ok (.iaload, 1) := by decide +kernel
theorem d_DT_node_155 : decode c_DT_node 155 = .ok (.ireturn, 1) := by decide +kernel
theorem d_DT_node_156 : decode c_DT_node 156 = .ok (.aload_n 0, 1) := by decide +kernel
theorem d_DT_node_157 : decode c_DT_node 157 = .ok (.getfield 12, 3) := by decide +kernel
theorem d_DT_node_160 : decode c_DT_node 160 = .ok (.iload 4, 2) := by decide +kernel
theorem d_DT_node_162 : decode c_DT_node 162 = .ok (.iload_n 2, 1) := by decide +kernel
theorem d_DT_node_163 : decode c_DT_node 163 = .ok (.isub, 1) := by decide +kernel
theorem d_DT_node_164 : decode c_DT_node 164 = .ok (.iload_n 2, 1) := by decide +kernel
theorem d_DT_node_165 : decode c_DT_node 165 = .ok (.invokevirtual 151, 3) := by decide +kernel
theorem d_DT_node_168 : decode c_DT_node 168 = .ok (.ireturn, 1) := by decide +kernel
theorem d_DT_node_169 : decode c_DT_node 169 = .ok (.iconst (-1), 1) := by decide +kernel
theorem d_DT_node_170 : decode c_DT_node 170 = .ok (.ireturn, 1) := by decide +kernel
theorem d_DT_value_0 : decode c_DT_value 0 = .ok (.aload_n 0, 1) := by decide +kernel
theorem d_DT_value_1 : decode c_DT_value 1 = .ok (.iload_n 1, 1) := by decide +kernel
theorem d_DT_value_2 : decode c_DT_value 2 = .ok (.iload_n 2, 1) := by decide +kernel
theorem d_DT_value_3 : decode c_DT_value 3 = .ok (.invokevirtual 133, 3) := by decide +kernel
theorem d_DT_value_6 : decode c_DT_value 6 = .ok (.istore_n 3, 1) := by decide +kernel
theorem d_DT_value_7 : decode c_DT_value 7 = .ok (.iload_n 3, 1) := by decide +kernel
theorem d_DT_value_8 : decode c_DT_value 8 = .ok (.iconst (-1), 1) := by decide +kernel
theorem d_DT_value_9 : decode c_DT_value 9 = .ok (.if_icmp .ne 13, 3) := by decide +kernel
theorem d_DT_value_12 : decode c_DT_value 12 = .ok (.new 137, 3) := by decide +kernel
theorem d_DT_value_15 : decode c_DT_value 15 = .ok (.dup, 1) := by decide +kernel
theorem d_DT_value_16 : decode c_DT_value 16 = .ok (.ldc 139, 2) := by decide +kernel
theorem d_DT_value_18 : decode c_DT_value 18 = .ok (.invokespecial 141, 3) := by decide +kernel
theorem d_DT_value_21 : decode c_DT_value 21 = .ok (.athrow, 1) := by decide +kernel
theorem d_DT_value_22 : decode c_DT_value 22 = .ok (.aload_n 0, 1) := by decide +kernel
theorem d_DT_value_23 : decode c_DT_value 23 = .ok (.getfield 12, 3) := by decide +kernel
theorem d_DT_value_26 : decode c_DT_value 26 = .ok (.getfield 64, 3) := by decide +kernel
theorem d_DT_value_29 : decode c_DT_value 29 = .ok (.iload_n 3, 1) := by decide +kernel
theorem d_DT_value_30 : decode c_DT_value 30 = .ok (.iaload, 1) := by decide +kernel
theorem d_DT_value_31 : decode c_DT_value 31 = .ok (.ifCond .eq 13, 3) := by decide +kernel
theorem d_DT_value_34 : decode c_DT_value 34 = .ok (.new 154, 3) := by decide +kernel
theorem d_DT_value_37 : decode c_DT_value 37 = .ok (.dup, 1) := by decide +kernel
theorem d_DT_value_38 : decode c_DT_value 38 = .ok (.ldc 156, 2) := by decide +kernel
theorem d_DT_value_40 : decode c_DT_value 40 = .ok (.invokespecial 158, 3) := by decide +kernel
theorem d_DT_value_43 : decode c_DT_value 43 = .ok (.athrow, 1) := by decide +kernel
theorem d_DT_value_44 : decode c_DT_value 44 = .ok (.aload_n 0, 1) := by decide +kernel
theorem d_DT_value_45 : decode c_DT_value 45 = .ok (.getfield 12, 3) := by decide +kernel
theorem d_DT_value_48 : decode c_DT_value 48 = .ok (.getfield 144, 3) := by decide +kernel
theorem d_DT_value_51 : decode c_DT_value 51 = .ok (.iload_n 3, 1) := by decide +kernel
theorem d_DT_value_52 : decode c_DT_value 52 = .ok (.laload, 1) := by decide +kernel
theorem d_DT_value_53 : decode c_DT_value 53 = .ok (.lreturn, 1) := by decide +kernel
theorem d_DT_byteAt_0 : decode c_DT_byteAt 0 = .ok (.aload_n 0, 1) := by decide +kernel
theorem d_DT_byteAt_1 : decode c_DT_byteAt 1 = .ok (.iload_n 1, 1) := by decide +kernel
theorem d_DT_byteAt_2 : decode c_DT_byteAt 2 = .ok (.iload_n 2, 1) := by decide +kernel
theorem d_DT_byteAt_3 : decode c_DT_byteAt 3 = .ok (.invokevirtual 133, 3) := by decide +kernel
theorem d_DT_byteAt_6 : decode c_DT_byteAt 6 = .ok (.istore 4, 2) := by decide +kernel
theorem d_DT_byteAt_8 : decode c_DT_byteAt 8 = .ok (.iload 4, 2) := by decide +kernel
theorem d_DT_byteAt_10 : decode c_DT_byteAt 10 = .ok (.iconst (-1), 1) := by decide +kernel
theorem d_DT_byteAt_11 : decode c_DT_byteAt 11 = .ok (.if_icmp .eq 35, 3) := by decide +kernel
theorem d_DT_byteAt_14 : decode c_DT_byteAt 14 = .ok (.aload_n 0, 1) := by decide +kernel
theorem d_DT_byteAt_15 : decode c_DT_byteAt 15 = .ok (.getfield 12, 3) := by decide +kernel
theorem d_DT_byteAt_18 : decode c_DT_byteAt 18 = .ok (.getfield 64, 3) := by decide +kernel
theorem d_DT_byteAt_21 : decode c_DT_byteAt 21 = .ok (.iload 4, 2) := by decide +kernel
theorem d_DT_byteAt_23 : decode c_DT_byteAt 23 = .ok (.iaload, 1) := by decide +kernel
theorem d_DT_byteAt_24 : decode c_DT_byteAt 24 = .ok (.iconst 2, 1) := by decide +kernel
theorem d_DT_byteAt_25 : decode c_DT_byteAt 25 = .ok (.if_icmp .ne 21, 3) := by decide +kernel
theorem d_DT_byteAt_28 : decode c_DT_byteAt 28 = .ok (.iload_n 3, 1) := by decide +kernel
theorem d_DT_byteAt_29 : decode c_DT_byteAt 29 = .ok (.ifCond .lt 17, 3) := by decide +kernel
theorem d_DT_byteAt_32 : decode c_DT_byteAt 32 = .ok (.iload_n 3, 1) := by decide +kernel
theorem d_DT_byteAt_33 : decode c_DT_byteAt 33 = .ok (.aload_n 0, 1) := by decide +kernel
theorem d_DT_byteAt_34 : decode c_DT_byteAt 34 = .ok (.getfield 12, 3) := by decide +kernel
theorem d_DT_byteAt_37 : decode c_DT_byteAt 37 = .ok (.getfield 67, 3) := by decide +kernel
theorem d_DT_byteAt_40 : decode c_DT_byteAt 40 = .ok (.iload 4, 2) := by decide +kernel
theorem d_DT_byteAt_42 : decode c_DT_byteAt 42 = .ok (.iaload, 1) := by decide +kernel
theorem d_DT_byteAt_43 : decode c_DT_byteAt 43 = .ok (.if_icmp .lt 5, 3) := by decide +kernel
theorem d_DT_byteAt_46 : decode c_DT_byteAt 46 = .ok (.iconst (-1), 1) := by decide +kernel
theorem d_DT_byteAt_47 : decode c_DT_byteAt 47 = .ok (.ireturn, 1) := by decide +kernel
theorem d_DT_byteAt_48 : decode c_DT_byteAt 48 = .ok (.aload_n 0, 1) := by decide +kernel
theorem d_DT_byteAt_49 : decode c_DT_byteAt 49 = .ok (.getfield 12, 3) := by decide +kernel
theorem d_DT_byteAt_52 : decode c_DT_byteAt 52 = .ok (.iload 4, 2) := by decide +kernel
theorem d_DT_byteAt_54 : decode c_DT_byteAt 54 = .ok (.iload_n 3, 1) := by decide +kernel
theorem d_DT_byteAt_55 : decode c_DT_byteAt 55 = .ok (.invokevirtual 159, 3) := by decide +kernel
theorem d_DT_byteAt_58 : decode c_DT_byteAt 58 = .ok (.ireturn, 1) := by decide +kernel
theorem d_DT_compare_0 : decode c_DT_compare 0 = .ok (.aload_n 0, 1) := by decide +kernel
theorem d_DT_compare_1 : decode c_DT_compare 1 = .ok (.iload_n 1, 1) := by decide +kernel
theorem d_DT_compare_2 : decode c_DT_compare 2 = .ok (.invokevirtual 74, 3) := by decide +kernel
theorem d_DT_compare_5 : decode c_DT_compare 5 = .ok (.istore_n 3, 1) := by decide +kernel
theorem d_DT_compare_6 : decode c_DT_compare 6 = .ok (.aload_n 0, 1) := by decide +kernel
theorem d_DT_compare_7 : decode c_DT_compare 7 = .ok (.iload_n 2, 1) := by decide +kernel
theorem d_DT_compare_8 : decode c_DT_compare 8 = .ok (.invokevirtual 74, 3) := by decide +kernel
theorem d_DT_compare_11 : decode c_DT_compare 11 = .ok (.istore 4, 2) := by decide +kernel
theorem d_DT_compare_13 : decode c_DT_compare 13 = .ok (.iload_n 3, 1) := by decide +kernel
theorem d_DT_compare_14 : decode c_DT_compare 14 = .ok (.iconst (-1), 1) := by decide +kernel
theorem d_DT_compare_15 : decode c_DT_compare 15 = .ok (.if_icmp .eq 9, 3) := by decide +kernel
theorem d_DT_compare_18 : decode c_DT_compare 18 = .ok (.iload 4, 2) := by decide +kernel
theorem d_DT_compare_20 : decode c_DT_compare 20 = .ok (.iconst (-1), 1) := by decide +kernel
theorem d_DT_compare_21 : decode c_DT_compare 21 = .ok (.if_icmp .ne 13, 3) := by decide +kernel
theorem d_DT_compare_24 : decode c_DT_compare 24 = .ok (.new 137, 3) := by decide +kernel
theorem d_DT_compare_27 : decode c_DT_compare 27 = .ok (.dup, 1) := by decide +kernel
theorem d_DT_compare_28 : decode c_DT_compare 28 = .ok (.ldc 162, 2) := by decide +kernel
theorem d_DT_compare_30 : decode c_DT_compare 30 = .ok (.invokespecial 141, 3) := by decide +kernel
theorem d_DT_compare_33 : decode c_DT_compare 33 = .ok (.athrow, 1) := by decide +kernel
theorem d_DT_compare_34 : decode c_DT_compare 34 = .ok (.aload_n 0, 1) := by decide +kernel
theorem d_DT_compare_35 : decode c_DT_compare 35 = .ok (.getfield 12, 3) := by decide +kernel
theorem d_DT_compare_38 : decode c_DT_compare 38 = .ok (.getfield 78, 3) := by decide +kernel
theorem d_DT_compare_41 : decode c_DT_compare 41 = .ok (.iload_n 3, 1) := by decide +kernel
theorem d_DT_compare_42 : decode c_DT_compare 42 = .ok (.iaload, 1) := by decide +kernel
theorem d_DT_compare_43 : decode c_DT_compare 43 = .ok (.aload_n 0, 1) := by decide +kernel
theorem d_DT_compare_44 : decode c_DT_compare 44 = .ok (.getfield 12, 3) := by decide +kernel
theorem d_DT_compare_47 : decode c_DT_compare 47 = .ok (.getfield 78, 3) := by decide +kernel
theorem d_DT_compare_50 : decode c_DT_compare 50 = .ok (.iload 4, 2) := by decide +kernel
theorem d_DT_compare_52 : decode c_DT_compare 52 = .ok (.iaload, 1) := by decide +kernel
theorem d_DT_compare_53 : decode c_DT_compare 53 = .ok (.invokestatic 164, 3) := by decide +kernel
theorem d_DT_compare_56 : decode c_DT_compare 56 = .ok (.istore 5, 2) := by decide +kernel
theorem d_DT_compare_58 : decode c_DT_compare 58 = .ok (.iconst 0, 1) := by decide +kernel
theorem d_DT_compare_59 : decode c_DT_compare 59 = .ok (.istore 6, 2) := by decide +kernel
theorem d_DT_compare_61 : decode c_DT_compare 61 = .ok (.iload 6, 2) := by decide +kernel
theorem d_DT_compare_63 : decode c_DT_compare 63 = .ok (.iload 5, 2) := by decide +kernel
theorem d_DT_compare_65 : decode c_DT_compare 65 = .ok (.if_icmp .ge 42, 3) := by decide +kernel
theorem d_DT_compare_68 : decode c_DT_compare 68 = .ok (.aload_n 0, 1) := by decide +kernel
theorem d_DT_compare_69 : decode c_DT_compare 69 = .ok (.getfield 12, 3) := by decide +kernel
theorem d_DT_compare_72 : decode c_DT_compare 72 = .ok (.iload_n 3, 1) := by decide +kernel
theorem d_DT_compare_73 : decode c_DT_compare 73 = .ok (.iload 6, 2) := by decide +kernel
theorem d_DT_compare_75 : decode c_DT_compare 75 = .ok (.iadd, 1) := by decide +kernel
theorem d_DT_compare_76 : decode c_DT_compare 76 = .ok (.iload 4, 2) := by decide +kernel
theorem d_DT_compare_78 : decode c_DT_compare 78 = .ok (.iload 6, 2) := by decide +kernel
theorem d_DT_compare_80 : decode c_DT_compare 80 = .ok (.iadd, 1) := by decide +kernel
theorem d_DT_compare_81 : decode c_DT_compare 81 = .ok (.invokevirtual 169, 3) := by decide +kernel
theorem d_DT_compare_84 : decode c_DT_compare 84 = .ok (.ifCond .ne 17, 3) := by decide +kernel
theorem d_DT_compare_87 : decode c_DT_compare 87 = .ok (.aload_n 0, 1) := by decide +kernel
theorem d_DT_compare_88 : decode c_DT_compare 88 = .ok (.iload_n 3, 1) := by decide +kernel
theorem d_DT_compare_89 : decode c_DT_compare 89 = .ok (.iload 6, 2) := by decide +kernel
theorem d_DT_compare_91 : decode c_DT_compare 91 = .ok (.iadd, 1) := by decide +kernel
theorem d_DT_compare_92 : decode c_DT_compare 92 = .ok (.iload 4, 2) := by decide +kernel
theorem d_DT_compare_94 : decode c_DT_compare 94 = .ok (.iload 6, 2) := by decide +kernel
theorem d_DT_compare_96 : decode c_DT_compare 96 = .ok (.iadd, 1) := by decide +kernel
theorem d_DT_compare_97 : decode c_DT_compare 97 = .ok (.invokevirtual 173, 3) := by decide +kernel
theorem d_DT_compare_100 : decode c_DT_compare 100 = .ok (.ireturn, 1) := by decide +kernel
theorem d_DT_compare_101 : decode c_DT_compare 101 = .ok (.iinc 6 1, 3) := by decide +kernel
theorem d_DT_compare_104 : decode c_DT_compare 104 = .ok (.goto (-43), 3) := by decide +kernel
theorem d_DT_compare_107 : decode c_DT_compare 107 = .ok (.iconst 0, 1) := by decide +kernel
theorem d_DT_compare_108 : decode c_DT_compare 108 = .ok (.ireturn, 1) := by decide +kernel
theorem d_DT_output_0 : decode c_DT_output 0 = .ok (.aload_n 0, 1) := by decide +kernel
theorem d_DT_output_1 : decode c_DT_output 1 = .ok (.getfield 29, 3) := by decide +kernel
theorem d_DT_output_4 : decode c_DT_output 4 = .ok (.iload_n 1, 1) := by decide +kernel
theorem d_DT_output_5 : decode c_DT_output 5 = .ok (.invokevirtual 176, 3) := by decide +kernel
theorem d_DT_output_8 : decode c_DT_output 8 = .ok (.ireturn, 1) := by decide +kernel
theorem d_DT_look_0 : decode c_DT_look 0 = .ok (.iload_n 1, 1) := by decide +kernel
theorem d_DT_look_1 : decode c_DT_look 1 = .ok (.tableswitch 118 0 7 #[47, 52, 57, 65, 73, 78, 83, 88], 47) := by decide +kernel
theorem d_DT_look_48 : decode c_DT_look 48 = .ok (.aload_n 0, 1) := by decide +kernel
theorem d_DT_look_49 : decode c_DT_look 49 = .ok (.getfield 61, 3) := by decide +kernel
theorem d_DT_look_52 : decode c_DT_look 52 = .ok (.ireturn, 1) := by decide +kernel
theorem d_DT_look_53 : decode c_DT_look 53 = .ok (.aload_n 0, 1) := by decide +kernel
theorem d_DT_look_54 : decode c_DT_look 54 = .ok (.invokevirtual 46, 3) := by decide +kernel
theorem d_DT_look_57 : decode c_DT_look 57 = .ok (.ireturn, 1) := by decide +kernel
theorem d_DT_look_58 : decode c_DT_look 58 = .ok (.aload_n 0, 1) := by decide +kernel
theorem d_DT_look_59 : decode c_DT_look 59 = .ok (.getfield 29, 3) := by decide +kernel
theorem d_DT_look_62 : decode c_DT_look 62 = .ok (.getfield 99, 3) := by decide +kernel
theorem d_DT_look_65 : decode c_DT_look 65 = .ok (.ireturn, 1) := by decide +kernel
theorem d_DT_look_66 : decode c_DT_look 66 = .ok (.aload_n 0, 1) := by decide +kernel
theorem d_DT_look_67 : decode c_DT_look 67 = .ok (.getfield 25, 3) := by decide +kernel
theorem d_DT_look_70 : decode c_DT_look 70 = .ok (.getfield 99, 3) := by decide +kernel
theorem d_DT_look_73 : decode c_DT_look 73 = .ok (.ireturn, 1) := by decide +kernel
theorem d_DT_look_74 : decode c_DT_look 74 = .ok (.aload_n 0, 1) := by decide +kernel
theorem d_DT_look_75 : decode c_DT_look 75 = .ok (.getfield 108, 3) := by decide +kernel
theorem d_DT_look_78 : decode c_DT_look 78 = .ok (.ireturn, 1) := by decide +kernel
theorem d_DT_look_79 : decode c_DT_look 79 = .ok (.aload_n 0, 1) := by decide +kernel
theorem d_DT_look_80 : decode c_DT_look 80 = .ok (.getfield 123, 3) := by decide +kernel
theorem d_DT_look_83 : decode c_DT_look 83 = .ok (.ireturn, 1) := by decide +kernel
theorem d_DT_look_84 : decode c_DT_look 84 = .ok (.aload_n 0, 1) := by decide +kernel
theorem d_DT_look_85 : decode c_DT_look 85 = .ok (.getfield 38, 3) := by decide +kernel
theorem d_DT_look_88 : decode c_DT_look 88 = .ok (.ireturn, 1) := by decide +kernel
theorem d_DT_look_89 : decode c_DT_look 89 = .ok (.aload_n 0, 1) := by decide +kernel
theorem d_DT_look_90 : decode c_DT_look 90 = .ok (.getfield 61, 3) := by decide +kernel
theorem d_DT_look_93 : decode c_DT_look 93 = .ok (.ifCond .ne 7, 3) := by decide +kernel
theorem d_DT_look_96 : decode c_DT_look 96 = .ok (.iconst (-1), 1) := by decide +kernel
theorem d_DT_look_97 : decode c_DT_look 97 = .ok (.goto 21, 3) := by decide +kernel
theorem d_DT_look_100 : decode c_DT_look 100 = .ok (.aload_n 0, 1) := by decide +kernel
theorem d_DT_look_101 : decode c_DT_look 101 = .ok (.getfield 12, 3) := by decide +kernel
theorem d_DT_look_104 : decode c_DT_look 104 = .ok (.aload_n 0, 1) := by decide +kernel
theorem d_DT_look_105 : decode c_DT_look 105 = .ok (.getfield 16, 3) := by decide +kernel
theorem d_DT_look_108 : decode c_DT_look 108 = .ok (.aload_n 0, 1) := by decide +kernel
theorem d_DT_look_109 : decode c_DT_look 109 = .ok (.getfield 61, 3) := by decide +kernel
theorem d_DT_look_112 : decode c_DT_look 112 = .ok (.iconst 1, 1) := by decide +kernel
theorem d_DT_look_113 : decode c_DT_look 113 = .ok (.isub, 1) := by decide +kernel
theorem d_DT_look_114 : decode c_DT_look 114 = .ok (.iaload, 1) := by decide +kernel
theorem d_DT_look_115 : decode c_DT_look 115 = .ok (.invokevirtual 91, 3) := by decide +kernel
theorem d_DT_look_118 : decode c_DT_look 118 = .ok (.ireturn, 1) := by decide +kernel
theorem d_DT_look_119 : decode c_DT_look 119 = .ok (.iconst (-1), 1) := by decide +kernel
theorem d_DT_look_120 : decode c_DT_look 120 = .ok (.ireturn, 1) := by decide +kernel
theorem d_DT_stackEnd_0 : decode c_DT_stackEnd 0 = .ok (.aload_n 0, 1) := by decide +kernel
theorem d_DT_stackEnd_1 : decode c_DT_stackEnd 1 = .ok (.getfield 16, 3) := by decide +kernel
theorem d_DT_stackEnd_4 : decode c_DT_stackEnd 4 = .ok (.aload_n 0, 1) := by decide +kernel
theorem d_DT_stackEnd_5 : decode c_DT_stackEnd 5 = .ok (.getfield 61, 3) := by decide +kernel
theorem d_DT_stackEnd_8 : decode c_DT_stackEnd 8 = .ok (.iaload, 1) := by decide +kernel
theorem d_DT_stackEnd_9 : decode c_DT_stackEnd 9 = .ok (.ireturn, 1) := by decide +kernel
theorem d_DT_hasRoom_0 : decode c_DT_hasRoom 0 = .ok (.aload_n 0, 1) := by decide +kernel
theorem d_DT_hasRoom_1 : decode c_DT_hasRoom 1 = .ok (.getfield 61, 3) := by decide +kernel
theorem d_DT_hasRoom_4 : decode c_DT_hasRoom 4 = .ok (.bipush 16, 2) := by decide +kernel
theorem d_DT_hasRoom_6 : decode c_DT_hasRoom 6 = .ok (.if_icmp .ge 19, 3) := by decide +kernel
theorem d_DT_hasRoom_9 : decode c_DT_hasRoom 9 = .ok (.aload_n 0, 1) := by decide +kernel
theorem d_DT_hasRoom_10 : decode c_DT_hasRoom 10 = .ok (.invokevirtual 46, 3) := by decide +kernel
theorem d_DT_hasRoom_13 : decode c_DT_hasRoom 13 = .ok (.iload_n 1, 1) := by decide +kernel
theorem d_DT_hasRoom_14 : decode c_DT_hasRoom 14 = .ok (.iadd, 1) := by decide +kernel
theorem d_DT_hasRoom_15 : decode c_DT_hasRoom 15 = .ok (.sipush 1000, 3) := by decide +kernel
theorem d_DT_hasRoom_18 : decode c_DT_hasRoom 18 = .ok (.if_icmp .gt 7, 3) := by decide +kernel
theorem d_DT_hasRoom_21 : decode c_DT_hasRoom 21 = .ok (.iconst 1, 1) := by decide +kernel
theorem d_DT_hasRoom_22 : decode c_DT_hasRoom 22 = .ok (.goto 4, 3) := by decide +kernel
theorem d_DT_hasRoom_25 : decode c_DT_hasRoom 25 = .ok (.iconst 0, 1) := by decide +kernel
theorem d_DT_hasRoom_26 : decode c_DT_hasRoom 26 = .ok (.ireturn, 1) := by decide +kernel
theorem d_DT_pushItem_0 : decode c_DT_pushItem 0 = .ok (.aload_n 0, 1) := by decide +kernel
theorem d_DT_pushItem_1 : decode c_DT_pushItem 1 = .ok (.invokevirtual 46, 3) := by decide +kernel
theorem d_DT_pushItem_4 : decode c_DT_pushItem 4 = .ok (.istore_n 1, 1) := by decide +kernel
theorem d_DT_pushItem_5 : decode c_DT_pushItem 5 = .ok (.aload_n 0, 1) := by decide +kernel
theorem d_DT_pushItem_6 : decode c_DT_pushItem 6 = .ok (.dup, 1) := by decide +kernel
theorem d_DT_pushItem_7 : decode c_DT_pushItem 7 = .ok (.getfield 61, 3) := by decide +kernel
theorem d_DT_pushItem_10 : decode c_DT_pushItem 10 = .ok (.iconst 1, 1) := by decide +kernel
theorem d_DT_pushItem_11 : decode c_DT_pushItem 11 = .ok (.iadd, 1) := by decide +kernel
theorem d_DT_pushItem_12 : decode c_DT_pushItem 12 = .ok (.putfield 61, 3) := by decide +kernel
theorem d_DT_pushItem_15 : decode c_DT_pushItem 15 = .ok (.aload_n 0, 1) := by decide +kernel
theorem d_DT_pushItem_16 : decode c_DT_pushItem 16 = .ok (.getfield 16, 3) := by decide +kernel
theorem d_DT_pushItem_19 : decode c_DT_pushItem 19 = .ok (.aload_n 0, 1) := by decide +kernel
theorem d_DT_pushItem_20 : decode c_DT_pushItem 20 = .ok (.getfield 61, 3) := by decide +kernel
theorem d_DT_pushItem_23 : decode c_DT_pushItem 23 = .ok (.iload_n 1, 1) := by decide +kernel
theorem d_DT_pushItem_24 : decode c_DT_pushItem 24 = .ok (.aload_n 0, 1) := by decide +kernel
theorem d_DT_pushItem_25 : decode c_DT_pushItem 25 = .ok (.getfield 12, 3) := by decide +kernel
theorem d_DT_pushItem_28 : decode c_DT_pushItem 28 = .ok (.getfield 78, 3) := by decide +kernel
theorem d_DT_pushItem_31 : decode c_DT_pushItem 31 = .ok (.iload_n 1, 1) := by decide +kernel
theorem d_DT_pushItem_32 : decode c_DT_pushItem 32 = .ok (.iaload, 1) := by decide +kernel
theorem d_DT_pushItem_33 : decode c_DT_pushItem 33 = .ok (.iadd, 1) := by decide +kernel
theorem d_DT_pushItem_34 : decode c_DT_pushItem 34 = .ok (.iastore, 1) := by decide +kernel
theorem d_DT_pushItem_35 : decode c_DT_pushItem 35 = .ok (.return_, 1) := by decide +kernel
theorem d_DT_firstNode_0 : decode c_DT_firstNode 0 = .ok (.iload_n 1, 1) := by decide +kernel
theorem d_DT_firstNode_1 : decode c_DT_firstNode 1 = .ok (.ifCond .lt 11, 3) := by decide +kernel
theorem d_DT_firstNode_4 : decode c_DT_firstNode 4 = .ok (.iload_n 1, 1) := by decide +kernel
theorem d_DT_firstNode_5 : decode c_DT_firstNode 5 = .ok (.aload_n 0, 1) := by decide +kernel
theorem d_DT_firstNode_6 : decode c_DT_firstNode 6 = .ok (.getfield 61, 3) := by decide +kernel
theorem d_DT_firstNode_9 : decode c_DT_firstNode 9 = .ok (.if_icmp .lt 7, 3) := by decide +kernel
theorem d_DT_firstNode_12 : decode c_DT_firstNode 12 = .ok (.iconst (-1), 1) := by decide +kernel
theorem d_DT_firstNode_13 : decode c_DT_firstNode 13 = .ok (.goto 16, 3) := by decide +kernel
theorem d_DT_firstNode_16 : decode c_DT_firstNode 16 = .ok (.aload_n 0, 1) := by decide +kernel
theorem d_DT_firstNode_17 : decode c_DT_firstNode 17 = .ok (.getfield 16, 3) := by decide +kernel
theorem d_DT_firstNode_20 : decode c_DT_firstNode 20 = .ok (.aload_n 0, 1) := by decide +kernel
theorem d_DT_firstNode_21 : decode c_DT_firstNode 21 = .ok (.getfield 61, 3) := by decide +kernel
theorem d_DT_firstNode_24 : decode c_DT_firstNode 24 = .ok (.iconst 1, 1) := by decide +kernel
theorem d_DT_firstNode_25 : decode c_DT_firstNode 25 = .ok (.isub, 1) := by decide +kernel
theorem d_DT_firstNode_26 : decode c_DT_firstNode 26 = .ok (.iload_n 1, 1) := by decide +kernel
theorem d_DT_firstNode_27 : decode c_DT_firstNode 27 = .ok (.isub, 1) := by decide +kernel
theorem d_DT_firstNode_28 : decode c_DT_firstNode 28 = .ok (.iaload, 1) := by decide +kernel
theorem d_DT_firstNode_29 : decode c_DT_firstNode 29 = .ok (.ireturn, 1) := by decide +kernel
theorem d_DT_find_0 : decode c_DT_find 0 = .ok (.aload_n 0, 1) := by decide +kernel
theorem d_DT_find_1 : decode c_DT_find 1 = .ok (.iload_n 1, 1) := by decide +kernel
theorem d_DT_find_2 : decode c_DT_find 2 = .ok (.invokevirtual 74, 3) := by decide +kernel
theorem d_DT_find_5 : decode c_DT_find 5 = .ok (.istore_n 3, 1) := by decide +kernel
theorem d_DT_find_6 : decode c_DT_find 6 = .ok (.iload_n 3, 1) := by decide +kernel
theorem d_DT_find_7 : decode c_DT_find 7 = .ok (.iconst (-1), 1) := by decide +kernel
theorem d_DT_find_8 : decode c_DT_find 8 = .ok (.if_icmp .eq 20, 3) := by decide +kernel
theorem d_DT_find_11 : decode c_DT_find 11 = .ok (.iload_n 2, 1) := by decide +kernel
theorem d_DT_find_12 : decode c_DT_find 12 = .ok (.ifCond .lt 16, 3) := by decide +kernel
theorem d_DT_find_15 : decode c_DT_find 15 = .ok (.iload_n 2, 1) := by decide +kernel
theorem d_DT_find_16 : decode c_DT_find 16 = .ok (.aload_n 0, 1) := by decide +kernel
theorem d_DT_find_17 : decode c_DT_find 17 = .ok (.getfield 12, 3) := by decide +kernel
theorem d_DT_find_20 : decode c_DT_find 20 = .ok (.getfield 78, 3) := by decide +kernel
theorem d_DT_find_23 : decode c_DT_find 23 = .ok (.iload_n 3, 1) := by decide +kernel
theorem d_DT_find_24 : decode c_DT_find 24 = .ok (.iaload, 1) := by decide +kernel
theorem d_DT_find_25 : decode c_DT_find 25 = .ok (.if_icmp .lt 7, 3) := by decide +kernel
theorem d_DT_find_28 : decode c_DT_find 28 = .ok (.iconst (-1), 1) := by decide +kernel
theorem d_DT_find_29 : decode c_DT_find 29 = .ok (.goto 6, 3) := by decide +kernel
theorem d_DT_find_32 : decode c_DT_find 32 = .ok (.iload_n 3, 1) := by decide +kernel
theorem d_DT_find_33 : decode c_DT_find 33 = .ok (.iload_n 2, 1) := by decide +kernel
theorem d_DT_find_34 : decode c_DT_find 34 = .ok (.iadd, 1) := by decide +kernel
theorem d_DT_find_35 : decode c_DT_find 35 = .ok (.ireturn, 1) := by decide +kernel
theorem d_DT_enclose_0 : decode c_DT_enclose 0 = .ok (.iload 4, 2) := by decide +kernel
theorem d_DT_enclose_2 : decode c_DT_enclose 2 = .ok (.ifCond .lt 12, 3) := by decide +kernel
theorem d_DT_enclose_5 : decode c_DT_enclose 5 = .ok (.iload 4, 2) := by decide +kernel
theorem d_DT_enclose_7 : decode c_DT_enclose 7 = .ok (.aload_n 0, 1) := by decide +kernel
theorem d_DT_enclose_8 : decode c_DT_enclose 8 = .ok (.getfield 61, 3) := by decide +kernel
theorem d_DT_enclose_11 : decode c_DT_enclose 11 = .ok (.if_icmp .le 5, 3) := by decide +kernel
theorem d_DT_enclose_14 : decode c_DT_enclose 14 = .ok (.iconst 0, 1) := by decide +kernel
theorem d_DT_enclose_15 : decode c_DT_enclose 15 = .ok (.ireturn, 1) := by decide +kernel
theorem d_DT_enclose_16 : decode c_DT_enclose 16 = .ok (.aload_n 0, 1) := by decide +kernel
theorem d_DT_enclose_17 : decode c_DT_enclose 17 = .ok (.getfield 16, 3) := by decide +kernel
theorem d_DT_enclose_20 : decode c_DT_enclose 20 = .ok (.aload_n 0, 1) := by decide +kernel
theorem d_DT_enclose_21 : decode c_DT_enclose 21 = .ok (.getfield 61, 3) := by decide +kernel
theorem d_DT_enclose_24 : decode c_DT_enclose 24 = .ok (.iload 4, 2) := by decide +kernel
theorem d_DT_enclose_26 : decode c_DT_enclose 26 = .ok (.isub, 1) := by decide +kernel
theorem d_DT_enclose_27 : decode c_DT_enclose 27 = .ok (.iaload, 1) := by decide +kernel
theorem d_DT_enclose_28 : decode c_DT_enclose 28 = .ok (.istore 5, 2) := by decide +kernel
theorem d_DT_enclose_30 : decode c_DT_enclose 30 = .ok (.aload_n 0, 1) := by decide +kernel
theorem d_DT_enclose_31 : decode c_DT_enclose 31 = .ok (.invokevirtual 46, 3) := by decide +kernel
theorem d_DT_enclose_34 : decode c_DT_enclose 34 = .ok (.istore 6, 2) := by decide +kernel
theorem d_DT_enclose_36 : decode c_DT_enclose 36 = .ok (.iload 6, 2) := by decide +kernel
theorem d_DT_enclose_38 : decode c_DT_enclose 38 = .ok (.iload 5, 2) := by decide +kernel
theorem d_DT_enclose_40 : decode c_DT_enclose 40 = .ok (.isub, 1) := by decide +kernel
theorem d_DT_enclose_41 : decode c_DT_enclose 41 = .ok (.iconst 1, 1) := by decide +kernel
theorem d_DT_enclose_42 : decode c_DT_enclose 42 = .ok (.iadd, 1) := by decide +kernel
theorem d_DT_enclose_43 : decode c_DT_enclose 43 = .ok (.istore 7, 2) := by decide +kernel
theorem d_DT_enclose_45 : decode c_DT_enclose 45 = .ok (.aload_n 0, 1) := by decide +kernel
theorem d_DT_enclose_46 : decode c_DT_enclose 46 = .ok (.iload 4, 2) := by decide +kernel
theorem d_DT_enclose_48 : decode c_DT_enclose 48 = .ok (.invokevirtual 179, 3) := by decide +kernel
theorem d_DT_enclose_51 : decode c_DT_enclose 51 = .ok (.iconst 1, 1) := by decide +kernel
theorem d_DT_enclose_52 : decode c_DT_enclose 52 = .ok (.iadd, 1) := by decide +kernel
theorem d_DT_enclose_53 : decode c_DT_enclose 53 = .ok (.istore 8, 2) := by decide +kernel
theorem d_DT_enclose_55 : decode c_DT_enclose 55 = .ok (.iload 7, 2) := by decide +kernel
theorem d_DT_enclose_57 : decode c_DT_enclose 57 = .ok (.sipush 200, 3) := by decide +kernel
theorem d_DT_enclose_60 : decode c_DT_enclose 60 = .ok (.if_icmp .gt 10, 3) := by decide +kernel
theorem d_DT_enclose_63 : decode c_DT_enclose 63 = .ok (.iload 8, 2) := by decide +kernel
theorem d_DT_enclose_65 : decode c_DT_enclose 65 = .ok (.bipush 12, 2) := by decide +kernel
theorem d_DT_enclose_67 : decode c_DT_enclose 67 = .ok (.if_icmp .le 5, 3) := by decide +kernel
theorem d_DT_enclose_70 : decode c_DT_enclose 70 = .ok (.iconst 0, 1) := by decide +kernel
theorem d_DT_enclose_71 : decode c_DT_enclose 71 = .ok (.ireturn, 1) := by decide +kernel
theorem d_DT_enclose_72 : decode c_DT_enclose 72 = .ok (.iload 6, 2) := by decide +kernel
theorem d_DT_enclose_74 : decode c_DT_enclose 74 = .ok (.iconst 1, 1) := by decide +kernel
theorem d_DT_enclose_75 : decode c_DT_enclose 75 = .ok (.iadd, 1) := by decide +kernel
theorem d_DT_enclose_76 : decode c_DT_enclose 76 = .ok (.sipush 1000, 3) := by decide +kernel
theorem d_DT_enclose_79 : decode c_DT_enclose 79 = .ok (.if_icmp .gt 17, 3) := by decide +kernel
theorem d_DT_enclose_82 : decode c_DT_enclose 82 = .ok (.aload_n 0, 1) := by decide +kernel
theorem d_DT_enclose_83 : decode c_DT_enclose 83 = .ok (.getfield 61, 3) := by decide +kernel
theorem d_DT_enclose_86 : decode c_DT_enclose 86 = .ok (.iload 4, 2) := by decide +kernel
theorem d_DT_enclose_88 : decode c_DT_enclose 88 = .ok (.isub, 1) := by decide +kernel
theorem d_DT_enclose_89 : decode c_DT_enclose 89 = .ok (.iconst 1, 1) := by decide +kernel
theorem d_DT_enclose_90 : decode c_DT_enclose 90 = .ok (.iadd, 1) := by decide +kernel
theorem d_DT_enclose_91 : decode c_DT_enclose 91 = .ok (.bipush 16, 2) := by decide +kernel
theorem d_DT_enclose_93 : decode c_DT_enclose 93 = .ok (.if_icmp .le 5, 3) := by decide +kernel
theorem d_DT_enclose_96 : decode c_DT_enclose 96 = .ok (.iconst 0, 1) := by decide +kernel
theorem d_DT_enclose_97 : decode c_DT_enclose 97 = .ok (.ireturn, 1) := by decide +kernel
theorem d_DT_enclose_98 : decode c_DT_enclose 98 = .ok (.aload_n 0, 1) := by decide +kernel
theorem d_DT_enclose_99 : decode c_DT_enclose 99 = .ok (.getfield 12, 3) := by decide +kernel
theorem d_DT_enclose_102 : decode c_DT_enclose 102 = .ok (.iload 5, 2) := by decide +kernel
theorem d_DT_enclose_104 : decode c_DT_enclose 104 = .ok (.iload 5, 2) := by decide +kernel
theorem d_DT_enclose_106 : decode c_DT_enclose 106 = .ok (.iconst 1, 1) := by decide +kernel
theorem d_DT_enclose_107 : decode c_DT_enclose 107 = .ok (.iadd, 1) := by decide +kernel
theorem d_DT_enclose_108 : decode c_DT_enclose 108 = .ok (.iload 6, 2) := by decide +kernel
theorem d_DT_enclose_110 : decode c_DT_enclose 110 = .ok (.iload 5, 2) := by decide +kernel
theorem d_DT_enclose_112 : decode c_DT_enclose 112 = .ok (.isub, 1) := by decide +kernel
theorem d_DT_enclose_113 : decode c_DT_enclose 113 = .ok (.invokevirtual 81, 3) := by decide +kernel
theorem d_DT_enclose_116 : decode c_DT_enclose 116 = .ok (.aload_n 0, 1) := by decide +kernel
theorem d_DT_enclose_117 : decode c_DT_enclose 117 = .ok (.getfield 12, 3) := by decide +kernel
theorem d_DT_enclose_120 : decode c_DT_enclose 120 = .ok (.iload 5, 2) := by decide +kernel
theorem d_DT_enclose_122 : decode c_DT_enclose 122 = .ok (.iload_n 1, 1) := by decide +kernel
theorem d_DT_enclose_123 : decode c_DT_enclose 123 = .ok (.iload_n 3, 1) := by decide +kernel
theorem d_DT_enclose_124 : decode c_DT_enclose 124 = .ok (.iload_n 2, 1) := by decide +kernel
theorem d_DT_enclose_125 : decode c_DT_enclose 125 = .ok (.i2l, 1) := by decide +kernel
theorem d_DT_enclose_126 : decode c_DT_enclose 126 = .ok (.invokevirtual 50, 3) := by decide +kernel
theorem d_DT_enclose_129 : decode c_DT_enclose 129 = .ok (.aload_n 0, 1) := by decide +kernel
theorem d_DT_enclose_130 : decode c_DT_enclose 130 = .ok (.getfield 12, 3) := by decide +kernel
theorem d_DT_enclose_133 : decode c_DT_enclose 133 = .ok (.iload 5, 2) := by decide +kernel
theorem d_DT_enclose_135 : decode c_DT_enclose 135 = .ok (.iload 7, 2) := by decide +kernel
theorem d_DT_enclose_137 : decode c_DT_enclose 137 = .ok (.iload 8, 2) := by decide +kernel
theorem d_DT_enclose_139 : decode c_DT_enclose 139 = .ok (.invokevirtual 182, 3) := by decide +kernel
theorem d_DT_enclose_142 : decode c_DT_enclose 142 = .ok (.aload_n 0, 1) := by decide +kernel
theorem d_DT_enclose_143 : decode c_DT_enclose 143 = .ok (.dup, 1) := by decide +kernel
theorem d_DT_enclose_144 : decode c_DT_enclose 144 = .ok (.getfield 61, 3) := by decide +kernel
theorem d_DT_enclose_147 : decode c_DT_enclose 147 = .ok (.iload 4, 2) := by decide +kernel
theorem d_DT_enclose_149 : decode c_DT_enclose 149 = .ok (.isub, 1) := by decide +kernel
theorem d_DT_enclose_150 : decode c_DT_enclose 150 = .ok (.putfield 61, 3) := by decide +kernel
theorem d_DT_enclose_153 : decode c_DT_enclose 153 = .ok (.aload_n 0, 1) := by decide +kernel
theorem d_DT_enclose_154 : decode c_DT_enclose 154 = .ok (.invokevirtual 54, 3) := by decide +kernel
theorem d_DT_enclose_157 : decode c_DT_enclose 157 = .ok (.iconst 1, 1) := by decide +kernel
theorem d_DT_enclose_158 : decode c_DT_enclose 158 = .ok (.ireturn, 1) := by decide +kernel
theorem d_DT_deepest_0 : decode c_DT_deepest 0 = .ok (.iconst 0, 1) := by decide +kernel
theorem d_DT_deepest_1 : decode c_DT_deepest 1 = .ok (.istore_n 2, 1) := by decide +kernel
theorem d_DT_deepest_2 : decode c_DT_deepest 2 = .ok (.aload_n 0, 1) := by decide +kernel
theorem d_DT_deepest_3 : decode c_DT_deepest 3 = .ok (.getfield 61, 3) := by decide +kernel
theorem d_DT_deepest_6 : decode c_DT_deepest 6 = .ok (.iload_n 1, 1) := by decide +kernel
theorem d_DT_deepest_7 : decode c_DT_deepest 7 = .ok (.isub, 1) := by decide +kernel
theorem d_DT_deepest_8 : decode c_DT_deepest 8 = .ok (.istore_n 3, 1) := by decide +kernel
theorem d_DT_deepest_9 : decode c_DT_deepest 9 = .ok (.iload_n 3, 1) := by decide +kernel
theorem d_DT_deepest_10 : decode c_DT_deepest 10 = .ok (.aload_n 0, 1) := by decide +kernel
theorem d_DT_deepest_11 : decode c_DT_deepest 11 = .ok (.getfield 61, 3) := by decide +kernel
theorem d_DT_deepest_14 : decode c_DT_deepest 14 = .ok (.if_icmp .ge 28, 3) := by decide +kernel
theorem d_DT_deepest_17 : decode c_DT_deepest 17 = .ok (.iload_n 2, 1) := by decide +kernel
theorem d_DT_deepest_18 : decode c_DT_deepest 18 = .ok (.aload_n 0, 1) := by decide +kernel
theorem d_DT_deepest_19 : decode c_DT_deepest 19 = .ok (.getfield 12, 3) := by decide +kernel
theorem d_DT_deepest_22 : decode c_DT_deepest 22 = .ok (.getfield 148, 3) := by decide +kernel
theorem d_DT_deepest_25 : decode c_DT_deepest 25 = .ok (.aload_n 0, 1) := by decide +kernel
theorem d_DT_deepest_26 : decode c_DT_deepest 26 = .ok (.getfield 16, 3) := by decide +kernel
theorem d_DT_deepest_29 : decode c_DT_deepest 29 = .ok (.iload_n 3, 1) := by decide +kernel
theorem d_DT_deepest_30 : decode c_DT_deepest 30 = .ok (.iaload, 1) := by decide +kernel
theorem d_DT_deepest_31 : decode c_DT_deepest 31 = .ok (.iaload, 1) := by decide +kernel
theorem d_DT_deepest_32 : decode c_DT_deepest 32 = .ok (.invokestatic 185, 3) := by decide +kernel
theorem d_DT_deepest_35 : decode c_DT_deepest 35 = .ok (.istore_n 2, 1) := by decide +kernel
theorem d_DT_deepest_36 : decode c_DT_deepest 36 = .ok (.iinc 3 1, 3) := by decide +kernel
theorem d_DT_deepest_39 : decode c_DT_deepest 39 = .ok (.goto (-30), 3) := by decide +kernel
theorem d_DT_deepest_42 : decode c_DT_deepest 42 = .ok (.iload_n 2, 1) := by decide +kernel
theorem d_DT_deepest_43 : decode c_DT_deepest 43 = .ok (.ireturn, 1) := by decide +kernel
theorem d_DT_compareNodes_0 : decode c_DT_compareNodes 0 = .ok (.aload_n 0, 1) := by decide +kernel
theorem d_DT_compareNodes_1 : decode c_DT_compareNodes 1 = .ok (.getfield 32, 3) := by decide +kernel
theorem d_DT_compareNodes_4 : decode c_DT_compareNodes 4 = .ok (.iconst 0, 1) := by decide +kernel
theorem d_DT_compareNodes_5 : decode c_DT_compareNodes 5 = .ok (.invokevirtual 102, 3) := by decide +kernel
theorem d_DT_compareNodes_8 : decode c_DT_compareNodes 8 = .ok (.aload_n 0, 1) := by decide +kernel
theorem d_DT_compareNodes_9 : decode c_DT_compareNodes 9 = .ok (.getfield 35, 3) := by decide +kernel
theorem d_DT_compareNodes_12 : decode c_DT_compareNodes 12 = .ok (.iconst 0, 1) := by decide +kernel
theorem d_DT_compareNodes_13 : decode c_DT_compareNodes 13 = .ok (.invokevirtual 102, 3) := by decide +kernel
theorem d_DT_compareNodes_16 : decode c_DT_compareNodes 16 = .ok (.aload_n 0, 1) := by decide +kernel
theorem d_DT_compareNodes_17 : decode c_DT_compareNodes 17 = .ok (.getfield 12, 3) := by decide +kernel
theorem d_DT_compareNodes_20 : decode c_DT_compareNodes 20 = .ok (.iload_n 1, 1) := by decide +kernel
theorem d_DT_compareNodes_21 : decode c_DT_compareNodes 21 = .ok (.aload_n 0, 1) := by decide +kernel
theorem d_DT_compareNodes_22 : decode c_DT_compareNodes 22 = .ok (.getfield 32, 3) := by decide +kernel
theorem d_DT_compareNodes_25 : decode c_DT_compareNodes 25 = .ok (.invokevirtual 95, 3) := by decide +kernel
theorem d_DT_compareNodes_28 : decode c_DT_compareNodes 28 = .ok (.aload_n 0, 1) := by decide +kernel
theorem d_DT_compareNodes_29 : decode c_DT_compareNodes 29 = .ok (.getfield 12, 3) := by decide +kernel
theorem d_DT_compareNodes_32 : decode c_DT_compareNodes 32 = .ok (.iload_n 2, 1) := by decide +kernel
theorem d_DT_compareNodes_33 : decode c_DT_compareNodes 33 = .ok (.aload_n 0, 1) := by decide +kernel
theorem d_DT_compareNodes_34 : decode c_DT_compareNodes 34 = .ok (.getfield 35, 3) := by decide +kernel
theorem d_DT_compareNodes_37 : decode c_DT_compareNodes 37 = .ok (.invokevirtual 95, 3) := by decide +kernel
theorem d_DT_compareNodes_40 : decode c_DT_compareNodes 40 = .ok (.aload_n 0, 1) := by decide +kernel
theorem d_DT_compareNodes_41 : decode c_DT_compareNodes 41 = .ok (.getfield 32, 3) := by decide +kernel
theorem d_DT_compareNodes_44 : decode c_DT_compareNodes 44 = .ok (.getfield 99, 3) := by decide +kernel
theorem d_DT_compareNodes_47 : decode c_DT_compareNodes 47 = .ok (.aload_n 0, 1) := by decide +kernel
theorem d_DT_compareNodes_48 : decode c_DT_compareNodes 48 = .ok (.getfield 35, 3) := by decide +kernel
theorem d_DT_compareNodes_51 : decode c_DT_compareNodes 51 = .ok (.getfield 99, 3) := by decide +kernel
theorem d_DT_compareNodes_54 : decode c_DT_compareNodes 54 = .ok (.invokestatic 164, 3) := by decide +kernel
theorem d_DT_compareNodes_57 : decode c_DT_compareNodes 57 = .ok (.istore_n 3, 1) := by decide +kernel
theorem d_DT_compareNodes_58 : decode c_DT_compareNodes 58 = .ok (.iconst 0, 1) := by decide +kernel
theorem d_DT_compareNodes_59 : decode c_DT_compareNodes 59 = .ok (.istore 4, 2) := by decide +kernel
theorem d_DT_compareNodes_61 : decode c_DT_compareNodes 61 = .ok (.iload 4, 2) := by decide +kernel
theorem d_DT_compareNodes_63 : decode c_DT_compareNodes 63 = .ok (.iload_n 3, 1) := by decide +kernel
theorem d_DT_compareNodes_64 : decode c_DT_compareNodes 64 = .ok (.if_icmp .ge 57, 3) := by decide +kernel
theorem d_DT_compareNodes_67 : decode c_DT_compareNodes 67 = .ok (.aload_n 0, 1) := by decide +kernel
theorem d_DT_compareNodes_68 : decode c_DT_compareNodes 68 = .ok (.getfield 32, 3) := by decide +kernel
theorem d_DT_compareNodes_71 : decode c_DT_compareNodes 71 = .ok (.iload 4, 2) := by decide +kernel
theorem d_DT_compareNodes_73 : decode c_DT_compareNodes 73 = .ok (.invokevirtual 176, 3) := by decide +kernel
theorem d_DT_compareNodes_76 : decode c_DT_compareNodes 76 = .ok (.aload_n 0, 1) := by decide +kernel
theorem d_DT_compareNodes_77 : decode c_DT_compareNodes 77 = .ok (.getfield 35, 3) := by decide +kernel
theorem d_DT_compareNodes_80 : decode c_DT_compareNodes 80 = .ok (.iload 4, 2) := by decide +kernel
theorem d_DT_compareNodes_82 : decode c_DT_compareNodes 82 = .ok (.invokevirtual 176, 3) := by decide +kernel
theorem d_DT_compareNodes_85 : decode c_DT_compareNodes 85 = .ok (.if_icmp .eq 30, 3) := by decide +kernel
theorem d_DT_compareNodes_88 : decode c_DT_compareNodes 88 = .ok (.aload_n 0, 1) := by decide +kernel
theorem d_DT_compareNodes_89 : decode c_DT_compareNodes 89 = .ok (.getfield 32, 3) := by decide +kernel
theorem d_DT_compareNodes_92 : decode c_DT_compareNodes 92 = .ok (.iload 4, 2) := by decide +kernel
theorem d_DT_compareNodes_94 : decode c_DT_compareNodes 94 = .ok (.invokevirtual 176, 3) := by decide +kernel
theorem d_DT_compareNodes_97 : decode c_DT_compareNodes 97 = .ok (.aload_n 0, 1) := by decide +kernel
theorem d_DT_compareNodes_98 : decode c_DT_compareNodes 98 = .ok (.getfield 35, 3) := by decide +kernel
theorem d_DT_compareNodes_101 : decode c_DT_compareNodes 101 = .ok (.iload 4, 2) := by decide +kernel
theorem d_DT_compareNodes_103 : decode c_DT_compareNodes 103 = .ok (.invokevirtual 176, 3) := by decide +kernel
theorem d_DT_compareNodes_106 : decode c_DT_compareNodes 106 = .ok (.if_icmp .ge 7, 3) := by decide +kernel
theorem d_DT_compareNodes_109 : decode c_DT_compareNodes 109 = .ok (.iconst (-1), 1) := by decide +kernel
theorem d_DT_compareNodes_110 : decode c_DT_compareNodes 110 = .ok (.goto 4, 3) := by decide +kernel
theorem d_DT_compareNodes_113 : decode c_DT_compareNodes 113 = .ok (.iconst 1, 1) := by decide +kernel
theorem d_DT_compareNodes_114 : decode c_DT_compareNodes 114 = .ok (.ireturn, 1) := by decide +kernel
theorem d_DT_compareNodes_115 : decode c_DT_compareNodes 115 = .ok (.iinc 4 1, 3) := by decide +kernel
theorem d_DT_compareNodes_118 : decode c_DT_compareNodes 118 = .ok (.goto (-57), 3) := by decide +kernel
theorem d_DT_compareNodes_121 : decode c_DT_compareNodes 121 = .ok (.aload_n 0, 1) := by decide +kernel
theorem d_DT_compareNodes_122 : decode c_DT_compareNodes 122 = .ok (.getfield 32, 3) := by decide +kernel
theorem d_DT_compareNodes_125 : decode c_DT_compareNodes 125 = .ok (.getfield 99, 3) := by decide +kernel
theorem d_DT_compareNodes_128 : decode c_DT_compareNodes 128 = .ok (.aload_n 0, 1) := by decide +kernel
theorem d_DT_compareNodes_129 : decode c_DT_compareNodes 129 = .ok (.getfield 35, 3) := by decide +kernel
theorem d_DT_compareNodes_132 : decode c_DT_compareNodes 132 = .ok (.getfield 99, 3) := by decide +kernel
theorem d_DT_compareNodes_135 : decode c_DT_compareNodes 135 = .ok (.invokestatic 188, 3) := by decide +kernel
theorem d_DT_compareNodes_138 : decode c_DT_compareNodes 138 = .ok (.ireturn, 1) := by decide +kernel
theorem d_DT_byteOf_0 : decode c_DT_byteOf 0 = .ok (.lload_n 0, 1) := by decide +kernel
theorem d_DT_byteOf_1 : decode c_DT_byteOf 1 = .ok (.bipush 8, 2) := by decide +kernel
theorem d_DT_byteOf_3 : decode c_DT_byteOf 3 = .ok (.iload_n 2, 1) := by decide +kernel
theorem d_DT_byteOf_4 : decode c_DT_byteOf 4 = .ok (.imul, 1) := by decide +kernel
theorem d_DT_byteOf_5 : decode c_DT_byteOf 5 = .ok (.lushr, 1) := by decide +kernel
theorem d_DT_byteOf_6 : decode c_DT_byteOf 6 = .ok (.l2i, 1) := by decide +kernel
theorem d_DT_byteOf_7 : decode c_DT_byteOf 7 = .ok (.sipush 255, 3) := by decide +kernel
theorem d_DT_byteOf_10 : decode c_DT_byteOf 10 = .ok (.iand, 1) := by decide +kernel
theorem d_DT_byteOf_11 : decode c_DT_byteOf 11 = .ok (.ireturn, 1) := by decide +kernel
theorem d_DT_lowBits_0 : decode c_DT_lowBits 0 = .ok (.lload_n 0, 1) := by decide +kernel
theorem d_DT_lowBits_1 : decode c_DT_lowBits 1 = .ok (.lconst 0, 1) := by decide +kernel
theorem d_DT_lowBits_2 : decode c_DT_lowBits 2 = .ok (.lcmp, 1) := by decide +kernel
theorem d_DT_lowBits_3 : decode c_DT_lowBits 3 = .ok (.ifCond .lt 11, 3) := by decide +kernel
theorem d_DT_lowBits_6 : decode c_DT_lowBits 6 = .ok (.lload_n 0, 1) := by decide +kernel
theorem d_DT_lowBits_7 : decode c_DT_lowBits 7 = .ok (.ldc2_w 193, 3) := by decide +kernel
theorem d_DT_lowBits_10 : decode c_DT_lowBits 10 = .ok (.lcmp, 1) := by decide +kernel
theorem d_DT_lowBits_11 : decode c_DT_lowBits 11 = .ok (.ifCond .lt 6, 3) := by decide +kernel
theorem d_DT_lowBits_14 : decode c_DT_lowBits 14 = .ok (.bipush 27, 2) := by decide +kernel
theorem d_DT_lowBits_16 : decode c_DT_lowBits 16 = .ok (.ireturn, 1) := by decide +kernel
theorem d_DT_lowBits_17 : decode c_DT_lowBits 17 = .ok (.lload_n 0, 1) := by decide +kernel
theorem d_DT_lowBits_18 : decode c_DT_lowBits 18 = .ok (.ldc2_w 195, 3) := by decide +kernel
theorem d_DT_lowBits_21 : decode c_DT_lowBits 21 = .ok (.lcmp, 1) := by decide +kernel
theorem d_DT_lowBits_22 : decode c_DT_lowBits 22 = .ok (.ifCond .lt 6, 3) := by decide +kernel
theorem d_DT_lowBits_25 : decode c_DT_lowBits 25 = .ok (.bipush 26, 2) := by decide +kernel
theorem d_DT_lowBits_27 : decode c_DT_lowBits 27 = .ok (.ireturn, 1) := by decide +kernel
theorem d_DT_lowBits_28 : decode c_DT_lowBits 28 = .ok (.lload_n 0, 1) := by decide +kernel
theorem d_DT_lowBits_29 : decode c_DT_lowBits 29 = .ok (.ldc2_w 197, 3) := by decide +kernel
theorem d_DT_lowBits_32 : decode c_DT_lowBits 32 = .ok (.lcmp, 1) := by decide +kernel
theorem d_DT_lowBits_33 : decode c_DT_lowBits 33 = .ok (.ifCond .lt 6, 3) := by decide +kernel
theorem d_DT_lowBits_36 : decode c_DT_lowBits 36 = .ok (.bipush 25, 2) := by decide +kernel
theorem d_DT_lowBits_38 : decode c_DT_lowBits 38 = .ok (.ireturn, 1) := by decide +kernel
theorem d_DT_lowBits_39 : decode c_DT_lowBits 39 = .ok (.lload_n 0, 1) := by decide +kernel
theorem d_DT_lowBits_40 : decode c_DT_lowBits 40 = .ok (.ldc2_w 199, 3) := by decide +kernel
theorem d_DT_lowBits_43 : decode c_DT_lowBits 43 = .ok (.lcmp, 1) := by decide +kernel
theorem d_DT_lowBits_44 : decode c_DT_lowBits 44 = .ok (.ifCond .lt 8, 3) := by decide +kernel
theorem d_DT_lowBits_47 : decode c_DT_lowBits 47 = .ok (.bipush 24, 2) := by decide +kernel
theorem d_DT_lowBits_49 : decode c_DT_lowBits 49 = .ok (.goto 5, 3) := by decide +kernel
theorem d_DT_lowBits_52 : decode c_DT_lowBits 52 = .ok (.lload_n 0, 1) := by decide +kernel
theorem d_DT_lowBits_53 : decode c_DT_lowBits 53 = .ok (.l2i, 1) := by decide +kernel
theorem d_DT_lowBits_54 : decode c_DT_lowBits 54 = .ok (.ireturn, 1) := by decide +kernel
theorem d_DT_numberBytes_0 : decode c_DT_numberBytes 0 = .ok (.iload_n 0, 1) := by decide +kernel
theorem d_DT_numberBytes_1 : decode c_DT_numberBytes 1 = .ok (.bipush 24, 2) := by decide +kernel
theorem d_DT_numberBytes_3 : decode c_DT_numberBytes 3 = .ok (.if_icmp .ge 7, 3) := by decide +kernel
theorem d_DT_numberBytes_6 : decode c_DT_numberBytes 6 = .ok (.iconst 0, 1) := by decide +kernel
theorem d_DT_numberBytes_7 : decode c_DT_numberBytes 7 = .ok (.goto 9, 3) := by decide +kernel
theorem d_DT_numberBytes_10 : decode c_DT_numberBytes 10 = .ok (.iconst 1, 1) := by decide +kernel
theorem d_DT_numberBytes_11 : decode c_DT_numberBytes 11 = .ok (.iload_n 0, 1) := by decide +kernel
theorem d_DT_numberBytes_12 : decode c_DT_numberBytes 12 = .ok (.bipush 24, 2) := by decide +kernel
theorem d_DT_numberBytes_14 : decode c_DT_numberBytes 14 = .ok (.isub, 1) := by decide +kernel
theorem d_DT_numberBytes_15 : decode c_DT_numberBytes 15 = .ok (.ishl, 1) := by decide +kernel
theorem d_DT_numberBytes_16 : decode c_DT_numberBytes 16 = .ok (.ireturn, 1) := by decide +kernel
theorem d_DT_headLength_0 : decode c_DT_headLength 0 = .ok (.iconst 1, 1) := by decide +kernel
theorem d_DT_headLength_1 : decode c_DT_headLength 1 = .ok (.lload_n 0, 1) := by decide +kernel
theorem d_DT_headLength_2 : decode c_DT_headLength 2 = .ok (.invokestatic 201, 3) := by decide +kernel
theorem d_DT_headLength_5 : decode c_DT_headLength 5 = .ok (.invokestatic 205, 3) := by decide +kernel
theorem d_DT_headLength_8 : decode c_DT_headLength 8 = .ok (.iadd, 1) := by decide +kernel
theorem d_DT_headLength_9 : decode c_DT_headLength 9 = .ok (.ireturn, 1) := by decide +kernel

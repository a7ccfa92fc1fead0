theorem d_RW_init_0 : decode c_RW_init 0 = .ok (.aload_n 0, 1) := by decide +kernel
theorem d_RW_init_1 : decode c_RW_init 1 = .ok (.invokespecial 3, 3) := by decide +kernel
theorem d_RW_init_4 : decode c_RW_init 4 = .ok (.aload_n 0, 1) := by decide +kernel
theorem d_RW_init_5 : decode c_RW_init 5 = .ok (.iload_n 1, 1) := by decide +kernel
theorem d_RW_init_6 : decode c_RW_init 6 = .ok (.newarray .byte, 2) := by decide +kernel
theorem d_RW_init_8 : decode c_RW_init 8 = .ok (.putfield 9, 3) := by decide +kernel
theorem d_RW_init_11 : decode c_RW_init 11 = .ok (.return_, 1) := by decide +kernel
theorem d_RW_hasRoom_0 : decode c_RW_hasRoom 0 = .ok (.iload_n 1, 1) := by decide +kernel
theorem d_RW_hasRoom_1 : decode c_RW_hasRoom 1 = .ok (.aload_n 0, 1) := by decide +kernel
theorem d_RW_hasRoom_2 : decode c_RW_hasRoom 2 = .ok (.getfield 9, 3) := by decide +kernel
theorem d_RW_hasRoom_5 : decode c_RW_hasRoom 5 = .ok (.arraylength, 1) := by decide +kernel
theorem d_RW_hasRoom_6 : decode c_RW_hasRoom 6 = .ok (.aload_n 0, 1) := by decide +kernel
theorem d_RW_hasRoom_7 : decode c_RW_hasRoom 7 = .ok (.getfield 15, 3) := by decide +kernel
theorem d_RW_hasRoom_10 : decode c_RW_hasRoom 10 = .ok (.isub, 1) := by decide +kernel
theorem d_RW_hasRoom_11 : decode c_RW_hasRoom 11 = .ok (.if_icmp .gt 7, 3) := by decide +kernel
theorem d_RW_hasRoom_14 : decode c_RW_hasRoom 14 = .ok (.iconst 1, 1) := by decide +kernel
theorem d_RW_hasRoom_15 : decode c_RW_hasRoom 15 = .ok (.goto 4, 3) := by decide +kernel
theorem d_RW_hasRoom_18 : decode c_RW_hasRoom 18 = .ok (.iconst 0, 1) := by decide +kernel
theorem d_RW_hasRoom_19 : decode c_RW_hasRoom 19 = .ok (.ireturn, 1) := by decide +kernel
theorem d_RW_get_0 : decode c_RW_get 0 = .ok (.iload_n 1, 1) := by decide +kernel
theorem d_RW_get_1 : decode c_RW_get 1 = .ok (.ifCond .lt 11, 3) := by decide +kernel
theorem d_RW_get_4 : decode c_RW_get 4 = .ok (.iload_n 1, 1) := by decide +kernel
theorem d_RW_get_5 : decode c_RW_get 5 = .ok (.aload_n 0, 1) := by decide +kernel
theorem d_RW_get_6 : decode c_RW_get 6 = .ok (.getfield 15, 3) := by decide +kernel
theorem d_RW_get_9 : decode c_RW_get 9 = .ok (.if_icmp .lt 7, 3) := by decide +kernel
theorem d_RW_get_12 : decode c_RW_get 12 = .ok (.iconst (-1), 1) := by decide +kernel
theorem d_RW_get_13 : decode c_RW_get 13 = .ok (.goto 13, 3) := by decide +kernel
theorem d_RW_get_16 : decode c_RW_get 16 = .ok (.aload_n 0, 1) := by decide +kernel
theorem d_RW_get_17 : decode c_RW_get 17 = .ok (.getfield 9, 3) := by decide +kernel
theorem d_RW_get_20 : decode c_RW_get 20 = .ok (.iload_n 1, 1) := by decide +kernel
theorem d_RW_get_21 : decode c_RW_get 21 = .ok (.baload, 1) := by decide +kernel
theorem d_RW_get_22 : decode c_RW_get 22 = .ok (.sipush 255, 3) := by decide +kernel
theorem d_RW_get_25 : decode c_RW_get 25 = .ok (.iand, 1) := by decide +kernel
theorem d_RW_get_26 : decode c_RW_get 26 = .ok (.ireturn, 1) := by decide +kernel
theorem d_RW_add_0 : decode c_RW_add 0 = .ok (.aload_n 0, 1) := by decide +kernel
theorem d_RW_add_1 : decode c_RW_add 1 = .ok (.getfield 15, 3) := by decide +kernel
theorem d_RW_add_4 : decode c_RW_add 4 = .ok (.aload_n 0, 1) := by decide +kernel
theorem d_RW_add_5 : decode c_RW_add 5 = .ok (.getfield 9, 3) := by decide +kernel
theorem d_RW_add_8 : decode c_RW_add 8 = .ok (.arraylength, 1) := by decide +kernel
theorem d_RW_add_9 : decode c_RW_add 9 = .ok (.if_icmp .ge 24, 3) := by decide +kernel
theorem d_RW_add_12 : decode c_RW_add 12 = .ok (.aload_n 0, 1) := by decide +kernel
theorem d_RW_add_13 : decode c_RW_add 13 = .ok (.getfield 9, 3) := by decide +kernel
theorem d_RW_add_16 : decode c_RW_add 16 = .ok (.aload_n 0, 1) := by decide +kernel
theorem d_RW_add_17 : decode c_RW_add 17 = .ok (.getfield 15, 3) := by decide +kernel
theorem d_RW_add_20 : decode c_RW_add 20 = .ok (.iload_n 1, 1) := by decide +kernel
theorem d_RW_add_21 : decode c_RW_add 21 = .ok (.i2b, 1) := by decide +kernel
theorem d_RW_add_22 : decode c_RW_add 22 = .ok (.bastore, 1) := by decide +kernel
theorem d_RW_add_23 : decode c_RW_add 23 = .ok (.aload_n 0, 1) := by decide +kernel
theorem d_RW_add_24 : decode c_RW_add 24 = .ok (.dup, 1) := by decide +kernel
theorem d_RW_add_25 : decode c_RW_add 25 = .ok (.getfield 15, 3) := by decide +kernel
theorem d_RW_add_28 : decode c_RW_add 28 = .ok (.iconst 1, 1) := by decide +kernel
theorem d_RW_add_29 : decode c_RW_add 29 = .ok (.iadd, 1) := by decide +kernel
theorem d_RW_add_30 : decode c_RW_add 30 = .ok (.putfield 15, 3) := by decide +kernel
theorem d_RW_add_33 : decode c_RW_add 33 = .ok (.return_, 1) := by decide +kernel
theorem d_RW_addLowest_0 : decode c_RW_addLowest 0 = .ok (.iload_n 3, 1) := by decide +kernel
theorem d_RW_addLowest_1 : decode c_RW_addLowest 1 = .ok (.iconst 1, 1) := by decide +kernel
theorem d_RW_addLowest_2 : decode c_RW_addLowest 2 = .ok (.isub, 1) := by decide +kernel
theorem d_RW_addLowest_3 : decode c_RW_addLowest 3 = .ok (.istore 4, 2) := by decide +kernel
theorem d_RW_addLowest_5 : decode c_RW_addLowest 5 = .ok (.iload 4, 2) := by decide +kernel
theorem d_RW_addLowest_7 : decode c_RW_addLowest 7 = .ok (.ifCond .lt 19, 3) := by decide +kernel
theorem d_RW_addLowest_10 : decode c_RW_addLowest 10 = .ok (.aload_n 0, 1) := by decide +kernel
theorem d_RW_addLowest_11 : decode c_RW_addLowest 11 = .ok (.lload_n 1, 1) := by decide +kernel
theorem d_RW_addLowest_12 : decode c_RW_addLowest 12 = .ok (.iload 4, 2) := by decide +kernel
theorem d_RW_addLowest_14 : decode c_RW_addLowest 14 = .ok (.invokestatic 19, 3) := by decide +kernel
theorem d_RW_addLowest_17 : decode c_RW_addLowest 17 = .ok (.invokevirtual 23, 3) := by decide +kernel
theorem d_RW_addLowest_20 : decode c_RW_addLowest 20 = .ok (.iinc 4 (-1), 3) := by decide +kernel
theorem d_RW_addLowest_23 : decode c_RW_addLowest 23 = .ok (.goto (-18), 3) := by decide +kernel
theorem d_RW_addLowest_26 : decode c_RW_addLowest 26 = .ok (.return_, 1) := by decide +kernel
theorem d_RW_addHead_0 : decode c_RW_addHead 0 = .ok (.lload_n 2, 1) := by decide +kernel
theorem d_RW_addHead_1 : decode c_RW_addHead 1 = .ok (.invokestatic 27, 3) := by decide +kernel
theorem d_RW_addHead_4 : decode c_RW_addHead 4 = .ok (.istore 4, 2) := by decide +kernel
theorem d_RW_addHead_6 : decode c_RW_addHead 6 = .ok (.aload_n 0, 1) := by decide +kernel
theorem d_RW_addHead_7 : decode c_RW_addHead 7 = .ok (.bipush 32, 2) := by decide +kernel
theorem d_RW_addHead_9 : decode c_RW_addHead 9 = .ok (.iload_n 1, 1) := by decide +kernel
theorem d_RW_addHead_10 : decode c_RW_addHead 10 = .ok (.imul, 1) := by decide +kernel
theorem d_RW_addHead_11 : decode c_RW_addHead 11 = .ok (.iload 4, 2) := by decide +kernel
theorem d_RW_addHead_13 : decode c_RW_addHead 13 = .ok (.iadd, 1) := by decide +kernel
theorem d_RW_addHead_14 : decode c_RW_addHead 14 = .ok (.invokevirtual 23, 3) := by decide +kernel
theorem d_RW_addHead_17 : decode c_RW_addHead 17 = .ok (.aload_n 0, 1) := by decide +kernel
theorem d_RW_addHead_18 : decode c_RW_addHead 18 = .ok (.lload_n 2, 1) := by decide +kernel
theorem d_RW_addHead_19 : decode c_RW_addHead 19 = .ok (.iload 4, 2) := by decide +kernel
theorem d_RW_addHead_21 : decode c_RW_addHead 21 = .ok (.invokestatic 31, 3) := by decide +kernel
theorem d_RW_addHead_24 : decode c_RW_addHead 24 = .ok (.invokevirtual 35, 3) := by decide +kernel
theorem d_RW_addHead_27 : decode c_RW_addHead 27 = .ok (.return_, 1) := by decide +kernel
theorem d_RW_shorten_0 : decode c_RW_shorten 0 = .ok (.aload_n 0, 1) := by decide +kernel
theorem d_RW_shorten_1 : decode c_RW_shorten 1 = .ok (.iload_n 1, 1) := by decide +kernel
theorem d_RW_shorten_2 : decode c_RW_shorten 2 = .ok (.putfield 15, 3) := by decide +kernel
theorem d_RW_shorten_5 : decode c_RW_shorten 5 = .ok (.return_, 1) := by decide +kernel
theorem d_RW_become_0 : decode c_RW_become 0 = .ok (.aload_n 1, 1) := by decide +kernel
theorem d_RW_become_1 : decode c_RW_become 1 = .ok (.getfield 9, 3) := by decide +kernel
theorem d_RW_become_4 : decode c_RW_become 4 = .ok (.iconst 0, 1) := by decide +kernel
theorem d_RW_become_5 : decode c_RW_become 5 = .ok (.aload_n 0, 1) := by decide +kernel
theorem d_RW_become_6 : decode c_RW_become 6 = .ok (.getfield 9, 3) := by decide +kernel
theorem d_RW_become_9 : decode c_RW_become 9 = .ok (.iconst 0, 1) := by decide +kernel
theorem d_RW_become_10 : decode c_RW_become 10 = .ok (.aload_n 1, 1) := by decide +kernel
theorem d_RW_become_11 : decode c_RW_become 11 = .ok (.getfield 15, 3) := by decide +kernel
theorem d_RW_become_14 : decode c_RW_become 14 = .ok (.invokestatic 39, 3) := by decide +kernel
theorem d_RW_become_17 : decode c_RW_become 17 = .ok (.aload_n 0, 1) := by decide +kernel
theorem d_RW_become_18 : decode c_RW_become 18 = .ok (.aload_n 1, 1) := by decide +kernel
theorem d_RW_become_19 : decode c_RW_become 19 = .ok (.getfield 15, 3) := by decide +kernel
theorem d_RW_become_22 : decode c_RW_become 22 = .ok (.putfield 15, 3) := by decide +kernel
theorem d_RW_become_25 : decode c_RW_become 25 = .ok (.return_, 1) := by decide +kernel

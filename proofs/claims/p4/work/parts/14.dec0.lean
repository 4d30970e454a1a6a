theorem d_Tiles_init_0 : decode b_Tiles_init 0 = .ok (.aload_n 0, 1) := by decide +kernel
theorem d_Tiles_init_1 : decode b_Tiles_init 1 = .ok (.invokespecial 3, 3) := by decide +kernel
theorem d_Tiles_init_4 : decode b_Tiles_init 4 = .ok (.aload_n 0, 1) := by decide +kernel
theorem d_Tiles_init_5 : decode b_Tiles_init 5 = .ok (.iload_n 1, 1) := by decide +kernel
theorem d_Tiles_init_6 : decode b_Tiles_init 6 = .ok (.putfield 9, 3) := by decide +kernel
theorem d_Tiles_init_9 : decode b_Tiles_init 9 = .ok (.aload_n 0, 1) := by decide +kernel
theorem d_Tiles_init_10 : decode b_Tiles_init 10 = .ok (.iload_n 1, 1) := by decide +kernel
theorem d_Tiles_init_11 : decode b_Tiles_init 11 = .ok (.bipush 64, 2) := by decide +kernel
theorem d_Tiles_init_13 : decode b_Tiles_init 13 = .ok (.imul, 1) := by decide +kernel
theorem d_Tiles_init_14 : decode b_Tiles_init 14 = .ok (.newarray .int, 2) := by decide +kernel
theorem d_Tiles_init_16 : decode b_Tiles_init 16 = .ok (.putfield 15, 3) := by decide +kernel
theorem d_Tiles_init_19 : decode b_Tiles_init 19 = .ok (.return_, 1) := by decide +kernel
theorem d_Tiles_get_0 : decode b_Tiles_get 0 = .ok (.aload_n 0, 1) := by decide +kernel
theorem d_Tiles_get_1 : decode b_Tiles_get 1 = .ok (.getfield 15, 3) := by decide +kernel
theorem d_Tiles_get_4 : decode b_Tiles_get 4 = .ok (.iload_n 1, 1) := by decide +kernel
theorem d_Tiles_get_5 : decode b_Tiles_get 5 = .ok (.bipush 64, 2) := by decide +kernel
theorem d_Tiles_get_7 : decode b_Tiles_get 7 = .ok (.imul, 1) := by decide +kernel
theorem d_Tiles_get_8 : decode b_Tiles_get 8 = .ok (.iload_n 2, 1) := by decide +kernel
theorem d_Tiles_get_9 : decode b_Tiles_get 9 = .ok (.iadd, 1) := by decide +kernel
theorem d_Tiles_get_10 : decode b_Tiles_get 10 = .ok (.iaload, 1) := by decide +kernel
theorem d_Tiles_get_11 : decode b_Tiles_get 11 = .ok (.ireturn, 1) := by decide +kernel
theorem d_Tiles_set_0 : decode b_Tiles_set 0 = .ok (.aload_n 0, 1) := by decide +kernel
theorem d_Tiles_set_1 : decode b_Tiles_set 1 = .ok (.getfield 15, 3) := by decide +kernel
theorem d_Tiles_set_4 : decode b_Tiles_set 4 = .ok (.iload_n 1, 1) := by decide +kernel
theorem d_Tiles_set_5 : decode b_Tiles_set 5 = .ok (.bipush 64, 2) := by decide +kernel
theorem d_Tiles_set_7 : decode b_Tiles_set 7 = .ok (.imul, 1) := by decide +kernel
theorem d_Tiles_set_8 : decode b_Tiles_set 8 = .ok (.iload_n 2, 1) := by decide +kernel
theorem d_Tiles_set_9 : decode b_Tiles_set 9 = .ok (.iadd, 1) := by decide +kernel
theorem d_Tiles_set_10 : decode b_Tiles_set 10 = .ok (.iload_n 3, 1) := by decide +kernel
theorem d_Tiles_set_11 : decode b_Tiles_set 11 = .ok (.iastore, 1) := by decide +kernel
theorem d_Tiles_set_12 : decode b_Tiles_set 12 = .ok (.return_, 1) := by decide +kernel
theorem d_Tiles_take_0 : decode b_Tiles_take 0 = .ok (.aload_n 2, 1) := by decide +kernel
theorem d_Tiles_take_1 : decode b_Tiles_take 1 = .ok (.getfield 15, 3) := by decide +kernel
theorem d_Tiles_take_4 : decode b_Tiles_take 4 = .ok (.iload_n 3, 1) := by decide +kernel
theorem d_Tiles_take_5 : decode b_Tiles_take 5 = .ok (.bipush 64, 2) := by decide +kernel
theorem d_Tiles_take_7 : decode b_Tiles_take 7 = .ok (.imul, 1) := by decide +kernel
theorem d_Tiles_take_8 : decode b_Tiles_take 8 = .ok (.aload_n 0, 1) := by decide +kernel
theorem d_Tiles_take_9 : decode b_Tiles_take 9 = .ok (.getfield 15, 3) := by decide +kernel
theorem d_Tiles_take_12 : decode b_Tiles_take 12 = .ok (.iload_n 1, 1) := by decide +kernel
theorem d_Tiles_take_13 : decode b_Tiles_take 13 = .ok (.bipush 64, 2) := by decide +kernel
theorem d_Tiles_take_15 : decode b_Tiles_take 15 = .ok (.imul, 1) := by decide +kernel
theorem d_Tiles_take_16 : decode b_Tiles_take 16 = .ok (.bipush 64, 2) := by decide +kernel
theorem d_Tiles_take_18 : decode b_Tiles_take 18 = .ok (.invokestatic 19, 3) := by decide +kernel
theorem d_Tiles_take_21 : decode b_Tiles_take 21 = .ok (.return_, 1) := by decide +kernel
theorem d_Tiles_takeAll_0 : decode b_Tiles_takeAll 0 = .ok (.aload_n 1, 1) := by decide +kernel
theorem d_Tiles_takeAll_1 : decode b_Tiles_takeAll 1 = .ok (.getfield 15, 3) := by decide +kernel
theorem d_Tiles_takeAll_4 : decode b_Tiles_takeAll 4 = .ok (.iconst 0, 1) := by decide +kernel
theorem d_Tiles_takeAll_5 : decode b_Tiles_takeAll 5 = .ok (.aload_n 0, 1) := by decide +kernel
theorem d_Tiles_takeAll_6 : decode b_Tiles_takeAll 6 = .ok (.getfield 15, 3) := by decide +kernel
theorem d_Tiles_takeAll_9 : decode b_Tiles_takeAll 9 = .ok (.iconst 0, 1) := by decide +kernel
theorem d_Tiles_takeAll_10 : decode b_Tiles_takeAll 10 = .ok (.aload_n 0, 1) := by decide +kernel
theorem d_Tiles_takeAll_11 : decode b_Tiles_takeAll 11 = .ok (.getfield 15, 3) := by decide +kernel
theorem d_Tiles_takeAll_14 : decode b_Tiles_takeAll 14 = .ok (.arraylength, 1) := by decide +kernel
theorem d_Tiles_takeAll_15 : decode b_Tiles_takeAll 15 = .ok (.invokestatic 19, 3) := by decide +kernel
theorem d_Tiles_takeAll_18 : decode b_Tiles_takeAll 18 = .ok (.return_, 1) := by decide +kernel
theorem d_Tiles_isSame_0 : decode b_Tiles_isSame 0 = .ok (.iload_n 1, 1) := by decide +kernel
theorem d_Tiles_isSame_1 : decode b_Tiles_isSame 1 = .ok (.bipush 64, 2) := by decide +kernel
theorem d_Tiles_isSame_3 : decode b_Tiles_isSame 3 = .ok (.imul, 1) := by decide +kernel
theorem d_Tiles_isSame_4 : decode b_Tiles_isSame 4 = .ok (.istore 4, 2) := by decide +kernel
theorem d_Tiles_isSame_6 : decode b_Tiles_isSame 6 = .ok (.iload_n 3, 1) := by decide +kernel
theorem d_Tiles_isSame_7 : decode b_Tiles_isSame 7 = .ok (.bipush 64, 2) := by decide +kernel
theorem d_Tiles_isSame_9 : decode b_Tiles_isSame 9 = .ok (.imul, 1) := by decide +kernel
theorem d_Tiles_isSame_10 : decode b_Tiles_isSame 10 = .ok (.istore 5, 2) := by decide +kernel
theorem d_Tiles_isSame_12 : decode b_Tiles_isSame 12 = .ok (.iconst 0, 1) := by decide +kernel
theorem d_Tiles_isSame_13 : decode b_Tiles_isSame 13 = .ok (.istore 6, 2) := by decide +kernel
theorem d_Tiles_isSame_15 : decode b_Tiles_isSame 15 = .ok (.iload 6, 2) := by decide +kernel
theorem d_Tiles_isSame_17 : decode b_Tiles_isSame 17 = .ok (.bipush 64, 2) := by decide +kernel
theorem d_Tiles_isSame_19 : decode b_Tiles_isSame 19 = .ok (.if_icmp .ge 34, 3) := by decide +kernel
theorem d_Tiles_isSame_22 : decode b_Tiles_isSame 22 = .ok (.aload_n 0, 1) := by decide +kernel
theorem d_Tiles_isSame_23 : decode b_Tiles_isSame 23 = .ok (.getfield 15, 3) := by decide +kernel
theorem d_Tiles_isSame_26 : decode b_Tiles_isSame 26 = .ok (.iload 4, 2) := by decide +kernel
theorem d_Tiles_isSame_28 : decode b_Tiles_isSame 28 = .ok (.iload 6, 2) := by decide +kernel
theorem d_Tiles_isSame_30 : decode b_Tiles_isSame 30 = .ok (.iadd, 1) := by decide +kernel
theorem d_Tiles_isSame_31 : decode b_Tiles_isSame 31 = .ok (.iaload, 1) := by decide +kernel
theorem d_Tiles_isSame_32 : decode b_Tiles_isSame 32 = .ok (.aload_n 2, 1) := by decide +kernel
theorem d_Tiles_isSame_33 : decode b_Tiles_isSame 33 = .ok (.getfield 15, 3) := by decide +kernel
theorem d_Tiles_isSame_36 : decode b_Tiles_isSame 36 = .ok (.iload 5, 2) := by decide +kernel
theorem d_Tiles_isSame_38 : decode b_Tiles_isSame 38 = .ok (.iload 6, 2) := by decide +kernel
theorem d_Tiles_isSame_40 : decode b_Tiles_isSame 40 = .ok (.iadd, 1) := by decide +kernel
theorem d_Tiles_isSame_41 : decode b_Tiles_isSame 41 = .ok (.iaload, 1) := by decide +kernel
theorem d_Tiles_isSame_42 : decode b_Tiles_isSame 42 = .ok (.if_icmp .eq 5, 3) := by decide +kernel
theorem d_Tiles_isSame_45 : decode b_Tiles_isSame 45 = .ok (.iconst 0, 1) := by decide +kernel
theorem d_Tiles_isSame_46 : decode b_Tiles_isSame 46 = .ok (.ireturn, 1) := by decide +kernel
theorem d_Tiles_isSame_47 : decode b_Tiles_isSame 47 = .ok (.iinc 6 1, 3) := by decide +kernel
theorem d_Tiles_isSame_50 : decode b_Tiles_isSame 50 = .ok (.goto (-35), 3) := by decide +kernel
theorem d_Tiles_isSame_53 : decode b_Tiles_isSame 53 = .ok (.iconst 1, 1) := by decide +kernel
theorem d_Tiles_isSame_54 : decode b_Tiles_isSame 54 = .ok (.ireturn, 1) := by decide +kernel
theorem d_Tiles_find_0 : decode b_Tiles_find 0 = .ok (.iconst 0, 1) := by decide +kernel
theorem d_Tiles_find_1 : decode b_Tiles_find 1 = .ok (.istore 4, 2) := by decide +kernel
theorem d_Tiles_find_3 : decode b_Tiles_find 3 = .ok (.iload 4, 2) := by decide +kernel
theorem d_Tiles_find_5 : decode b_Tiles_find 5 = .ok (.iload_n 1, 1) := by decide +kernel
theorem d_Tiles_find_6 : decode b_Tiles_find 6 = .ok (.if_icmp .ge 23, 3) := by decide +kernel
theorem d_Tiles_find_9 : decode b_Tiles_find 9 = .ok (.aload_n 0, 1) := by decide +kernel
theorem d_Tiles_find_10 : decode b_Tiles_find 10 = .ok (.iload 4, 2) := by decide +kernel
theorem d_Tiles_find_12 : decode b_Tiles_find 12 = .ok (.aload_n 2, 1) := by decide +kernel
theorem d_Tiles_find_13 : decode b_Tiles_find 13 = .ok (.iload_n 3, 1) := by decide +kernel
theorem d_Tiles_find_14 : decode b_Tiles_find 14 = .ok (.invokevirtual 25, 3) := by decide +kernel
theorem d_Tiles_find_17 : decode b_Tiles_find 17 = .ok (.ifCond .eq 6, 3) := by decide +kernel
theorem d_Tiles_find_20 : decode b_Tiles_find 20 = .ok (.iload 4, 2) := by decide +kernel
theorem d_Tiles_find_22 : decode b_Tiles_find 22 = .ok (.ireturn, 1) := by decide +kernel
theorem d_Tiles_find_23 : decode b_Tiles_find 23 = .ok (.iinc 4 1, 3) := by decide +kernel
theorem d_Tiles_find_26 : decode b_Tiles_find 26 = .ok (.goto (-23), 3) := by decide +kernel
theorem d_Tiles_find_29 : decode b_Tiles_find 29 = .ok (.iconst (-1), 1) := by decide +kernel
theorem d_Tiles_find_30 : decode b_Tiles_find 30 = .ok (.ireturn, 1) := by decide +kernel
theorem d_Tiles_countOther_0 : decode b_Tiles_countOther 0 = .ok (.iconst 0, 1) := by decide +kernel
theorem d_Tiles_countOther_1 : decode b_Tiles_countOther 1 = .ok (.istore_n 2, 1) := by decide +kernel
theorem d_Tiles_countOther_2 : decode b_Tiles_countOther 2 = .ok (.iconst 0, 1) := by decide +kernel
theorem d_Tiles_countOther_3 : decode b_Tiles_countOther 3 = .ok (.istore_n 3, 1) := by decide +kernel
theorem d_Tiles_countOther_4 : decode b_Tiles_countOther 4 = .ok (.iload_n 3, 1) := by decide +kernel
theorem d_Tiles_countOther_5 : decode b_Tiles_countOther 5 = .ok (.aload_n 0, 1) := by decide +kernel
theorem d_Tiles_countOther_6 : decode b_Tiles_countOther 6 = .ok (.getfield 9, 3) := by decide +kernel
theorem d_Tiles_countOther_9 : decode b_Tiles_countOther 9 = .ok (.if_icmp .ge 22, 3) := by decide +kernel
theorem d_Tiles_countOther_12 : decode b_Tiles_countOther 12 = .ok (.aload_n 0, 1) := by decide +kernel
theorem d_Tiles_countOther_13 : decode b_Tiles_countOther 13 = .ok (.iload_n 3, 1) := by decide +kernel
theorem d_Tiles_countOther_14 : decode b_Tiles_countOther 14 = .ok (.aload_n 1, 1) := by decide +kernel
theorem d_Tiles_countOther_15 : decode b_Tiles_countOther 15 = .ok (.iload_n 3, 1) := by decide +kernel
theorem d_Tiles_countOther_16 : decode b_Tiles_countOther 16 = .ok (.invokevirtual 25, 3) := by decide +kernel
theorem d_Tiles_countOther_19 : decode b_Tiles_countOther 19 = .ok (.ifCond .ne 6, 3) := by decide +kernel
theorem d_Tiles_countOther_22 : decode b_Tiles_countOther 22 = .ok (.iinc 2 1, 3) := by decide +kernel
theorem d_Tiles_countOther_25 : decode b_Tiles_countOther 25 = .ok (.iinc 3 1, 3) := by decide +kernel
theorem d_Tiles_countOther_28 : decode b_Tiles_countOther 28 = .ok (.goto (-24), 3) := by decide +kernel
theorem d_Tiles_countOther_31 : decode b_Tiles_countOther 31 = .ok (.iload_n 2, 1) := by decide +kernel
theorem d_Tiles_countOther_32 : decode b_Tiles_countOther 32 = .ok (.ireturn, 1) := by decide +kernel
theorem d_Cache_init_0 : decode b_Cache_init 0 = .ok (.aload_n 0, 1) := by decide +kernel
theorem d_Cache_init_1 : decode b_Cache_init 1 = .ok (.invokespecial 3, 3) := by decide +kernel
theorem d_Cache_init_4 : decode b_Cache_init 4 = .ok (.aload_n 0, 1) := by decide +kernel
theorem d_Cache_init_5 : decode b_Cache_init 5 = .ok (.new 9, 3) := by decide +kernel
theorem d_Cache_init_8 : decode b_Cache_init 8 = .ok (.dup, 1) := by decide +kernel
theorem d_Cache_init_9 : decode b_Cache_init 9 = .ok (.bipush 16, 2) := by decide +kernel
theorem d_Cache_init_11 : decode b_Cache_init 11 = .ok (.invokespecial 11, 3) := by decide +kernel
theorem d_Cache_init_14 : decode b_Cache_init 14 = .ok (.putfield 14, 3) := by decide +kernel
theorem d_Cache_init_17 : decode b_Cache_init 17 = .ok (.return_, 1) := by decide +kernel
theorem d_Cache_clear_0 : decode b_Cache_clear 0 = .ok (.aload_n 0, 1) := by decide +kernel
theorem d_Cache_clear_1 : decode b_Cache_clear 1 = .ok (.iconst 0, 1) := by decide +kernel
theorem d_Cache_clear_2 : decode b_Cache_clear 2 = .ok (.putfield 20, 3) := by decide +kernel
theorem d_Cache_clear_5 : decode b_Cache_clear 5 = .ok (.aload_n 0, 1) := by decide +kernel
theorem d_Cache_clear_6 : decode b_Cache_clear 6 = .ok (.iconst 0, 1) := by decide +kernel
theorem d_Cache_clear_7 : decode b_Cache_clear 7 = .ok (.putfield 24, 3) := by decide +kernel
theorem d_Cache_clear_10 : decode b_Cache_clear 10 = .ok (.return_, 1) := by decide +kernel
theorem d_Cache_put_0 : decode b_Cache_put 0 = .ok (.aload_n 0, 1) := by decide +kernel
theorem d_Cache_put_1 : decode b_Cache_put 1 = .ok (.getfield 14, 3) := by decide +kernel
theorem d_Cache_put_4 : decode b_Cache_put 4 = .ok (.aload_n 0, 1) := by decide +kernel
theorem d_Cache_put_5 : decode b_Cache_put 5 = .ok (.getfield 20, 3) := by decide +kernel
theorem d_Cache_put_8 : decode b_Cache_put 8 = .ok (.aload_n 1, 1) := by decide +kernel
theorem d_Cache_put_9 : decode b_Cache_put 9 = .ok (.iload_n 2, 1) := by decide +kernel
theorem d_Cache_put_10 : decode b_Cache_put 10 = .ok (.invokevirtual 27, 3) := by decide +kernel
theorem d_Cache_put_13 : decode b_Cache_put 13 = .ok (.aload_n 0, 1) := by decide +kernel
theorem d_Cache_put_14 : decode b_Cache_put 14 = .ok (.aload_n 0, 1) := by decide +kernel
theorem d_Cache_put_15 : decode b_Cache_put 15 = .ok (.getfield 24, 3) := by decide +kernel
theorem d_Cache_put_18 : decode b_Cache_put 18 = .ok (.aload_n 0, 1) := by decide +kernel
theorem d_Cache_put_19 : decode b_Cache_put 19 = .ok (.getfield 20, 3) := by decide +kernel
theorem d_Cache_put_22 : decode b_Cache_put 22 = .ok (.iconst 1, 1) := by decide +kernel
theorem d_Cache_put_23 : decode b_Cache_put 23 = .ok (.iadd, 1) := by decide +kernel
theorem d_Cache_put_24 : decode b_Cache_put 24 = .ok (.invokestatic 31, 3) := by decide +kernel
theorem d_Cache_put_27 : decode b_Cache_put 27 = .ok (.putfield 24, 3) := by decide +kernel
theorem d_Cache_put_30 : decode b_Cache_put 30 = .ok (.aload_n 0, 1) := by decide +kernel
theorem d_Cache_put_31 : decode b_Cache_put 31 = .ok (.aload_n 0, 1) := by decide +kernel
theorem d_Cache_put_32 : decode b_Cache_put 32 = .ok (.getfield 20, 3) := by decide +kernel
theorem d_Cache_put_35 : decode b_Cache_put 35 = .ok (.iconst 1, 1) := by decide +kernel
theorem d_Cache_put_36 : decode b_Cache_put 36 = .ok (.iadd, 1) := by decide +kernel
theorem d_Cache_put_37 : decode b_Cache_put 37 = .ok (.bipush 16, 2) := by decide +kernel
theorem d_Cache_put_39 : decode b_Cache_put 39 = .ok (.irem, 1) := by decide +kernel
theorem d_Cache_put_40 : decode b_Cache_put 40 = .ok (.putfield 20, 3) := by decide +kernel
theorem d_Cache_put_43 : decode b_Cache_put 43 = .ok (.return_, 1) := by decide +kernel
theorem d_Line_init_0 : decode b_Line_init 0 = .ok (.aload_n 0, 1) := by decide +kernel
theorem d_Line_init_1 : decode b_Line_init 1 = .ok (.invokespecial 3, 3) := by decide +kernel
theorem d_Line_init_4 : decode b_Line_init 4 = .ok (.aload_n 0, 1) := by decide +kernel
theorem d_Line_init_5 : decode b_Line_init 5 = .ok (.sipush 6247, 3) := by decide +kernel
theorem d_Line_init_8 : decode b_Line_init 8 = .ok (.newarray .int, 2) := by decide +kernel
theorem d_Line_init_10 : decode b_Line_init 10 = .ok (.putfield 9, 3) := by decide +kernel
theorem d_Line_init_13 : decode b_Line_init 13 = .ok (.return_, 1) := by decide +kernel
theorem d_Line_clear_0 : decode b_Line_clear 0 = .ok (.aload_n 0, 1) := by decide +kernel
theorem d_Line_clear_1 : decode b_Line_clear 1 = .ok (.iconst 0, 1) := by decide +kernel
theorem d_Line_clear_2 : decode b_Line_clear 2 = .ok (.putfield 15, 3) := by decide +kernel
theorem d_Line_clear_5 : decode b_Line_clear 5 = .ok (.aload_n 0, 1) := by decide +kernel
theorem d_Line_clear_6 : decode b_Line_clear 6 = .ok (.iconst 0, 1) := by decide +kernel
theorem d_Line_clear_7 : decode b_Line_clear 7 = .ok (.putfield 19, 3) := by decide +kernel
theorem d_Line_clear_10 : decode b_Line_clear 10 = .ok (.return_, 1) := by decide +kernel
theorem d_Line_add_0 : decode b_Line_add 0 = .ok (.aload_n 0, 1) := by decide +kernel
theorem d_Line_add_1 : decode b_Line_add 1 = .ok (.getfield 15, 3) := by decide +kernel
theorem d_Line_add_4 : decode b_Line_add 4 = .ok (.aload_n 0, 1) := by decide +kernel
theorem d_Line_add_5 : decode b_Line_add 5 = .ok (.getfield 19, 3) := by decide +kernel
theorem d_Line_add_8 : decode b_Line_add 8 = .ok (.iadd, 1) := by decide +kernel
theorem d_Line_add_9 : decode b_Line_add 9 = .ok (.aload_n 0, 1) := by decide +kernel
theorem d_Line_add_10 : decode b_Line_add 10 = .ok (.getfield 9, 3) := by decide +kernel
theorem d_Line_add_13 : decode b_Line_add 13 = .ok (.arraylength, 1) := by decide +kernel
theorem d_Line_add_14 : decode b_Line_add 14 = .ok (.if_icmp .ge 28, 3) := by decide +kernel
theorem d_Line_add_17 : decode b_Line_add 17 = .ok (.aload_n 0, 1) := by decide +kernel
theorem d_Line_add_18 : decode b_Line_add 18 = .ok (.getfield 9, 3) := by decide +kernel
theorem d_Line_add_21 : decode b_Line_add 21 = .ok (.aload_n 0, 1) := by decide +kernel
theorem d_Line_add_22 : decode b_Line_add 22 = .ok (.getfield 15, 3) := by decide +kernel
theorem d_Line_add_25 : decode b_Line_add 25 = .ok (.aload_n 0, 1) := by decide +kernel
theorem d_Line_add_26 : decode b_Line_add 26 = .ok (.getfield 19, 3) := by decide +kernel
theorem d_Line_add_29 : decode b_Line_add 29 = .ok (.iadd, 1) := by decide +kernel
theorem d_Line_add_30 : decode b_Line_add 30 = .ok (.iload_n 1, 1) := by decide +kernel
theorem d_Line_add_31 : decode b_Line_add 31 = .ok (.iastore, 1) := by decide +kernel
theorem d_Line_add_32 : decode b_Line_add 32 = .ok (.aload_n 0, 1) := by decide +kernel
theorem d_Line_add_33 : decode b_Line_add 33 = .ok (.dup, 1) := by decide +kernel
theorem d_Line_add_34 : decode b_Line_add 34 = .ok (.getfield 19, 3) := by decide +kernel
theorem d_Line_add_37 : decode b_Line_add 37 = .ok (.iconst 1, 1) := by decide +kernel
theorem d_Line_add_38 : decode b_Line_add 38 = .ok (.iadd, 1) := by decide +kernel
theorem d_Line_add_39 : decode b_Line_add 39 = .ok (.putfield 19, 3) := by decide +kernel
theorem d_Line_add_42 : decode b_Line_add 42 = .ok (.return_, 1) := by decide +kernel
theorem d_Line_addPair_0 : decode b_Line_addPair 0 = .ok (.aload_n 0, 1) := by decide +kernel
theorem d_Line_addPair_1 : decode b_Line_addPair 1 = .ok (.iload_n 1, 1) := by decide +kernel
theorem d_Line_addPair_2 : decode b_Line_addPair 2 = .ok (.bipush 8, 2) := by decide +kernel
theorem d_Line_addPair_4 : decode b_Line_addPair 4 = .ok (.ishr, 1) := by decide +kernel
theorem d_Line_addPair_5 : decode b_Line_addPair 5 = .ok (.sipush 255, 3) := by decide +kernel
theorem d_Line_addPair_8 : decode b_Line_addPair 8 = .ok (.iand, 1) := by decide +kernel
theorem d_Line_addPair_9 : decode b_Line_addPair 9 = .ok (.invokevirtual 22, 3) := by decide +kernel
theorem d_Line_addPair_12 : decode b_Line_addPair 12 = .ok (.aload_n 0, 1) := by decide +kernel
theorem d_Line_addPair_13 : decode b_Line_addPair 13 = .ok (.iload_n 1, 1) := by decide +kernel
theorem d_Line_addPair_14 : decode b_Line_addPair 14 = .ok (.sipush 255, 3) := by decide +kernel
theorem d_Line_addPair_17 : decode b_Line_addPair 17 = .ok (.iand, 1) := by decide +kernel
theorem d_Line_addPair_18 : decode b_Line_addPair 18 = .ok (.invokevirtual 22, 3) := by decide +kernel
theorem d_Line_addPair_21 : decode b_Line_addPair 21 = .ok (.return_, 1) := by decide +kernel
theorem d_Line_set_0 : decode b_Line_set 0 = .ok (.iload_n 1, 1) := by decide +kernel
theorem d_Line_set_1 : decode b_Line_set 1 = .ok (.ifCond .lt 23, 3) := by decide +kernel
theorem d_Line_set_4 : decode b_Line_set 4 = .ok (.iload_n 1, 1) := by decide +kernel
theorem d_Line_set_5 : decode b_Line_set 5 = .ok (.aload_n 0, 1) := by decide +kernel
theorem d_Line_set_6 : decode b_Line_set 6 = .ok (.getfield 19, 3) := by decide +kernel
theorem d_Line_set_9 : decode b_Line_set 9 = .ok (.if_icmp .ge 15, 3) := by decide +kernel
theorem d_Line_set_12 : decode b_Line_set 12 = .ok (.aload_n 0, 1) := by decide +kernel
theorem d_Line_set_13 : decode b_Line_set 13 = .ok (.getfield 9, 3) := by decide +kernel
theorem d_Line_set_16 : decode b_Line_set 16 = .ok (.aload_n 0, 1) := by decide +kernel
theorem d_Line_set_17 : decode b_Line_set 17 = .ok (.getfield 15, 3) := by decide +kernel
theorem d_Line_set_20 : decode b_Line_set 20 = .ok (.iload_n 1, 1) := by decide +kernel
theorem d_Line_set_21 : decode b_Line_set 21 = .ok (.iadd, 1) := by decide +kernel
theorem d_Line_set_22 : decode b_Line_set 22 = .ok (.iload_n 2, 1) := by decide +kernel
theorem d_Line_set_23 : decode b_Line_set 23 = .ok (.iastore, 1) := by decide +kernel
theorem d_Line_set_24 : decode b_Line_set 24 = .ok (.return_, 1) := by decide +kernel
theorem d_Line_get_0 : decode b_Line_get 0 = .ok (.iload_n 1, 1) := by decide +kernel
theorem d_Line_get_1 : decode b_Line_get 1 = .ok (.ifCond .lt 25, 3) := by decide +kernel
theorem d_Line_get_4 : decode b_Line_get 4 = .ok (.iload_n 1, 1) := by decide +kernel
theorem d_Line_get_5 : decode b_Line_get 5 = .ok (.aload_n 0, 1) := by decide +kernel
theorem d_Line_get_6 : decode b_Line_get 6 = .ok (.getfield 19, 3) := by decide +kernel
theorem d_Line_get_9 : decode b_Line_get 9 = .ok (.if_icmp .ge 17, 3) := by decide +kernel
theorem d_Line_get_12 : decode b_Line_get 12 = .ok (.aload_n 0, 1) := by decide +kernel
theorem d_Line_get_13 : decode b_Line_get 13 = .ok (.getfield 9, 3) := by decide +kernel
theorem d_Line_get_16 : decode b_Line_get 16 = .ok (.aload_n 0, 1) := by decide +kernel
theorem d_Line_get_17 : decode b_Line_get 17 = .ok (.getfield 15, 3) := by decide +kernel
theorem d_Line_get_20 : decode b_Line_get 20 = .ok (.iload_n 1, 1) := by decide +kernel
theorem d_Line_get_21 : decode b_Line_get 21 = .ok (.iadd, 1) := by decide +kernel
theorem d_Line_get_22 : decode b_Line_get 22 = .ok (.iaload, 1) := by decide +kernel
theorem d_Line_get_23 : decode b_Line_get 23 = .ok (.goto 4, 3) := by decide +kernel
theorem d_Line_get_26 : decode b_Line_get 26 = .ok (.iconst (-1), 1) := by decide +kernel
theorem d_Line_get_27 : decode b_Line_get 27 = .ok (.ireturn, 1) := by decide +kernel
theorem d_Line_removeFirst_0 : decode b_Line_removeFirst 0 = .ok (.aload_n 0, 1) := by decide +kernel
theorem d_Line_removeFirst_1 : decode b_Line_removeFirst 1 = .ok (.getfield 19, 3) := by decide +kernel
theorem d_Line_removeFirst_4 : decode b_Line_removeFirst 4 = .ok (.ifCond .ne 5, 3) := by decide +kernel
theorem d_Line_removeFirst_9 : decode b_Line_removeFirst 9 = .ok (.aload_n 0, 1) := by decide +kernel
theorem d_Line_removeFirst_10 : decode b_Line_removeFirst 10 = .ok (.getfield 9, 3) := by decide +kernel
theorem d_Line_removeFirst_13 : decode b_Line_removeFirst 13 = .ok (.aload_n 0, 1) := by decide +kernel
theorem d_Line_removeFirst_14 : decode b_Line_removeFirst 14 = .ok (.getfield 15, 3) := by decide +kernel
theorem d_Line_removeFirst_17 : decode b_Line_removeFirst 17 = .ok (.iaload, 1) := by decide +kernel
theorem d_Line_removeFirst_18 : decode b_Line_removeFirst 18 = .ok (.istore_n 1, 1) := by decide +kernel
theorem d_Line_removeFirst_19 : decode b_Line_removeFirst 19 = .ok (.aload_n 0, 1) := by decide +kernel
theorem d_Line_removeFirst_20 : decode b_Line_removeFirst 20 = .ok (.dup, 1) := by decide +kernel
theorem d_Line_removeFirst_21 : decode b_Line_removeFirst 21 = .ok (.getfield 15, 3) := by decide +kernel
theorem d_Line_removeFirst_24 : decode b_Line_removeFirst 24 = .ok (.iconst 1, 1) := by decide +kernel
theorem d_Line_removeFirst_25 : decode b_Line_removeFirst 25 = .ok (.iadd, 1) := by decide +kernel
theorem d_Line_removeFirst_26 : decode b_Line_removeFirst 26 = .ok (.putfield 15, 3) := by decide +kernel
theorem d_Line_removeFirst_29 : decode b_Line_removeFirst 29 = .ok (.aload_n 0, 1) := by decide +kernel
theorem d_Line_removeFirst_30 : decode b_Line_removeFirst 30 = .ok (.dup, 1) := by decide +kernel
theorem d_Line_removeFirst_31 : decode b_Line_removeFirst 31 = .ok (.getfield 19, 3) := by decide +kernel
theorem d_Line_removeFirst_34 : decode b_Line_removeFirst 34 = .ok (.iconst 1, 1) := by decide +kernel
theorem d_Line_removeFirst_35 : decode b_Line_removeFirst 35 = .ok (.isub, 1) := by decide +kernel
theorem d_Line_removeFirst_36 : decode b_Line_removeFirst 36 = .ok (.putfield 19, 3) := by decide +kernel
theorem d_Line_removeFirst_39 : decode b_Line_removeFirst 39 = .ok (.iload_n 1, 1) := by decide +kernel
theorem d_Line_removeFirst_40 : decode b_Line_removeFirst 40 = .ok (.ireturn, 1) := by decide +kernel
theorem d_Poisons_init_0 : decode b_Poisons_init 0 = .ok (.aload_n 0, 1) := by decide +kernel
theorem d_Poisons_init_1 : decode b_Poisons_init 1 = .ok (.invokespecial 3, 3) := by decide +kernel
theorem d_Poisons_init_4 : decode b_Poisons_init 4 = .ok (.aload_n 0, 1) := by decide +kernel
theorem d_Poisons_init_5 : decode b_Poisons_init 5 = .ok (.bipush 8, 2) := by decide +kernel
theorem d_Poisons_init_7 : decode b_Poisons_init 7 = .ok (.newarray .int, 2) := by decide +kernel
theorem d_Poisons_init_9 : decode b_Poisons_init 9 = .ok (.putfield 9, 3) := by decide +kernel
theorem d_Poisons_init_12 : decode b_Poisons_init 12 = .ok (.aload_n 0, 1) := by decide +kernel
theorem d_Poisons_init_13 : decode b_Poisons_init 13 = .ok (.bipush 8, 2) := by decide +kernel
theorem d_Poisons_init_15 : decode b_Poisons_init 15 = .ok (.newarray .int, 2) := by decide +kernel
theorem d_Poisons_init_17 : decode b_Poisons_init 17 = .ok (.putfield 15, 3) := by decide +kernel
theorem d_Poisons_init_20 : decode b_Poisons_init 20 = .ok (.return_, 1) := by decide +kernel
theorem d_Poisons_add_0 : decode b_Poisons_add 0 = .ok (.aload_n 0, 1) := by decide +kernel
theorem d_Poisons_add_1 : decode b_Poisons_add 1 = .ok (.getfield 18, 3) := by decide +kernel
theorem d_Poisons_add_4 : decode b_Poisons_add 4 = .ok (.bipush 8, 2) := by decide +kernel
theorem d_Poisons_add_6 : decode b_Poisons_add 6 = .ok (.if_icmp .ge 13, 3) := by decide +kernel
theorem d_Poisons_add_9 : decode b_Poisons_add 9 = .ok (.aload_n 0, 1) := by decide +kernel
theorem d_Poisons_add_10 : decode b_Poisons_add 10 = .ok (.dup, 1) := by decide +kernel
theorem d_Poisons_add_11 : decode b_Poisons_add 11 = .ok (.getfield 18, 3) := by decide +kernel
theorem d_Poisons_add_14 : decode b_Poisons_add 14 = .ok (.iconst 1, 1) := by decide +kernel
theorem d_Poisons_add_15 : decode b_Poisons_add 15 = .ok (.iadd, 1) := by decide +kernel
theorem d_Poisons_add_16 : decode b_Poisons_add 16 = .ok (.putfield 18, 3) := by decide +kernel
theorem d_Poisons_add_19 : decode b_Poisons_add 19 = .ok (.aload_n 0, 1) := by decide +kernel
theorem d_Poisons_add_20 : decode b_Poisons_add 20 = .ok (.getfield 9, 3) := by decide +kernel
theorem d_Poisons_add_23 : decode b_Poisons_add 23 = .ok (.aload_n 0, 1) := by decide +kernel
theorem d_Poisons_add_24 : decode b_Poisons_add 24 = .ok (.getfield 18, 3) := by decide +kernel
theorem d_Poisons_add_27 : decode b_Poisons_add 27 = .ok (.iconst 1, 1) := by decide +kernel
theorem d_Poisons_add_28 : decode b_Poisons_add 28 = .ok (.isub, 1) := by decide +kernel
theorem d_Poisons_add_29 : decode b_Poisons_add 29 = .ok (.iload_n 1, 1) := by decide +kernel
theorem d_Poisons_add_30 : decode b_Poisons_add 30 = .ok (.iastore, 1) := by decide +kernel
theorem d_Poisons_add_31 : decode b_Poisons_add 31 = .ok (.aload_n 0, 1) := by decide +kernel
theorem d_Poisons_add_32 : decode b_Poisons_add 32 = .ok (.getfield 15, 3) := by decide +kernel
theorem d_Poisons_add_35 : decode b_Poisons_add 35 = .ok (.aload_n 0, 1) := by decide +kernel
theorem d_Poisons_add_36 : decode b_Poisons_add 36 = .ok (.getfield 18, 3) := by decide +kernel
theorem d_Poisons_add_39 : decode b_Poisons_add 39 = .ok (.iconst 1, 1) := by decide +kernel
theorem d_Poisons_add_40 : decode b_Poisons_add 40 = .ok (.isub, 1) := by decide +kernel
theorem d_Poisons_add_41 : decode b_Poisons_add 41 = .ok (.iload_n 2, 1) := by decide +kernel
theorem d_Poisons_add_42 : decode b_Poisons_add 42 = .ok (.iastore, 1) := by decide +kernel
theorem d_Poisons_add_43 : decode b_Poisons_add 43 = .ok (.return_, 1) := by decide +kernel
theorem d_Poisons_spoil_0 : decode b_Poisons_spoil 0 = .ok (.iload_n 1, 1) := by decide +kernel
theorem d_Poisons_spoil_1 : decode b_Poisons_spoil 1 = .ok (.istore_n 2, 1) := by decide +kernel
theorem d_Poisons_spoil_2 : decode b_Poisons_spoil 2 = .ok (.iconst 0, 1) := by decide +kernel
theorem d_Poisons_spoil_3 : decode b_Poisons_spoil 3 = .ok (.istore_n 3, 1) := by decide +kernel
theorem d_Poisons_spoil_4 : decode b_Poisons_spoil 4 = .ok (.iconst 0, 1) := by decide +kernel
theorem d_Poisons_spoil_5 : decode b_Poisons_spoil 5 = .ok (.istore 4, 2) := by decide +kernel
theorem d_Poisons_spoil_7 : decode b_Poisons_spoil 7 = .ok (.iload 4, 2) := by decide +kernel
theorem d_Poisons_spoil_9 : decode b_Poisons_spoil 9 = .ok (.aload_n 0, 1) := by decide +kernel
theorem d_Poisons_spoil_10 : decode b_Poisons_spoil 10 = .ok (.getfield 18, 3) := by decide +kernel
theorem d_Poisons_spoil_13 : decode b_Poisons_spoil 13 = .ok (.if_icmp .ge 64, 3) := by decide +kernel
theorem d_Poisons_spoil_16 : decode b_Poisons_spoil 16 = .ok (.aload_n 0, 1) := by decide +kernel
theorem d_Poisons_spoil_17 : decode b_Poisons_spoil 17 = .ok (.getfield 9, 3) := by decide +kernel
theorem d_Poisons_spoil_20 : decode b_Poisons_spoil 20 = .ok (.iload 4, 2) := by decide +kernel
theorem d_Poisons_spoil_22 : decode b_Poisons_spoil 22 = .ok (.iaload, 1) := by decide +kernel
theorem d_Poisons_spoil_23 : decode b_Poisons_spoil 23 = .ok (.iconst 1, 1) := by decide +kernel
theorem d_Poisons_spoil_24 : decode b_Poisons_spoil 24 = .ok (.if_icmp .ne 16, 3) := by decide +kernel
theorem d_Poisons_spoil_27 : decode b_Poisons_spoil 27 = .ok (.iload_n 2, 1) := by decide +kernel
theorem d_Poisons_spoil_28 : decode b_Poisons_spoil 28 = .ok (.aload_n 0, 1) := by decide +kernel
theorem d_Poisons_spoil_29 : decode b_Poisons_spoil 29 = .ok (.getfield 15, 3) := by decide +kernel
theorem d_Poisons_spoil_32 : decode b_Poisons_spoil 32 = .ok (.iload 4, 2) := by decide +kernel
theorem d_Poisons_spoil_34 : decode b_Poisons_spoil 34 = .ok (.iaload, 1) := by decide +kernel
theorem d_Poisons_spoil_35 : decode b_Poisons_spoil 35 = .ok (.ixor, 1) := by decide +kernel
theorem d_Poisons_spoil_36 : decode b_Poisons_spoil 36 = .ok (.istore_n 2, 1) := by decide +kernel
theorem d_Poisons_spoil_37 : decode b_Poisons_spoil 37 = .ok (.goto 34, 3) := by decide +kernel
theorem d_Poisons_spoil_40 : decode b_Poisons_spoil 40 = .ok (.aload_n 0, 1) := by decide +kernel
theorem d_Poisons_spoil_41 : decode b_Poisons_spoil 41 = .ok (.getfield 9, 3) := by decide +kernel
theorem d_Poisons_spoil_44 : decode b_Poisons_spoil 44 = .ok (.iload_n 3, 1) := by decide +kernel
theorem d_Poisons_spoil_45 : decode b_Poisons_spoil 45 = .ok (.aload_n 0, 1) := by decide +kernel
theorem d_Poisons_spoil_46 : decode b_Poisons_spoil 46 = .ok (.getfield 9, 3) := by decide +kernel
theorem d_Poisons_spoil_49 : decode b_Poisons_spoil 49 = .ok (.iload 4, 2) := by decide +kernel
theorem d_Poisons_spoil_51 : decode b_Poisons_spoil 51 = .ok (.iaload, 1) := by decide +kernel
theorem d_Poisons_spoil_52 : decode b_Poisons_spoil 52 = .ok (.iconst 1, 1) := by decide +kernel
theorem d_Poisons_spoil_53 : decode b_Poisons_spoil 53 = .ok (.isub, 1) := by decide +kernel
theorem d_Poisons_spoil_54 : decode b_Poisons_spoil 54 = .ok (.iastore, 1) := by decide +kernel
theorem d_Poisons_spoil_55 : decode b_Poisons_spoil 55 = .ok (.aload_n 0, 1) := by decide +kernel
theorem d_Poisons_spoil_56 : decode b_Poisons_spoil 56 = .ok (.getfield 15, 3) := by decide +kernel
theorem d_Poisons_spoil_59 : decode b_Poisons_spoil 59 = .ok (.iload_n 3, 1) := by decide +kernel
theorem d_Poisons_spoil_60 : decode b_Poisons_spoil 60 = .ok (.aload_n 0, 1) := by decide +kernel
theorem d_Poisons_spoil_61 : decode b_Poisons_spoil 61 = .ok (.getfield 15, 3) := by decide +kernel
theorem d_Poisons_spoil_64 : decode b_Poisons_spoil 64 = .ok (.iload 4, 2) := by decide +kernel
theorem d_Poisons_spoil_66 : decode b_Poisons_spoil 66 = .ok (.iaload, 1) := by decide +kernel
theorem d_Poisons_spoil_67 : decode b_Poisons_spoil 67 = .ok (.iastore, 1) := by decide +kernel
theorem d_Poisons_spoil_68 : decode b_Poisons_spoil 68 = .ok (.iinc 3 1, 3) := by decide +kernel
theorem d_Poisons_spoil_71 : decode b_Poisons_spoil 71 = .ok (.iinc 4 1, 3) := by decide +kernel
theorem d_Poisons_spoil_74 : decode b_Poisons_spoil 74 = .ok (.goto (-67), 3) := by decide +kernel
theorem d_Poisons_spoil_77 : decode b_Poisons_spoil 77 = .ok (.aload_n 0, 1) := by decide +kernel
theorem d_Poisons_spoil_78 : decode b_Poisons_spoil 78 = .ok (.iload_n 3, 1) := by decide +kernel
theorem d_Poisons_spoil_79 : decode b_Poisons_spoil 79 = .ok (.putfield 18, 3) := by decide +kernel
theorem d_Poisons_spoil_82 : decode b_Poisons_spoil 82 = .ok (.iload_n 2, 1) := by decide +kernel
theorem d_Poisons_spoil_83 : decode b_Poisons_spoil 83 = .ok (.ireturn, 1) := by decide +kernel
theorem d_Look_init_0 : decode b_Look_init 0 = .ok (.aload_n 0, 1) := by decide +kernel
theorem d_Look_init_1 : decode b_Look_init 1 = .ok (.invokespecial 3, 3) := by decide +kernel
theorem d_Look_init_4 : decode b_Look_init 4 = .ok (.aload_n 0, 1) := by decide +kernel
theorem d_Look_init_5 : decode b_Look_init 5 = .ok (.iconst 4, 1) := by decide +kernel
theorem d_Look_init_6 : decode b_Look_init 6 = .ok (.newarray .int, 2) := by decide +kernel
theorem d_Look_init_8 : decode b_Look_init 8 = .ok (.putfield 9, 3) := by decide +kernel
theorem d_Look_init_11 : decode b_Look_init 11 = .ok (.return_, 1) := by decide +kernel
theorem d_Look_study_0 : decode b_Look_study 0 = .ok (.aload_n 0, 1) := by decide +kernel
theorem d_Look_study_1 : decode b_Look_study 1 = .ok (.iconst 0, 1) := by decide +kernel
theorem d_Look_study_2 : decode b_Look_study 2 = .ok (.putfield 15, 3) := by decide +kernel
theorem d_Look_study_5 : decode b_Look_study 5 = .ok (.aload_n 0, 1) := by decide +kernel
theorem d_Look_study_6 : decode b_Look_study 6 = .ok (.iconst 0, 1) := by decide +kernel
theorem d_Look_study_7 : decode b_Look_study 7 = .ok (.putfield 19, 3) := by decide +kernel
theorem d_Look_study_10 : decode b_Look_study 10 = .ok (.iconst (-1), 1) := by decide +kernel
theorem d_Look_study_11 : decode b_Look_study 11 = .ok (.istore_n 3, 1) := by decide +kernel
theorem d_Look_study_12 : decode b_Look_study 12 = .ok (.iconst 0, 1) := by decide +kernel
theorem d_Look_study_13 : decode b_Look_study 13 = .ok (.istore 4, 2) := by decide +kernel
theorem d_Look_study_15 : decode b_Look_study 15 = .ok (.iload 4, 2) := by decide +kernel
theorem d_Look_study_17 : decode b_Look_study 17 = .ok (.bipush 64, 2) := by decide +kernel
theorem d_Look_study_19 : decode b_Look_study 19 = .ok (.if_icmp .ge 43, 3) := by decide +kernel
theorem d_Look_study_22 : decode b_Look_study 22 = .ok (.aload_n 1, 1) := by decide +kernel
theorem d_Look_study_23 : decode b_Look_study 23 = .ok (.iload_n 2, 1) := by decide +kernel
theorem d_Look_study_24 : decode b_Look_study 24 = .ok (.iload 4, 2) := by decide +kernel
theorem d_Look_study_26 : decode b_Look_study 26 = .ok (.invokevirtual 22, 3) := by decide +kernel
theorem d_Look_study_29 : decode b_Look_study 29 = .ok (.istore 5, 2) := by decide +kernel
theorem d_Look_study_31 : decode b_Look_study 31 = .ok (.iload 5, 2) := by decide +kernel
theorem d_Look_study_33 : decode b_Look_study 33 = .ok (.iload_n 3, 1) := by decide +kernel
theorem d_Look_study_34 : decode b_Look_study 34 = .ok (.if_icmp .eq 19, 3) := by decide +kernel
theorem d_Look_study_37 : decode b_Look_study 37 = .ok (.aload_n 0, 1) := by decide +kernel
theorem d_Look_study_38 : decode b_Look_study 38 = .ok (.dup, 1) := by decide +kernel
theorem d_Look_study_39 : decode b_Look_study 39 = .ok (.getfield 19, 3) := by decide +kernel
theorem d_Look_study_42 : decode b_Look_study 42 = .ok (.iconst 1, 1) := by decide +kernel
theorem d_Look_study_43 : decode b_Look_study 43 = .ok (.iadd, 1) := by decide +kernel
theorem d_Look_study_44 : decode b_Look_study 44 = .ok (.putfield 19, 3) := by decide +kernel
theorem d_Look_study_47 : decode b_Look_study 47 = .ok (.aload_n 0, 1) := by decide +kernel
theorem d_Look_study_48 : decode b_Look_study 48 = .ok (.iload 5, 2) := by decide +kernel
theorem d_Look_study_50 : decode b_Look_study 50 = .ok (.invokevirtual 28, 3) := by decide +kernel
theorem d_Look_study_53 : decode b_Look_study 53 = .ok (.iload 5, 2) := by decide +kernel
theorem d_Look_study_55 : decode b_Look_study 55 = .ok (.istore_n 3, 1) := by decide +kernel
theorem d_Look_study_56 : decode b_Look_study 56 = .ok (.iinc 4 1, 3) := by decide +kernel
theorem d_Look_study_59 : decode b_Look_study 59 = .ok (.goto (-44), 3) := by decide +kernel
theorem d_Look_study_62 : decode b_Look_study 62 = .ok (.return_, 1) := by decide +kernel
theorem d_Look_meet_0 : decode b_Look_meet 0 = .ok (.aload_n 0, 1) := by decide +kernel
theorem d_Look_meet_1 : decode b_Look_meet 1 = .ok (.iload_n 1, 1) := by decide +kernel
theorem d_Look_meet_2 : decode b_Look_meet 2 = .ok (.invokevirtual 32, 3) := by decide +kernel
theorem d_Look_meet_5 : decode b_Look_meet 5 = .ok (.iconst (-1), 1) := by decide +kernel
theorem d_Look_meet_6 : decode b_Look_meet 6 = .ok (.if_icmp .eq 4, 3) := by decide +kernel
theorem d_Look_meet_9 : decode b_Look_meet 9 = .ok (.return_, 1) := by decide +kernel
theorem d_Look_meet_10 : decode b_Look_meet 10 = .ok (.aload_n 0, 1) := by decide +kernel
theorem d_Look_meet_11 : decode b_Look_meet 11 = .ok (.getfield 15, 3) := by decide +kernel
theorem d_Look_meet_14 : decode b_Look_meet 14 = .ok (.iconst 4, 1) := by decide +kernel
theorem d_Look_meet_15 : decode b_Look_meet 15 = .ok (.if_icmp .ge 13, 3) := by decide +kernel
theorem d_Look_meet_18 : decode b_Look_meet 18 = .ok (.aload_n 0, 1) := by decide +kernel
theorem d_Look_meet_19 : decode b_Look_meet 19 = .ok (.getfield 9, 3) := by decide +kernel
theorem d_Look_meet_22 : decode b_Look_meet 22 = .ok (.aload_n 0, 1) := by decide +kernel
theorem d_Look_meet_23 : decode b_Look_meet 23 = .ok (.getfield 15, 3) := by decide +kernel
theorem d_Look_meet_26 : decode b_Look_meet 26 = .ok (.iload_n 1, 1) := by decide +kernel
theorem d_Look_meet_27 : decode b_Look_meet 27 = .ok (.iastore, 1) := by decide +kernel
theorem d_Look_meet_28 : decode b_Look_meet 28 = .ok (.aload_n 0, 1) := by decide +kernel
theorem d_Look_meet_29 : decode b_Look_meet 29 = .ok (.dup, 1) := by decide +kernel
theorem d_Look_meet_30 : decode b_Look_meet 30 = .ok (.getfield 15, 3) := by decide +kernel
theorem d_Look_meet_33 : decode b_Look_meet 33 = .ok (.iconst 1, 1) := by decide +kernel
theorem d_Look_meet_34 : decode b_Look_meet 34 = .ok (.iadd, 1) := by decide +kernel
theorem d_Look_meet_35 : decode b_Look_meet 35 = .ok (.putfield 15, 3) := by decide +kernel
theorem d_Look_meet_38 : decode b_Look_meet 38 = .ok (.return_, 1) := by decide +kernel
theorem d_Look_indexOf_0 : decode b_Look_indexOf 0 = .ok (.iconst 0, 1) := by decide +kernel
theorem d_Look_indexOf_1 : decode b_Look_indexOf 1 = .ok (.istore_n 2, 1) := by decide +kernel
theorem d_Look_indexOf_2 : decode b_Look_indexOf 2 = .ok (.iload_n 2, 1) := by decide +kernel
theorem d_Look_indexOf_3 : decode b_Look_indexOf 3 = .ok (.aload_n 0, 1) := by decide +kernel
theorem d_Look_indexOf_4 : decode b_Look_indexOf 4 = .ok (.getfield 15, 3) := by decide +kernel
theorem d_Look_indexOf_7 : decode b_Look_indexOf 7 = .ok (.if_icmp .ge 26, 3) := by decide +kernel
theorem d_Look_indexOf_10 : decode b_Look_indexOf 10 = .ok (.iload_n 2, 1) := by decide +kernel
theorem d_Look_indexOf_11 : decode b_Look_indexOf 11 = .ok (.iconst 4, 1) := by decide +kernel
theorem d_Look_indexOf_12 : decode b_Look_indexOf 12 = .ok (.if_icmp .ge 21, 3) := by decide +kernel
theorem d_Look_indexOf_15 : decode b_Look_indexOf 15 = .ok (.aload_n 0, 1) := by decide +kernel
theorem d_Look_indexOf_16 : decode b_Look_indexOf 16 = .ok (.getfield 9, 3) := by decide +kernel
theorem d_Look_indexOf_19 : decode b_Look_indexOf 19 = .ok (.iload_n 2, 1) := by decide +kernel
theorem d_Look_indexOf_20 : decode b_Look_indexOf 20 = .ok (.iaload, 1) := by decide +kernel
theorem d_Look_indexOf_21 : decode b_Look_indexOf 21 = .ok (.iload_n 1, 1) := by decide +kernel
theorem d_Look_indexOf_22 : decode b_Look_indexOf 22 = .ok (.if_icmp .ne 5, 3) := by decide +kernel
theorem d_Look_indexOf_25 : decode b_Look_indexOf 25 = .ok (.iload_n 2, 1) := by decide +kernel
theorem d_Look_indexOf_26 : decode b_Look_indexOf 26 = .ok (.ireturn, 1) := by decide +kernel
theorem d_Look_indexOf_27 : decode b_Look_indexOf 27 = .ok (.iinc 2 1, 3) := by decide +kernel
theorem d_Look_indexOf_30 : decode b_Look_indexOf 30 = .ok (.goto (-28), 3) := by decide +kernel
theorem d_Look_indexOf_33 : decode b_Look_indexOf 33 = .ok (.iconst (-1), 1) := by decide +kernel
theorem d_Look_indexOf_34 : decode b_Look_indexOf 34 = .ok (.ireturn, 1) := by decide +kernel
theorem d_Feed_init_0 : decode b_Feed_init 0 = .ok (.aload_n 0, 1) := by decide +kernel
theorem d_Feed_init_1 : decode b_Feed_init 1 = .ok (.invokespecial 3, 3) := by decide +kernel
theorem d_Feed_init_4 : decode b_Feed_init 4 = .ok (.aload_n 0, 1) := by decide +kernel
theorem d_Feed_init_5 : decode b_Feed_init 5 = .ok (.new 9, 3) := by decide +kernel
theorem d_Feed_init_8 : decode b_Feed_init 8 = .ok (.dup, 1) := by decide +kernel
theorem d_Feed_init_9 : decode b_Feed_init 9 = .ok (.bipush 48, 2) := by decide +kernel
theorem d_Feed_init_11 : decode b_Feed_init 11 = .ok (.invokespecial 11, 3) := by decide +kernel
theorem d_Feed_init_14 : decode b_Feed_init 14 = .ok (.putfield 14, 3) := by decide +kernel
theorem d_Feed_init_17 : decode b_Feed_init 17 = .ok (.aload_n 0, 1) := by decide +kernel
theorem d_Feed_init_18 : decode b_Feed_init 18 = .ok (.new 20, 3) := by decide +kernel
theorem d_Feed_init_21 : decode b_Feed_init 21 = .ok (.dup, 1) := by decide +kernel
theorem d_Feed_init_22 : decode b_Feed_init 22 = .ok (.invokespecial 22, 3) := by decide +kernel
theorem d_Feed_init_25 : decode b_Feed_init 25 = .ok (.putfield 23, 3) := by decide +kernel
theorem d_Feed_init_28 : decode b_Feed_init 28 = .ok (.aload_n 0, 1) := by decide +kernel
theorem d_Feed_init_29 : decode b_Feed_init 29 = .ok (.new 27, 3) := by decide +kernel
theorem d_Feed_init_32 : decode b_Feed_init 32 = .ok (.dup, 1) := by decide +kernel
theorem d_Feed_init_33 : decode b_Feed_init 33 = .ok (.invokespecial 29, 3) := by decide +kernel
theorem d_Feed_init_36 : decode b_Feed_init 36 = .ok (.putfield 30, 3) := by decide +kernel
theorem d_Feed_init_39 : decode b_Feed_init 39 = .ok (.aload_n 0, 1) := by decide +kernel
theorem d_Feed_init_40 : decode b_Feed_init 40 = .ok (.bipush 7, 2) := by decide +kernel
theorem d_Feed_init_42 : decode b_Feed_init 42 = .ok (.newarray .int, 2) := by decide +kernel
theorem d_Feed_init_44 : decode b_Feed_init 44 = .ok (.putfield 34, 3) := by decide +kernel
theorem d_Feed_init_47 : decode b_Feed_init 47 = .ok (.aload_n 0, 1) := by decide +kernel
theorem d_Feed_init_48 : decode b_Feed_init 48 = .ok (.new 38, 3) := by decide +kernel
theorem d_Feed_init_51 : decode b_Feed_init 51 = .ok (.dup, 1) := by decide +kernel
theorem d_Feed_init_52 : decode b_Feed_init 52 = .ok (.invokespecial 40, 3) := by decide +kernel
theorem d_Feed_init_55 : decode b_Feed_init 55 = .ok (.putfield 41, 3) := by decide +kernel
theorem d_Feed_init_58 : decode b_Feed_init 58 = .ok (.return_, 1) := by decide +kernel
theorem d_Feed_compose_0 : decode b_Feed_compose 0 = .ok (.aload_n 0, 1) := by decide +kernel
theorem d_Feed_compose_1 : decode b_Feed_compose 1 = .ok (.getfield 30, 3) := by decide +kernel
theorem d_Feed_compose_4 : decode b_Feed_compose 4 = .ok (.invokevirtual 45, 3) := by decide +kernel
theorem d_Feed_compose_7 : decode b_Feed_compose 7 = .ok (.iconst 0, 1) := by decide +kernel
theorem d_Feed_compose_8 : decode b_Feed_compose 8 = .ok (.istore_n 3, 1) := by decide +kernel
theorem d_Feed_compose_9 : decode b_Feed_compose 9 = .ok (.iload_n 3, 1) := by decide +kernel
theorem d_Feed_compose_10 : decode b_Feed_compose 10 = .ok (.iconst 3, 1) := by decide +kernel
theorem d_Feed_compose_11 : decode b_Feed_compose 11 = .ok (.if_icmp .ge 17, 3) := by decide +kernel
theorem d_Feed_compose_14 : decode b_Feed_compose 14 = .ok (.aload_n 0, 1) := by decide +kernel
theorem d_Feed_compose_15 : decode b_Feed_compose 15 = .ok (.getfield 30, 3) := by decide +kernel
theorem d_Feed_compose_18 : decode b_Feed_compose 18 = .ok (.iconst 0, 1) := by decide +kernel
theorem d_Feed_compose_19 : decode b_Feed_compose 19 = .ok (.invokevirtual 48, 3) := by decide +kernel
theorem d_Feed_compose_22 : decode b_Feed_compose 22 = .ok (.iinc 3 1, 3) := by decide +kernel
theorem d_Feed_compose_25 : decode b_Feed_compose 25 = .ok (.goto (-16), 3) := by decide +kernel
theorem d_Feed_compose_28 : decode b_Feed_compose 28 = .ok (.aload_n 0, 1) := by decide +kernel
theorem d_Feed_compose_29 : decode b_Feed_compose 29 = .ok (.getfield 30, 3) := by decide +kernel
theorem d_Feed_compose_32 : decode b_Feed_compose 32 = .ok (.iload_n 2, 1) := by decide +kernel
theorem d_Feed_compose_33 : decode b_Feed_compose 33 = .ok (.invokevirtual 51, 3) := by decide +kernel
theorem d_Feed_compose_36 : decode b_Feed_compose 36 = .ok (.iconst 0, 1) := by decide +kernel
theorem d_Feed_compose_37 : decode b_Feed_compose 37 = .ok (.istore_n 3, 1) := by decide +kernel
theorem d_Feed_compose_38 : decode b_Feed_compose 38 = .ok (.iload_n 3, 1) := by decide +kernel
theorem d_Feed_compose_39 : decode b_Feed_compose 39 = .ok (.bipush 48, 2) := by decide +kernel
theorem d_Feed_compose_41 : decode b_Feed_compose 41 = .ok (.if_icmp .ge 28, 3) := by decide +kernel
theorem d_Feed_compose_44 : decode b_Feed_compose 44 = .ok (.aload_n 1, 1) := by decide +kernel
theorem d_Feed_compose_45 : decode b_Feed_compose 45 = .ok (.iload_n 3, 1) := by decide +kernel
theorem d_Feed_compose_46 : decode b_Feed_compose 46 = .ok (.aload_n 0, 1) := by decide +kernel
theorem d_Feed_compose_47 : decode b_Feed_compose 47 = .ok (.getfield 14, 3) := by decide +kernel
theorem d_Feed_compose_50 : decode b_Feed_compose 50 = .ok (.iload_n 3, 1) := by decide +kernel
theorem d_Feed_compose_51 : decode b_Feed_compose 51 = .ok (.invokevirtual 54, 3) := by decide +kernel
theorem d_Feed_compose_54 : decode b_Feed_compose 54 = .ok (.ifCond .ne 9, 3) := by decide +kernel
theorem d_Feed_compose_57 : decode b_Feed_compose 57 = .ok (.aload_n 0, 1) := by decide +kernel
theorem d_Feed_compose_58 : decode b_Feed_compose 58 = .ok (.aload_n 1, 1) := by decide +kernel
theorem d_Feed_compose_59 : decode b_Feed_compose 59 = .ok (.iload_n 3, 1) := by decide +kernel
theorem d_Feed_compose_60 : decode b_Feed_compose 60 = .ok (.invokevirtual 58, 3) := by decide +kernel
theorem d_Feed_compose_63 : decode b_Feed_compose 63 = .ok (.iinc 3 1, 3) := by decide +kernel
theorem d_Feed_compose_66 : decode b_Feed_compose 66 = .ok (.goto (-28), 3) := by decide +kernel
theorem d_Feed_compose_69 : decode b_Feed_compose 69 = .ok (.aload_n 0, 1) := by decide +kernel
theorem d_Feed_compose_70 : decode b_Feed_compose 70 = .ok (.getfield 30, 3) := by decide +kernel
theorem d_Feed_compose_73 : decode b_Feed_compose 73 = .ok (.aload_n 0, 1) := by decide +kernel
theorem d_Feed_compose_74 : decode b_Feed_compose 74 = .ok (.getfield 30, 3) := by decide +kernel
theorem d_Feed_compose_77 : decode b_Feed_compose 77 = .ok (.getfield 62, 3) := by decide +kernel
theorem d_Feed_compose_80 : decode b_Feed_compose 80 = .ok (.iconst 3, 1) := by decide +kernel
theorem d_Feed_compose_81 : decode b_Feed_compose 81 = .ok (.aload_n 0, 1) := by decide +kernel
theorem d_Feed_compose_82 : decode b_Feed_compose 82 = .ok (.getfield 30, 3) := by decide +kernel
theorem d_Feed_compose_85 : decode b_Feed_compose 85 = .ok (.getfield 65, 3) := by decide +kernel
theorem d_Feed_compose_88 : decode b_Feed_compose 88 = .ok (.invokestatic 69, 3) := by decide +kernel
theorem d_Feed_compose_91 : decode b_Feed_compose 91 = .ok (.invokevirtual 51, 3) := by decide +kernel
theorem d_Feed_compose_94 : decode b_Feed_compose 94 = .ok (.aload_n 0, 1) := by decide +kernel
theorem d_Feed_compose_95 : decode b_Feed_compose 95 = .ok (.getfield 30, 3) := by decide +kernel
theorem d_Feed_compose_98 : decode b_Feed_compose 98 = .ok (.getfield 65, 3) := by decide +kernel
theorem d_Feed_compose_101 : decode b_Feed_compose 101 = .ok (.iconst 3, 1) := by decide +kernel
theorem d_Feed_compose_102 : decode b_Feed_compose 102 = .ok (.isub, 1) := by decide +kernel
theorem d_Feed_compose_103 : decode b_Feed_compose 103 = .ok (.istore_n 3, 1) := by decide +kernel
theorem d_Feed_compose_104 : decode b_Feed_compose 104 = .ok (.aload_n 0, 1) := by decide +kernel
theorem d_Feed_compose_105 : decode b_Feed_compose 105 = .ok (.getfield 30, 3) := by decide +kernel
theorem d_Feed_compose_108 : decode b_Feed_compose 108 = .ok (.iconst 0, 1) := by decide +kernel
theorem d_Feed_compose_109 : decode b_Feed_compose 109 = .ok (.iload_n 3, 1) := by decide +kernel
theorem d_Feed_compose_110 : decode b_Feed_compose 110 = .ok (.bipush 16, 2) := by decide +kernel
theorem d_Feed_compose_112 : decode b_Feed_compose 112 = .ok (.ishr, 1) := by decide +kernel
theorem d_Feed_compose_113 : decode b_Feed_compose 113 = .ok (.invokevirtual 73, 3) := by decide +kernel
theorem d_Feed_compose_116 : decode b_Feed_compose 116 = .ok (.aload_n 0, 1) := by decide +kernel
theorem d_Feed_compose_117 : decode b_Feed_compose 117 = .ok (.getfield 30, 3) := by decide +kernel
theorem d_Feed_compose_120 : decode b_Feed_compose 120 = .ok (.iconst 1, 1) := by decide +kernel
theorem d_Feed_compose_121 : decode b_Feed_compose 121 = .ok (.iload_n 3, 1) := by decide +kernel
theorem d_Feed_compose_122 : decode b_Feed_compose 122 = .ok (.bipush 8, 2) := by decide +kernel
theorem d_Feed_compose_124 : decode b_Feed_compose 124 = .ok (.ishr, 1) := by decide +kernel
theorem d_Feed_compose_125 : decode b_Feed_compose 125 = .ok (.sipush 255, 3) := by decide +kernel
theorem d_Feed_compose_128 : decode b_Feed_compose 128 = .ok (.iand, 1) := by decide +kernel
theorem d_Feed_compose_129 : decode b_Feed_compose 129 = .ok (.invokevirtual 73, 3) := by decide +kernel
theorem d_Feed_compose_132 : decode b_Feed_compose 132 = .ok (.aload_n 0, 1) := by decide +kernel
theorem d_Feed_compose_133 : decode b_Feed_compose 133 = .ok (.getfield 30, 3) := by decide +kernel
theorem d_Feed_compose_136 : decode b_Feed_compose 136 = .ok (.iconst 2, 1) := by decide +kernel
theorem d_Feed_compose_137 : decode b_Feed_compose 137 = .ok (.iload_n 3, 1) := by decide +kernel
theorem d_Feed_compose_138 : decode b_Feed_compose 138 = .ok (.sipush 255, 3) := by decide +kernel
theorem d_Feed_compose_141 : decode b_Feed_compose 141 = .ok (.iand, 1) := by decide +kernel
theorem d_Feed_compose_142 : decode b_Feed_compose 142 = .ok (.invokevirtual 73, 3) := by decide +kernel
theorem d_Feed_compose_145 : decode b_Feed_compose 145 = .ok (.aload_n 0, 1) := by decide +kernel
theorem d_Feed_compose_146 : decode b_Feed_compose 146 = .ok (.getfield 14, 3) := by decide +kernel
theorem d_Feed_compose_149 : decode b_Feed_compose 149 = .ok (.aload_n 1, 1) := by decide +kernel
theorem d_Feed_compose_150 : decode b_Feed_compose 150 = .ok (.invokevirtual 77, 3) := by decide +kernel
theorem d_Feed_compose_153 : decode b_Feed_compose 153 = .ok (.aload_n 0, 1) := by decide +kernel
theorem d_Feed_compose_154 : decode b_Feed_compose 154 = .ok (.iload_n 2, 1) := by decide +kernel
theorem d_Feed_compose_155 : decode b_Feed_compose 155 = .ok (.i2l, 1) := by decide +kernel
theorem d_Feed_compose_156 : decode b_Feed_compose 156 = .ok (.putfield 81, 3) := by decide +kernel
theorem d_Feed_compose_159 : decode b_Feed_compose 159 = .ok (.return_, 1) := by decide +kernel
theorem d_Feed_addRecord_0 : decode b_Feed_addRecord 0 = .ok (.aload_n 0, 1) := by decide +kernel
theorem d_Feed_addRecord_1 : decode b_Feed_addRecord 1 = .ok (.getfield 41, 3) := by decide +kernel
theorem d_Feed_addRecord_4 : decode b_Feed_addRecord 4 = .ok (.aload_n 1, 1) := by decide +kernel
theorem d_Feed_addRecord_5 : decode b_Feed_addRecord 5 = .ok (.iload_n 2, 1) := by decide +kernel
theorem d_Feed_addRecord_6 : decode b_Feed_addRecord 6 = .ok (.invokevirtual 85, 3) := by decide +kernel
theorem d_Feed_addRecord_9 : decode b_Feed_addRecord 9 = .ok (.aload_n 0, 1) := by decide +kernel
theorem d_Feed_addRecord_10 : decode b_Feed_addRecord 10 = .ok (.aload_n 0, 1) := by decide +kernel
theorem d_Feed_addRecord_11 : decode b_Feed_addRecord 11 = .ok (.getfield 14, 3) := by decide +kernel
theorem d_Feed_addRecord_14 : decode b_Feed_addRecord 14 = .ok (.bipush 48, 2) := by decide +kernel
theorem d_Feed_addRecord_16 : decode b_Feed_addRecord 16 = .ok (.aload_n 1, 1) := by decide +kernel
theorem d_Feed_addRecord_17 : decode b_Feed_addRecord 17 = .ok (.iload_n 2, 1) := by decide +kernel
theorem d_Feed_addRecord_18 : decode b_Feed_addRecord 18 = .ok (.invokevirtual 88, 3) := by decide +kernel
theorem d_Feed_addRecord_21 : decode b_Feed_addRecord 21 = .ok (.putfield 92, 3) := by decide +kernel
theorem d_Feed_addRecord_24 : decode b_Feed_addRecord 24 = .ok (.aload_n 0, 1) := by decide +kernel
theorem d_Feed_addRecord_25 : decode b_Feed_addRecord 25 = .ok (.aload_n 0, 1) := by decide +kernel
theorem d_Feed_addRecord_26 : decode b_Feed_addRecord 26 = .ok (.getfield 23, 3) := by decide +kernel
theorem d_Feed_addRecord_29 : decode b_Feed_addRecord 29 = .ok (.getfield 95, 3) := by decide +kernel
theorem d_Feed_addRecord_32 : decode b_Feed_addRecord 32 = .ok (.aload_n 0, 1) := by decide +kernel
theorem d_Feed_addRecord_33 : decode b_Feed_addRecord 33 = .ok (.getfield 23, 3) := by decide +kernel
theorem d_Feed_addRecord_36 : decode b_Feed_addRecord 36 = .ok (.getfield 98, 3) := by decide +kernel
theorem d_Feed_addRecord_39 : decode b_Feed_addRecord 39 = .ok (.aload_n 1, 1) := by decide +kernel
theorem d_Feed_addRecord_40 : decode b_Feed_addRecord 40 = .ok (.iload_n 2, 1) := by decide +kernel
theorem d_Feed_addRecord_41 : decode b_Feed_addRecord 41 = .ok (.invokevirtual 88, 3) := by decide +kernel
theorem d_Feed_addRecord_44 : decode b_Feed_addRecord 44 = .ok (.putfield 101, 3) := by decide +kernel
theorem d_Feed_addRecord_47 : decode b_Feed_addRecord 47 = .ok (.aload_n 0, 1) := by decide +kernel
theorem d_Feed_addRecord_48 : decode b_Feed_addRecord 48 = .ok (.invokevirtual 104, 3) := by decide +kernel
theorem d_Feed_addRecord_51 : decode b_Feed_addRecord 51 = .ok (.istore_n 3, 1) := by decide +kernel
theorem d_Feed_addRecord_52 : decode b_Feed_addRecord 52 = .ok (.aload_n 0, 1) := by decide +kernel
theorem d_Feed_addRecord_53 : decode b_Feed_addRecord 53 = .ok (.getfield 30, 3) := by decide +kernel
theorem d_Feed_addRecord_56 : decode b_Feed_addRecord 56 = .ok (.getfield 65, 3) := by decide +kernel
theorem d_Feed_addRecord_59 : decode b_Feed_addRecord 59 = .ok (.istore 4, 2) := by decide +kernel
theorem d_Feed_addRecord_61 : decode b_Feed_addRecord 61 = .ok (.aload_n 0, 1) := by decide +kernel
theorem d_Feed_addRecord_62 : decode b_Feed_addRecord 62 = .ok (.getfield 30, 3) := by decide +kernel
theorem d_Feed_addRecord_65 : decode b_Feed_addRecord 65 = .ok (.iload_n 3, 1) := by decide +kernel
theorem d_Feed_addRecord_66 : decode b_Feed_addRecord 66 = .ok (.invokevirtual 48, 3) := by decide +kernel
theorem d_Feed_addRecord_69 : decode b_Feed_addRecord 69 = .ok (.aload_n 0, 1) := by decide +kernel
theorem d_Feed_addRecord_70 : decode b_Feed_addRecord 70 = .ok (.getfield 30, 3) := by decide +kernel
theorem d_Feed_addRecord_73 : decode b_Feed_addRecord 73 = .ok (.iload_n 2, 1) := by decide +kernel
theorem d_Feed_addRecord_74 : decode b_Feed_addRecord 74 = .ok (.invokevirtual 48, 3) := by decide +kernel
theorem d_Feed_addRecord_77 : decode b_Feed_addRecord 77 = .ok (.aload_n 0, 1) := by decide +kernel
theorem d_Feed_addRecord_78 : decode b_Feed_addRecord 78 = .ok (.iload_n 3, 1) := by decide +kernel
theorem d_Feed_addRecord_79 : decode b_Feed_addRecord 79 = .ok (.aload_n 1, 1) := by decide +kernel
theorem d_Feed_addRecord_80 : decode b_Feed_addRecord 80 = .ok (.iload_n 2, 1) := by decide +kernel
theorem d_Feed_addRecord_81 : decode b_Feed_addRecord 81 = .ok (.invokevirtual 108, 3) := by decide +kernel
theorem d_Feed_addRecord_84 : decode b_Feed_addRecord 84 = .ok (.aload_n 0, 1) := by decide +kernel
theorem d_Feed_addRecord_85 : decode b_Feed_addRecord 85 = .ok (.getfield 34, 3) := by decide +kernel
theorem d_Feed_addRecord_88 : decode b_Feed_addRecord 88 = .ok (.iload_n 3, 1) := by decide +kernel
theorem d_Feed_addRecord_89 : decode b_Feed_addRecord 89 = .ok (.dup2, 1) := by decide +kernel
theorem d_Feed_addRecord_90 : decode b_Feed_addRecord 90 = .ok (.iaload, 1) := by decide +kernel
theorem d_Feed_addRecord_91 : decode b_Feed_addRecord 91 = .ok (.aload_n 0, 1) := by decide +kernel
theorem d_Feed_addRecord_92 : decode b_Feed_addRecord 92 = .ok (.getfield 30, 3) := by decide +kernel
theorem d_Feed_addRecord_95 : decode b_Feed_addRecord 95 = .ok (.getfield 65, 3) := by decide +kernel
theorem d_Feed_addRecord_98 : decode b_Feed_addRecord 98 = .ok (.iload 4, 2) := by decide +kernel
theorem d_Feed_addRecord_100 : decode b_Feed_addRecord 100 = .ok (.isub, 1) := by decide +kernel
theorem d_Feed_addRecord_101 : decode b_Feed_addRecord 101 = .ok (.iadd, 1) := by decide +kernel
theorem d_Feed_addRecord_102 : decode b_Feed_addRecord 102 = .ok (.iastore, 1) := by decide +kernel
theorem d_Feed_addRecord_103 : decode b_Feed_addRecord 103 = .ok (.iload_n 3, 1) := by decide +kernel
theorem d_Feed_addRecord_104 : decode b_Feed_addRecord 104 = .ok (.iconst 3, 1) := by decide +kernel
theorem d_Feed_addRecord_105 : decode b_Feed_addRecord 105 = .ok (.if_icmp .lt 12, 3) := by decide +kernel
theorem d_Feed_addRecord_108 : decode b_Feed_addRecord 108 = .ok (.aload_n 0, 1) := by decide +kernel
theorem d_Feed_addRecord_109 : decode b_Feed_addRecord 109 = .ok (.getfield 23, 3) := by decide +kernel
theorem d_Feed_addRecord_112 : decode b_Feed_addRecord 112 = .ok (.aload_n 1, 1) := by decide +kernel
theorem d_Feed_addRecord_113 : decode b_Feed_addRecord 113 = .ok (.iload_n 2, 1) := by decide +kernel
theorem d_Feed_addRecord_114 : decode b_Feed_addRecord 114 = .ok (.invokevirtual 112, 3) := by decide +kernel
theorem d_Feed_addRecord_117 : decode b_Feed_addRecord 117 = .ok (.return_, 1) := by decide +kernel
theorem d_Feed_chooseKind_0 : decode b_Feed_chooseKind 0 = .ok (.bipush 6, 2) := by decide +kernel
theorem d_Feed_chooseKind_2 : decode b_Feed_chooseKind 2 = .ok (.istore_n 1, 1) := by decide +kernel
theorem d_Feed_chooseKind_3 : decode b_Feed_chooseKind 3 = .ok (.bipush 6, 2) := by decide +kernel
theorem d_Feed_chooseKind_5 : decode b_Feed_chooseKind 5 = .ok (.istore_n 2, 1) := by decide +kernel
theorem d_Feed_chooseKind_6 : decode b_Feed_chooseKind 6 = .ok (.iload_n 2, 1) := by decide +kernel
theorem d_Feed_chooseKind_7 : decode b_Feed_chooseKind 7 = .ok (.ifCond .lt 32, 3) := by decide +kernel
theorem d_Feed_chooseKind_10 : decode b_Feed_chooseKind 10 = .ok (.aload_n 0, 1) := by decide +kernel
theorem d_Feed_chooseKind_11 : decode b_Feed_chooseKind 11 = .ok (.iload_n 2, 1) := by decide +kernel
theorem d_Feed_chooseKind_12 : decode b_Feed_chooseKind 12 = .ok (.invokevirtual 115, 3) := by decide +kernel
theorem d_Feed_chooseKind_15 : decode b_Feed_chooseKind 15 = .ok (.ifCond .eq 18, 3) := by decide +kernel
theorem d_Feed_chooseKind_18 : decode b_Feed_chooseKind 18 = .ok (.aload_n 0, 1) := by decide +kernel
theorem d_Feed_chooseKind_19 : decode b_Feed_chooseKind 19 = .ok (.iload_n 2, 1) := by decide +kernel
theorem d_Feed_chooseKind_20 : decode b_Feed_chooseKind 20 = .ok (.invokevirtual 119, 3) := by decide +kernel
theorem d_Feed_chooseKind_23 : decode b_Feed_chooseKind 23 = .ok (.aload_n 0, 1) := by decide +kernel
theorem d_Feed_chooseKind_24 : decode b_Feed_chooseKind 24 = .ok (.iload_n 1, 1) := by decide +kernel
theorem d_Feed_chooseKind_25 : decode b_Feed_chooseKind 25 = .ok (.invokevirtual 119, 3) := by decide +kernel
theorem d_Feed_chooseKind_28 : decode b_Feed_chooseKind 28 = .ok (.if_icmp .gt 5, 3) := by decide +kernel
theorem d_Feed_chooseKind_31 : decode b_Feed_chooseKind 31 = .ok (.iload_n 2, 1) := by decide +kernel
theorem d_Feed_chooseKind_32 : decode b_Feed_chooseKind 32 = .ok (.istore_n 1, 1) := by decide +kernel
theorem d_Feed_chooseKind_33 : decode b_Feed_chooseKind 33 = .ok (.iinc 2 (-1), 3) := by decide +kernel
theorem d_Feed_chooseKind_36 : decode b_Feed_chooseKind 36 = .ok (.goto (-30), 3) := by decide +kernel
theorem d_Feed_chooseKind_39 : decode b_Feed_chooseKind 39 = .ok (.iload_n 1, 1) := by decide +kernel
theorem d_Feed_chooseKind_40 : decode b_Feed_chooseKind 40 = .ok (.ireturn, 1) := by decide +kernel
theorem d_Feed_isFit_0 : decode b_Feed_isFit 0 = .ok (.iload_n 1, 1) := by decide +kernel
theorem d_Feed_isFit_1 : decode b_Feed_isFit 1 = .ok (.tableswitch 125 0 4 #[35, 52, 66, 80, 97], 35) := by decide +kernel
theorem d_Feed_isFit_36 : decode b_Feed_isFit 36 = .ok (.aload_n 0, 1) := by decide +kernel
theorem d_Feed_isFit_37 : decode b_Feed_isFit 37 = .ok (.getfield 41, 3) := by decide +kernel
theorem d_Feed_isFit_40 : decode b_Feed_isFit 40 = .ok (.getfield 123, 3) := by decide +kernel
theorem d_Feed_isFit_43 : decode b_Feed_isFit 43 = .ok (.iconst 1, 1) := by decide +kernel
theorem d_Feed_isFit_44 : decode b_Feed_isFit 44 = .ok (.if_icmp .ne 7, 3) := by decide +kernel
theorem d_Feed_isFit_47 : decode b_Feed_isFit 47 = .ok (.iconst 1, 1) := by decide +kernel
theorem d_Feed_isFit_48 : decode b_Feed_isFit 48 = .ok (.goto 4, 3) := by decide +kernel
theorem d_Feed_isFit_51 : decode b_Feed_isFit 51 = .ok (.iconst 0, 1) := by decide +kernel
theorem d_Feed_isFit_52 : decode b_Feed_isFit 52 = .ok (.ireturn, 1) := by decide +kernel
theorem d_Feed_isFit_53 : decode b_Feed_isFit 53 = .ok (.aload_n 0, 1) := by decide +kernel
theorem d_Feed_isFit_54 : decode b_Feed_isFit 54 = .ok (.getfield 92, 3) := by decide +kernel
theorem d_Feed_isFit_57 : decode b_Feed_isFit 57 = .ok (.iconst (-1), 1) := by decide +kernel
theorem d_Feed_isFit_58 : decode b_Feed_isFit 58 = .ok (.if_icmp .eq 7, 3) := by decide +kernel
theorem d_Feed_isFit_61 : decode b_Feed_isFit 61 = .ok (.iconst 1, 1) := by decide +kernel
theorem d_Feed_isFit_62 : decode b_Feed_isFit 62 = .ok (.goto 4, 3) := by decide +kernel
theorem d_Feed_isFit_65 : decode b_Feed_isFit 65 = .ok (.iconst 0, 1) := by decide +kernel
theorem d_Feed_isFit_66 : decode b_Feed_isFit 66 = .ok (.ireturn, 1) := by decide +kernel
theorem d_Feed_isFit_67 : decode b_Feed_isFit 67 = .ok (.aload_n 0, 1) := by decide +kernel
theorem d_Feed_isFit_68 : decode b_Feed_isFit 68 = .ok (.getfield 101, 3) := by decide +kernel
theorem d_Feed_isFit_71 : decode b_Feed_isFit 71 = .ok (.iconst (-1), 1) := by decide +kernel
theorem d_Feed_isFit_72 : decode b_Feed_isFit 72 = .ok (.if_icmp .eq 7, 3) := by decide +kernel
theorem d_Feed_isFit_75 : decode b_Feed_isFit 75 = .ok (.iconst 1, 1) := by decide +kernel
theorem d_Feed_isFit_76 : decode b_Feed_isFit 76 = .ok (.goto 4, 3) := by decide +kernel
theorem d_Feed_isFit_79 : decode b_Feed_isFit 79 = .ok (.iconst 0, 1) := by decide +kernel
theorem d_Feed_isFit_80 : decode b_Feed_isFit 80 = .ok (.ireturn, 1) := by decide +kernel
theorem d_Feed_isFit_81 : decode b_Feed_isFit 81 = .ok (.aload_n 0, 1) := by decide +kernel
theorem d_Feed_isFit_82 : decode b_Feed_isFit 82 = .ok (.getfield 41, 3) := by decide +kernel
theorem d_Feed_isFit_85 : decode b_Feed_isFit 85 = .ok (.getfield 123, 3) := by decide +kernel
theorem d_Feed_isFit_88 : decode b_Feed_isFit 88 = .ok (.iconst 2, 1) := by decide +kernel
theorem d_Feed_isFit_89 : decode b_Feed_isFit 89 = .ok (.if_icmp .ne 7, 3) := by decide +kernel
theorem d_Feed_isFit_92 : decode b_Feed_isFit 92 = .ok (.iconst 1, 1) := by decide +kernel
theorem d_Feed_isFit_93 : decode b_Feed_isFit 93 = .ok (.goto 4, 3) := by decide +kernel
theorem d_Feed_isFit_96 : decode b_Feed_isFit 96 = .ok (.iconst 0, 1) := by decide +kernel
theorem d_Feed_isFit_97 : decode b_Feed_isFit 97 = .ok (.ireturn, 1) := by decide +kernel
theorem d_Feed_isFit_98 : decode b_Feed_isFit 98 = .ok (.aload_n 0, 1) := by decide +kernel
theorem d_Feed_isFit_99 : decode b_Feed_isFit 99 = .ok (.getfield 41, 3) := by decide +kernel
theorem d_Feed_isFit_102 : decode b_Feed_isFit 102 = .ok (.getfield 123, 3) := by decide +kernel
theorem d_Feed_isFit_105 : decode b_Feed_isFit 105 = .ok (.iconst 3, 1) := by decide +kernel
theorem d_Feed_isFit_106 : decode b_Feed_isFit 106 = .ok (.if_icmp .lt 18, 3) := by decide +kernel
theorem d_Feed_isFit_109 : decode b_Feed_isFit 109 = .ok (.aload_n 0, 1) := by decide +kernel
theorem d_Feed_isFit_110 : decode b_Feed_isFit 110 = .ok (.getfield 41, 3) := by decide +kernel
theorem d_Feed_isFit_113 : decode b_Feed_isFit 113 = .ok (.getfield 123, 3) := by decide +kernel
theorem d_Feed_isFit_116 : decode b_Feed_isFit 116 = .ok (.iconst 4, 1) := by decide +kernel
theorem d_Feed_isFit_117 : decode b_Feed_isFit 117 = .ok (.if_icmp .gt 7, 3) := by decide +kernel
theorem d_Feed_isFit_120 : decode b_Feed_isFit 120 = .ok (.iconst 1, 1) := by decide +kernel
theorem d_Feed_isFit_121 : decode b_Feed_isFit 121 = .ok (.goto 4, 3) := by decide +kernel
theorem d_Feed_isFit_124 : decode b_Feed_isFit 124 = .ok (.iconst 0, 1) := by decide +kernel
theorem d_Feed_isFit_125 : decode b_Feed_isFit 125 = .ok (.ireturn, 1) := by decide +kernel
theorem d_Feed_isFit_126 : decode b_Feed_isFit 126 = .ok (.iconst 1, 1) := by decide +kernel
theorem d_Feed_isFit_127 : decode b_Feed_isFit 127 = .ok (.ireturn, 1) := by decide +kernel
theorem d_Feed_lengthOf_0 : decode b_Feed_lengthOf 0 = .ok (.iload_n 1, 1) := by decide +kernel
theorem d_Feed_lengthOf_1 : decode b_Feed_lengthOf 1 = .ok (.tableswitch 73 0 5 #[39, 41, 41, 43, 46, 61], 39) := by decide +kernel
theorem d_Feed_lengthOf_40 : decode b_Feed_lengthOf 40 = .ok (.iconst 2, 1) := by decide +kernel
theorem d_Feed_lengthOf_41 : decode b_Feed_lengthOf 41 = .ok (.ireturn, 1) := by decide +kernel
theorem d_Feed_lengthOf_42 : decode b_Feed_lengthOf 42 = .ok (.iconst 1, 1) := by decide +kernel
theorem d_Feed_lengthOf_43 : decode b_Feed_lengthOf 43 = .ok (.ireturn, 1) := by decide +kernel
theorem d_Feed_lengthOf_44 : decode b_Feed_lengthOf 44 = .ok (.bipush 12, 2) := by decide +kernel
theorem d_Feed_lengthOf_46 : decode b_Feed_lengthOf 46 = .ok (.ireturn, 1) := by decide +kernel
theorem d_Feed_lengthOf_47 : decode b_Feed_lengthOf 47 = .ok (.iconst 1, 1) := by decide +kernel
theorem d_Feed_lengthOf_48 : decode b_Feed_lengthOf 48 = .ok (.iconst 2, 1) := by decide +kernel
theorem d_Feed_lengthOf_49 : decode b_Feed_lengthOf 49 = .ok (.aload_n 0, 1) := by decide +kernel
theorem d_Feed_lengthOf_50 : decode b_Feed_lengthOf 50 = .ok (.getfield 41, 3) := by decide +kernel
theorem d_Feed_lengthOf_53 : decode b_Feed_lengthOf 53 = .ok (.getfield 123, 3) := by decide +kernel
theorem d_Feed_lengthOf_56 : decode b_Feed_lengthOf 56 = .ok (.imul, 1) := by decide +kernel
theorem d_Feed_lengthOf_57 : decode b_Feed_lengthOf 57 = .ok (.iadd, 1) := by decide +kernel
theorem d_Feed_lengthOf_58 : decode b_Feed_lengthOf 58 = .ok (.bipush 16, 2) := by decide +kernel
theorem d_Feed_lengthOf_60 : decode b_Feed_lengthOf 60 = .ok (.iadd, 1) := by decide +kernel
theorem d_Feed_lengthOf_61 : decode b_Feed_lengthOf 61 = .ok (.ireturn, 1) := by decide +kernel
theorem d_Feed_lengthOf_62 : decode b_Feed_lengthOf 62 = .ok (.iconst 1, 1) := by decide +kernel
theorem d_Feed_lengthOf_63 : decode b_Feed_lengthOf 63 = .ok (.iconst 3, 1) := by decide +kernel
theorem d_Feed_lengthOf_64 : decode b_Feed_lengthOf 64 = .ok (.aload_n 0, 1) := by decide +kernel
theorem d_Feed_lengthOf_65 : decode b_Feed_lengthOf 65 = .ok (.getfield 41, 3) := by decide +kernel
theorem d_Feed_lengthOf_68 : decode b_Feed_lengthOf 68 = .ok (.getfield 126, 3) := by decide +kernel
theorem d_Feed_lengthOf_71 : decode b_Feed_lengthOf 71 = .ok (.imul, 1) := by decide +kernel
theorem d_Feed_lengthOf_72 : decode b_Feed_lengthOf 72 = .ok (.iadd, 1) := by decide +kernel
theorem d_Feed_lengthOf_73 : decode b_Feed_lengthOf 73 = .ok (.ireturn, 1) := by decide +kernel
theorem d_Feed_lengthOf_74 : decode b_Feed_lengthOf 74 = .ok (.sipush 128, 3) := by decide +kernel
theorem d_Feed_lengthOf_77 : decode b_Feed_lengthOf 77 = .ok (.ireturn, 1) := by decide +kernel
theorem d_Feed_addContent_0 : decode b_Feed_addContent 0 = .ok (.iload_n 1, 1) := by decide +kernel
theorem d_Feed_addContent_1 : decode b_Feed_addContent 1 = .ok (.tableswitch 137 0 5 #[39, 58, 72, 86, 100, 128], 39) := by decide +kernel
theorem d_Feed_addContent_40 : decode b_Feed_addContent 40 = .ok (.aload_n 0, 1) := by decide +kernel
theorem d_Feed_addContent_41 : decode b_Feed_addContent 41 = .ok (.getfield 30, 3) := by decide +kernel
theorem d_Feed_addContent_44 : decode b_Feed_addContent 44 = .ok (.aload_n 0, 1) := by decide +kernel
theorem d_Feed_addContent_45 : decode b_Feed_addContent 45 = .ok (.getfield 41, 3) := by decide +kernel
theorem d_Feed_addContent_48 : decode b_Feed_addContent 48 = .ok (.getfield 129, 3) := by decide +kernel
theorem d_Feed_addContent_51 : decode b_Feed_addContent 51 = .ok (.iconst 0, 1) := by decide +kernel
theorem d_Feed_addContent_52 : decode b_Feed_addContent 52 = .ok (.iaload, 1) := by decide +kernel
theorem d_Feed_addContent_53 : decode b_Feed_addContent 53 = .ok (.invokevirtual 51, 3) := by decide +kernel
theorem d_Feed_addContent_56 : decode b_Feed_addContent 56 = .ok (.goto 88, 3) := by decide +kernel
theorem d_Feed_addContent_59 : decode b_Feed_addContent 59 = .ok (.aload_n 0, 1) := by decide +kernel
theorem d_Feed_addContent_60 : decode b_Feed_addContent 60 = .ok (.getfield 30, 3) := by decide +kernel
theorem d_Feed_addContent_63 : decode b_Feed_addContent 63 = .ok (.aload_n 0, 1) := by decide +kernel
theorem d_Feed_addContent_64 : decode b_Feed_addContent 64 = .ok (.getfield 92, 3) := by decide +kernel
theorem d_Feed_addContent_67 : decode b_Feed_addContent 67 = .ok (.invokevirtual 48, 3) := by decide +kernel
theorem d_Feed_addContent_70 : decode b_Feed_addContent 70 = .ok (.goto 74, 3) := by decide +kernel
theorem d_Feed_addContent_73 : decode b_Feed_addContent 73 = .ok (.aload_n 0, 1) := by decide +kernel
theorem d_Feed_addContent_74 : decode b_Feed_addContent 74 = .ok (.getfield 30, 3) := by decide +kernel
theorem d_Feed_addContent_77 : decode b_Feed_addContent 77 = .ok (.aload_n 0, 1) := by decide +kernel
theorem d_Feed_addContent_78 : decode b_Feed_addContent 78 = .ok (.getfield 101, 3) := by decide +kernel
theorem d_Feed_addContent_81 : decode b_Feed_addContent 81 = .ok (.invokevirtual 48, 3) := by decide +kernel
theorem d_Feed_addContent_84 : decode b_Feed_addContent 84 = .ok (.goto 60, 3) := by decide +kernel
theorem d_Feed_addContent_87 : decode b_Feed_addContent 87 = .ok (.aload_n 0, 1) := by decide +kernel
theorem d_Feed_addContent_88 : decode b_Feed_addContent 88 = .ok (.invokevirtual 132, 3) := by decide +kernel
theorem d_Feed_addContent_91 : decode b_Feed_addContent 91 = .ok (.aload_n 0, 1) := by decide +kernel
theorem d_Feed_addContent_92 : decode b_Feed_addContent 92 = .ok (.aload_n 2, 1) := by decide +kernel
theorem d_Feed_addContent_93 : decode b_Feed_addContent 93 = .ok (.iload_n 3, 1) := by decide +kernel
theorem d_Feed_addContent_94 : decode b_Feed_addContent 94 = .ok (.iconst 1, 1) := by decide +kernel
theorem d_Feed_addContent_95 : decode b_Feed_addContent 95 = .ok (.invokevirtual 135, 3) := by decide +kernel
theorem d_Feed_addContent_98 : decode b_Feed_addContent 98 = .ok (.goto 46, 3) := by decide +kernel
theorem d_Feed_addContent_101 : decode b_Feed_addContent 101 = .ok (.aload_n 0, 1) := by decide +kernel
theorem d_Feed_addContent_102 : decode b_Feed_addContent 102 = .ok (.getfield 30, 3) := by decide +kernel
theorem d_Feed_addContent_105 : decode b_Feed_addContent 105 = .ok (.aload_n 0, 1) := by decide +kernel
theorem d_Feed_addContent_106 : decode b_Feed_addContent 106 = .ok (.getfield 41, 3) := by decide +kernel
theorem d_Feed_addContent_109 : decode b_Feed_addContent 109 = .ok (.getfield 123, 3) := by decide +kernel
theorem d_Feed_addContent_112 : decode b_Feed_addContent 112 = .ok (.invokevirtual 48, 3) := by decide +kernel
theorem d_Feed_addContent_115 : decode b_Feed_addContent 115 = .ok (.aload_n 0, 1) := by decide +kernel
theorem d_Feed_addContent_116 : decode b_Feed_addContent 116 = .ok (.invokevirtual 132, 3) := by decide +kernel
theorem d_Feed_addContent_119 : decode b_Feed_addContent 119 = .ok (.aload_n 0, 1) := by decide +kernel
theorem d_Feed_addContent_120 : decode b_Feed_addContent 120 = .ok (.aload_n 2, 1) := by decide +kernel
theorem d_Feed_addContent_121 : decode b_Feed_addContent 121 = .ok (.iload_n 3, 1) := by decide +kernel
theorem d_Feed_addContent_122 : decode b_Feed_addContent 122 = .ok (.iconst 2, 1) := by decide +kernel
theorem d_Feed_addContent_123 : decode b_Feed_addContent 123 = .ok (.invokevirtual 135, 3) := by decide +kernel
theorem d_Feed_addContent_126 : decode b_Feed_addContent 126 = .ok (.goto 18, 3) := by decide +kernel
theorem d_Feed_addContent_129 : decode b_Feed_addContent 129 = .ok (.aload_n 0, 1) := by decide +kernel
theorem d_Feed_addContent_130 : decode b_Feed_addContent 130 = .ok (.aload_n 2, 1) := by decide +kernel
theorem d_Feed_addContent_131 : decode b_Feed_addContent 131 = .ok (.iload_n 3, 1) := by decide +kernel
theorem d_Feed_addContent_132 : decode b_Feed_addContent 132 = .ok (.invokevirtual 139, 3) := by decide +kernel
theorem d_Feed_addContent_135 : decode b_Feed_addContent 135 = .ok (.goto 9, 3) := by decide +kernel
theorem d_Feed_addContent_138 : decode b_Feed_addContent 138 = .ok (.aload_n 0, 1) := by decide +kernel
theorem d_Feed_addContent_139 : decode b_Feed_addContent 139 = .ok (.aload_n 2, 1) := by decide +kernel
theorem d_Feed_addContent_140 : decode b_Feed_addContent 140 = .ok (.iload_n 3, 1) := by decide +kernel
theorem d_Feed_addContent_141 : decode b_Feed_addContent 141 = .ok (.invokevirtual 142, 3) := by decide +kernel
theorem d_Feed_addContent_144 : decode b_Feed_addContent 144 = .ok (.return_, 1) := by decide +kernel
theorem d_Feed_addPalette_0 : decode b_Feed_addPalette 0 = .ok (.iconst 0, 1) := by decide +kernel
theorem d_Feed_addPalette_1 : decode b_Feed_addPalette 1 = .ok (.istore_n 1, 1) := by decide +kernel
theorem d_Feed_addPalette_2 : decode b_Feed_addPalette 2 = .ok (.iload_n 1, 1) := by decide +kernel
theorem d_Feed_addPalette_3 : decode b_Feed_addPalette 3 = .ok (.aload_n 0, 1) := by decide +kernel
theorem d_Feed_addPalette_4 : decode b_Feed_addPalette 4 = .ok (.getfield 41, 3) := by decide +kernel
theorem d_Feed_addPalette_7 : decode b_Feed_addPalette 7 = .ok (.getfield 123, 3) := by decide +kernel
theorem d_Feed_addPalette_10 : decode b_Feed_addPalette 10 = .ok (.if_icmp .ge 30, 3) := by decide +kernel
theorem d_Feed_addPalette_13 : decode b_Feed_addPalette 13 = .ok (.iload_n 1, 1) := by decide +kernel
theorem d_Feed_addPalette_14 : decode b_Feed_addPalette 14 = .ok (.iconst 4, 1) := by decide +kernel
theorem d_Feed_addPalette_15 : decode b_Feed_addPalette 15 = .ok (.if_icmp .ge 25, 3) := by decide +kernel
theorem d_Feed_addPalette_18 : decode b_Feed_addPalette 18 = .ok (.aload_n 0, 1) := by decide +kernel
theorem d_Feed_addPalette_19 : decode b_Feed_addPalette 19 = .ok (.getfield 30, 3) := by decide +kernel
theorem d_Feed_addPalette_22 : decode b_Feed_addPalette 22 = .ok (.aload_n 0, 1) := by decide +kernel
theorem d_Feed_addPalette_23 : decode b_Feed_addPalette 23 = .ok (.getfield 41, 3) := by decide +kernel
theorem d_Feed_addPalette_26 : decode b_Feed_addPalette 26 = .ok (.getfield 129, 3) := by decide +kernel
theorem d_Feed_addPalette_29 : decode b_Feed_addPalette 29 = .ok (.iload_n 1, 1) := by decide +kernel
theorem d_Feed_addPalette_30 : decode b_Feed_addPalette 30 = .ok (.iaload, 1) := by decide +kernel
theorem d_Feed_addPalette_31 : decode b_Feed_addPalette 31 = .ok (.invokevirtual 51, 3) := by decide +kernel
theorem d_Feed_addPalette_34 : decode b_Feed_addPalette 34 = .ok (.iinc 1 1, 3) := by decide +kernel
theorem d_Feed_addPalette_37 : decode b_Feed_addPalette 37 = .ok (.goto (-35), 3) := by decide +kernel
theorem d_Feed_addPalette_40 : decode b_Feed_addPalette 40 = .ok (.return_, 1) := by decide +kernel
theorem d_Feed_addBits_0 : decode b_Feed_addBits 0 = .ok (.iconst 0, 1) := by decide +kernel
theorem d_Feed_addBits_1 : decode b_Feed_addBits 1 = .ok (.istore 4, 2) := by decide +kernel
theorem d_Feed_addBits_3 : decode b_Feed_addBits 3 = .ok (.iconst 0, 1) := by decide +kernel
theorem d_Feed_addBits_4 : decode b_Feed_addBits 4 = .ok (.istore 5, 2) := by decide +kernel
theorem d_Feed_addBits_6 : decode b_Feed_addBits 6 = .ok (.iconst 0, 1) := by decide +kernel
theorem d_Feed_addBits_7 : decode b_Feed_addBits 7 = .ok (.istore 6, 2) := by decide +kernel
theorem d_Feed_addBits_9 : decode b_Feed_addBits 9 = .ok (.iload 6, 2) := by decide +kernel
theorem d_Feed_addBits_11 : decode b_Feed_addBits 11 = .ok (.bipush 64, 2) := by decide +kernel
theorem d_Feed_addBits_13 : decode b_Feed_addBits 13 = .ok (.if_icmp .ge 58, 3) := by decide +kernel
theorem d_Feed_addBits_16 : decode b_Feed_addBits 16 = .ok (.iload 4, 2) := by decide +kernel
theorem d_Feed_addBits_18 : decode b_Feed_addBits 18 = .ok (.iload_n 3, 1) := by decide +kernel
theorem d_Feed_addBits_19 : decode b_Feed_addBits 19 = .ok (.ishl, 1) := by decide +kernel
theorem d_Feed_addBits_20 : decode b_Feed_addBits 20 = .ok (.aload_n 0, 1) := by decide +kernel
theorem d_Feed_addBits_21 : decode b_Feed_addBits 21 = .ok (.getfield 41, 3) := by decide +kernel
theorem d_Feed_addBits_24 : decode b_Feed_addBits 24 = .ok (.aload_n 1, 1) := by decide +kernel
theorem d_Feed_addBits_25 : decode b_Feed_addBits 25 = .ok (.iload_n 2, 1) := by decide +kernel
theorem d_Feed_addBits_26 : decode b_Feed_addBits 26 = .ok (.iload 6, 2) := by decide +kernel
theorem d_Feed_addBits_28 : decode b_Feed_addBits 28 = .ok (.invokevirtual 145, 3) := by decide +kernel
theorem d_Feed_addBits_31 : decode b_Feed_addBits 31 = .ok (.invokevirtual 149, 3) := by decide +kernel
theorem d_Feed_addBits_34 : decode b_Feed_addBits 34 = .ok (.ior, 1) := by decide +kernel
theorem d_Feed_addBits_35 : decode b_Feed_addBits 35 = .ok (.istore 4, 2) := by decide +kernel
theorem d_Feed_addBits_37 : decode b_Feed_addBits 37 = .ok (.iload 5, 2) := by decide +kernel
theorem d_Feed_addBits_39 : decode b_Feed_addBits 39 = .ok (.iload_n 3, 1) := by decide +kernel
theorem d_Feed_addBits_40 : decode b_Feed_addBits 40 = .ok (.iadd, 1) := by decide +kernel
theorem d_Feed_addBits_41 : decode b_Feed_addBits 41 = .ok (.istore 5, 2) := by decide +kernel
theorem d_Feed_addBits_43 : decode b_Feed_addBits 43 = .ok (.iload 5, 2) := by decide +kernel
theorem d_Feed_addBits_45 : decode b_Feed_addBits 45 = .ok (.bipush 8, 2) := by decide +kernel
theorem d_Feed_addBits_47 : decode b_Feed_addBits 47 = .ok (.if_icmp .ne 18, 3) := by decide +kernel
theorem d_Feed_addBits_50 : decode b_Feed_addBits 50 = .ok (.aload_n 0, 1) := by decide +kernel
theorem d_Feed_addBits_51 : decode b_Feed_addBits 51 = .ok (.getfield 30, 3) := by decide +kernel
theorem d_Feed_addBits_54 : decode b_Feed_addBits 54 = .ok (.iload 4, 2) := by decide +kernel
theorem d_Feed_addBits_56 : decode b_Feed_addBits 56 = .ok (.invokevirtual 48, 3) := by decide +kernel
theorem d_Feed_addBits_59 : decode b_Feed_addBits 59 = .ok (.iconst 0, 1) := by decide +kernel
theorem d_Feed_addBits_60 : decode b_Feed_addBits 60 = .ok (.istore 4, 2) := by decide +kernel
theorem d_Feed_addBits_62 : decode b_Feed_addBits 62 = .ok (.iconst 0, 1) := by decide +kernel
theorem d_Feed_addBits_63 : decode b_Feed_addBits 63 = .ok (.istore 5, 2) := by decide +kernel
theorem d_Feed_addBits_65 : decode b_Feed_addBits 65 = .ok (.iinc 6 1, 3) := by decide +kernel
theorem d_Feed_addBits_68 : decode b_Feed_addBits 68 = .ok (.goto (-59), 3) := by decide +kernel
theorem d_Feed_addBits_71 : decode b_Feed_addBits 71 = .ok (.return_, 1) := by decide +kernel
theorem d_Feed_addRuns_0 : decode b_Feed_addRuns 0 = .ok (.aload_n 0, 1) := by decide +kernel
theorem d_Feed_addRuns_1 : decode b_Feed_addRuns 1 = .ok (.getfield 30, 3) := by decide +kernel
theorem d_Feed_addRuns_4 : decode b_Feed_addRuns 4 = .ok (.aload_n 0, 1) := by decide +kernel
theorem d_Feed_addRuns_5 : decode b_Feed_addRuns 5 = .ok (.getfield 41, 3) := by decide +kernel
theorem d_Feed_addRuns_8 : decode b_Feed_addRuns 8 = .ok (.getfield 126, 3) := by decide +kernel
theorem d_Feed_addRuns_11 : decode b_Feed_addRuns 11 = .ok (.invokevirtual 48, 3) := by decide +kernel
theorem d_Feed_addRuns_14 : decode b_Feed_addRuns 14 = .ok (.iconst 0, 1) := by decide +kernel
theorem d_Feed_addRuns_15 : decode b_Feed_addRuns 15 = .ok (.istore_n 3, 1) := by decide +kernel
theorem d_Feed_addRuns_16 : decode b_Feed_addRuns 16 = .ok (.iconst 0, 1) := by decide +kernel
theorem d_Feed_addRuns_17 : decode b_Feed_addRuns 17 = .ok (.istore 4, 2) := by decide +kernel
theorem d_Feed_addRuns_19 : decode b_Feed_addRuns 19 = .ok (.iload 4, 2) := by decide +kernel
theorem d_Feed_addRuns_21 : decode b_Feed_addRuns 21 = .ok (.bipush 64, 2) := by decide +kernel
theorem d_Feed_addRuns_23 : decode b_Feed_addRuns 23 = .ok (.if_icmp .ge 61, 3) := by decide +kernel
theorem d_Feed_addRuns_26 : decode b_Feed_addRuns 26 = .ok (.aload_n 1, 1) := by decide +kernel
theorem d_Feed_addRuns_27 : decode b_Feed_addRuns 27 = .ok (.iload_n 2, 1) := by decide +kernel
theorem d_Feed_addRuns_28 : decode b_Feed_addRuns 28 = .ok (.iload 4, 2) := by decide +kernel
theorem d_Feed_addRuns_30 : decode b_Feed_addRuns 30 = .ok (.invokevirtual 145, 3) := by decide +kernel
theorem d_Feed_addRuns_33 : decode b_Feed_addRuns 33 = .ok (.istore 5, 2) := by decide +kernel
theorem d_Feed_addRuns_35 : decode b_Feed_addRuns 35 = .ok (.iinc 3 1, 3) := by decide +kernel
theorem d_Feed_addRuns_38 : decode b_Feed_addRuns 38 = .ok (.iload 4, 2) := by decide +kernel
theorem d_Feed_addRuns_40 : decode b_Feed_addRuns 40 = .ok (.bipush 63, 2) := by decide +kernel
theorem d_Feed_addRuns_42 : decode b_Feed_addRuns 42 = .ok (.if_icmp .eq 17, 3) := by decide +kernel
theorem d_Feed_addRuns_45 : decode b_Feed_addRuns 45 = .ok (.aload_n 1, 1) := by decide +kernel
theorem d_Feed_addRuns_46 : decode b_Feed_addRuns 46 = .ok (.iload_n 2, 1) := by decide +kernel
theorem d_Feed_addRuns_47 : decode b_Feed_addRuns 47 = .ok (.iload 4, 2) := by decide +kernel
theorem d_Feed_addRuns_49 : decode b_Feed_addRuns 49 = .ok (.iconst 1, 1) := by decide +kernel
theorem d_Feed_addRuns_50 : decode b_Feed_addRuns 50 = .ok (.iadd, 1) := by decide +kernel
theorem d_Feed_addRuns_51 : decode b_Feed_addRuns 51 = .ok (.invokevirtual 145, 3) := by decide +kernel
theorem d_Feed_addRuns_54 : decode b_Feed_addRuns 54 = .ok (.iload 5, 2) := by decide +kernel
theorem d_Feed_addRuns_56 : decode b_Feed_addRuns 56 = .ok (.if_icmp .eq 22, 3) := by decide +kernel
theorem d_Feed_addRuns_59 : decode b_Feed_addRuns 59 = .ok (.aload_n 0, 1) := by decide +kernel
theorem d_Feed_addRuns_60 : decode b_Feed_addRuns 60 = .ok (.getfield 30, 3) := by decide +kernel
theorem d_Feed_addRuns_63 : decode b_Feed_addRuns 63 = .ok (.iload_n 3, 1) := by decide +kernel
theorem d_Feed_addRuns_64 : decode b_Feed_addRuns 64 = .ok (.invokevirtual 48, 3) := by decide +kernel
theorem d_Feed_addRuns_67 : decode b_Feed_addRuns 67 = .ok (.aload_n 0, 1) := by decide +kernel
theorem d_Feed_addRuns_68 : decode b_Feed_addRuns 68 = .ok (.getfield 30, 3) := by decide +kernel
theorem d_Feed_addRuns_71 : decode b_Feed_addRuns 71 = .ok (.iload 5, 2) := by decide +kernel
theorem d_Feed_addRuns_73 : decode b_Feed_addRuns 73 = .ok (.invokevirtual 51, 3) := by decide +kernel
theorem d_Feed_addRuns_76 : decode b_Feed_addRuns 76 = .ok (.iconst 0, 1) := by decide +kernel
theorem d_Feed_addRuns_77 : decode b_Feed_addRuns 77 = .ok (.istore_n 3, 1) := by decide +kernel
theorem d_Feed_addRuns_78 : decode b_Feed_addRuns 78 = .ok (.iinc 4 1, 3) := by decide +kernel
theorem d_Feed_addRuns_81 : decode b_Feed_addRuns 81 = .ok (.goto (-62), 3) := by decide +kernel
theorem d_Feed_addRuns_84 : decode b_Feed_addRuns 84 = .ok (.return_, 1) := by decide +kernel
theorem d_Feed_addRaw_0 : decode b_Feed_addRaw 0 = .ok (.iconst 0, 1) := by decide +kernel
theorem d_Feed_addRaw_1 : decode b_Feed_addRaw 1 = .ok (.istore_n 3, 1) := by decide +kernel
theorem d_Feed_addRaw_2 : decode b_Feed_addRaw 2 = .ok (.iload_n 3, 1) := by decide +kernel
theorem d_Feed_addRaw_3 : decode b_Feed_addRaw 3 = .ok (.bipush 64, 2) := by decide +kernel
theorem d_Feed_addRaw_5 : decode b_Feed_addRaw 5 = .ok (.if_icmp .ge 22, 3) := by decide +kernel
theorem d_Feed_addRaw_8 : decode b_Feed_addRaw 8 = .ok (.aload_n 0, 1) := by decide +kernel
theorem d_Feed_addRaw_9 : decode b_Feed_addRaw 9 = .ok (.getfield 30, 3) := by decide +kernel
theorem d_Feed_addRaw_12 : decode b_Feed_addRaw 12 = .ok (.aload_n 1, 1) := by decide +kernel
theorem d_Feed_addRaw_13 : decode b_Feed_addRaw 13 = .ok (.iload_n 2, 1) := by decide +kernel
theorem d_Feed_addRaw_14 : decode b_Feed_addRaw 14 = .ok (.iload_n 3, 1) := by decide +kernel
theorem d_Feed_addRaw_15 : decode b_Feed_addRaw 15 = .ok (.invokevirtual 145, 3) := by decide +kernel
theorem d_Feed_addRaw_18 : decode b_Feed_addRaw 18 = .ok (.invokevirtual 51, 3) := by decide +kernel
theorem d_Feed_addRaw_21 : decode b_Feed_addRaw 21 = .ok (.iinc 3 1, 3) := by decide +kernel
theorem d_Feed_addRaw_24 : decode b_Feed_addRaw 24 = .ok (.goto (-22), 3) := by decide +kernel
theorem d_Feed_addRaw_27 : decode b_Feed_addRaw 27 = .ok (.return_, 1) := by decide +kernel
theorem d_Display_init_0 : decode b_Display_init 0 = .ok (.aload_n 0, 1) := by decide +kernel
theorem d_Display_init_1 : decode b_Display_init 1 = .ok (.invokespecial 3, 3) := by decide +kernel
theorem d_Display_init_4 : decode b_Display_init 4 = .ok (.aload_n 0, 1) := by decide +kernel
theorem d_Display_init_5 : decode b_Display_init 5 = .ok (.new 9, 3) := by decide +kernel
theorem d_Display_init_8 : decode b_Display_init 8 = .ok (.dup, 1) := by decide +kernel
theorem d_Display_init_9 : decode b_Display_init 9 = .ok (.bipush 48, 2) := by decide +kernel
theorem d_Display_init_11 : decode b_Display_init 11 = .ok (.invokespecial 11, 3) := by decide +kernel
theorem d_Display_init_14 : decode b_Display_init 14 = .ok (.putfield 14, 3) := by decide +kernel
theorem d_Display_init_17 : decode b_Display_init 17 = .ok (.aload_n 0, 1) := by decide +kernel
theorem d_Display_init_18 : decode b_Display_init 18 = .ok (.new 9, 3) := by decide +kernel
theorem d_Display_init_21 : decode b_Display_init 21 = .ok (.dup, 1) := by decide +kernel
theorem d_Display_init_22 : decode b_Display_init 22 = .ok (.bipush 48, 2) := by decide +kernel
theorem d_Display_init_24 : decode b_Display_init 24 = .ok (.invokespecial 11, 3) := by decide +kernel
theorem d_Display_init_27 : decode b_Display_init 27 = .ok (.putfield 20, 3) := by decide +kernel
theorem d_Display_init_30 : decode b_Display_init 30 = .ok (.aload_n 0, 1) := by decide +kernel
theorem d_Display_init_31 : decode b_Display_init 31 = .ok (.new 23, 3) := by decide +kernel
theorem d_Display_init_34 : decode b_Display_init 34 = .ok (.dup, 1) := by decide +kernel
theorem d_Display_init_35 : decode b_Display_init 35 = .ok (.invokespecial 25, 3) := by decide +kernel
theorem d_Display_init_38 : decode b_Display_init 38 = .ok (.putfield 26, 3) := by decide +kernel
theorem d_Display_init_41 : decode b_Display_init 41 = .ok (.aload_n 0, 1) := by decide +kernel
theorem d_Display_init_42 : decode b_Display_init 42 = .ok (.sipush 6247, 3) := by decide +kernel
theorem d_Display_init_45 : decode b_Display_init 45 = .ok (.newarray .int, 2) := by decide +kernel
theorem d_Display_init_47 : decode b_Display_init 47 = .ok (.putfield 30, 3) := by decide +kernel
theorem d_Display_init_50 : decode b_Display_init 50 = .ok (.aload_n 0, 1) := by decide +kernel
theorem d_Display_init_51 : decode b_Display_init 51 = .ok (.iconst 4, 1) := by decide +kernel
theorem d_Display_init_52 : decode b_Display_init 52 = .ok (.newarray .int, 2) := by decide +kernel
theorem d_Display_init_54 : decode b_Display_init 54 = .ok (.putfield 34, 3) := by decide +kernel
theorem d_Display_init_57 : decode b_Display_init 57 = .ok (.return_, 1) := by decide +kernel
theorem d_Display_forget_0 : decode b_Display_forget 0 = .ok (.aload_n 0, 1) := by decide +kernel
theorem d_Display_forget_1 : decode b_Display_forget 1 = .ok (.iconst 0, 1) := by decide +kernel
theorem d_Display_forget_2 : decode b_Display_forget 2 = .ok (.putfield 37, 3) := by decide +kernel
theorem d_Display_forget_5 : decode b_Display_forget 5 = .ok (.aload_n 0, 1) := by decide +kernel
theorem d_Display_forget_6 : decode b_Display_forget 6 = .ok (.getfield 26, 3) := by decide +kernel
theorem d_Display_forget_9 : decode b_Display_forget 9 = .ok (.invokevirtual 41, 3) := by decide +kernel
theorem d_Display_forget_12 : decode b_Display_forget 12 = .ok (.return_, 1) := by decide +kernel
theorem d_Display_receive_0 : decode b_Display_receive 0 = .ok (.aload_n 0, 1) := by decide +kernel
theorem d_Display_receive_1 : decode b_Display_receive 1 = .ok (.getfield 37, 3) := by decide +kernel
theorem d_Display_receive_4 : decode b_Display_receive 4 = .ok (.sipush 6247, 3) := by decide +kernel
theorem d_Display_receive_7 : decode b_Display_receive 7 = .ok (.if_icmp .ge 23, 3) := by decide +kernel
theorem d_Display_receive_10 : decode b_Display_receive 10 = .ok (.aload_n 0, 1) := by decide +kernel
theorem d_Display_receive_11 : decode b_Display_receive 11 = .ok (.getfield 30, 3) := by decide +kernel
theorem d_Display_receive_14 : decode b_Display_receive 14 = .ok (.aload_n 0, 1) := by decide +kernel
theorem d_Display_receive_15 : decode b_Display_receive 15 = .ok (.getfield 37, 3) := by decide +kernel
theorem d_Display_receive_18 : decode b_Display_receive 18 = .ok (.iload_n 1, 1) := by decide +kernel
theorem d_Display_receive_19 : decode b_Display_receive 19 = .ok (.iastore, 1) := by decide +kernel
theorem d_Display_receive_20 : decode b_Display_receive 20 = .ok (.aload_n 0, 1) := by decide +kernel
theorem d_Display_receive_21 : decode b_Display_receive 21 = .ok (.dup, 1) := by decide +kernel
theorem d_Display_receive_22 : decode b_Display_receive 22 = .ok (.getfield 37, 3) := by decide +kernel
theorem d_Display_receive_25 : decode b_Display_receive 25 = .ok (.iconst 1, 1) := by decide +kernel
theorem d_Display_receive_26 : decode b_Display_receive 26 = .ok (.iadd, 1) := by decide +kernel
theorem d_Display_receive_27 : decode b_Display_receive 27 = .ok (.putfield 37, 3) := by decide +kernel
theorem d_Display_receive_30 : decode b_Display_receive 30 = .ok (.aload_n 0, 1) := by decide +kernel
theorem d_Display_receive_31 : decode b_Display_receive 31 = .ok (.getfield 37, 3) := by decide +kernel
theorem d_Display_receive_34 : decode b_Display_receive 34 = .ok (.iconst 3, 1) := by decide +kernel
theorem d_Display_receive_35 : decode b_Display_receive 35 = .ok (.if_icmp .ge 5, 3) := by decide +kernel
theorem d_Display_receive_38 : decode b_Display_receive 38 = .ok (.iconst 1, 1) := by decide +kernel
theorem d_Display_receive_39 : decode b_Display_receive 39 = .ok (.ireturn, 1) := by decide +kernel
theorem d_Display_receive_40 : decode b_Display_receive 40 = .ok (.aload_n 0, 1) := by decide +kernel
theorem d_Display_receive_41 : decode b_Display_receive 41 = .ok (.getfield 30, 3) := by decide +kernel
theorem d_Display_receive_44 : decode b_Display_receive 44 = .ok (.iconst 0, 1) := by decide +kernel
theorem d_Display_receive_45 : decode b_Display_receive 45 = .ok (.iaload, 1) := by decide +kernel
theorem d_Display_receive_46 : decode b_Display_receive 46 = .ok (.bipush 16, 2) := by decide +kernel
theorem d_Display_receive_48 : decode b_Display_receive 48 = .ok (.ishl, 1) := by decide +kernel
theorem d_Display_receive_49 : decode b_Display_receive 49 = .ok (.aload_n 0, 1) := by decide +kernel
theorem d_Display_receive_50 : decode b_Display_receive 50 = .ok (.getfield 30, 3) := by decide +kernel
theorem d_Display_receive_53 : decode b_Display_receive 53 = .ok (.iconst 1, 1) := by decide +kernel
theorem d_Display_receive_54 : decode b_Display_receive 54 = .ok (.iaload, 1) := by decide +kernel
theorem d_Display_receive_55 : decode b_Display_receive 55 = .ok (.bipush 8, 2) := by decide +kernel
theorem d_Display_receive_57 : decode b_Display_receive 57 = .ok (.ishl, 1) := by decide +kernel
theorem d_Display_receive_58 : decode b_Display_receive 58 = .ok (.ior, 1) := by decide +kernel
theorem d_Display_receive_59 : decode b_Display_receive 59 = .ok (.aload_n 0, 1) := by decide +kernel
theorem d_Display_receive_60 : decode b_Display_receive 60 = .ok (.getfield 30, 3) := by decide +kernel
theorem d_Display_receive_63 : decode b_Display_receive 63 = .ok (.iconst 2, 1) := by decide +kernel
theorem d_Display_receive_64 : decode b_Display_receive 64 = .ok (.iaload, 1) := by decide +kernel
theorem d_Display_receive_65 : decode b_Display_receive 65 = .ok (.ior, 1) := by decide +kernel
theorem d_Display_receive_66 : decode b_Display_receive 66 = .ok (.istore_n 2, 1) := by decide +kernel
theorem d_Display_receive_67 : decode b_Display_receive 67 = .ok (.iload_n 2, 1) := by decide +kernel
theorem d_Display_receive_68 : decode b_Display_receive 68 = .ok (.iconst 4, 1) := by decide +kernel
theorem d_Display_receive_69 : decode b_Display_receive 69 = .ok (.if_icmp .lt 10, 3) := by decide +kernel
theorem d_Display_receive_72 : decode b_Display_receive 72 = .ok (.iload_n 2, 1) := by decide +kernel
theorem d_Display_receive_73 : decode b_Display_receive 73 = .ok (.sipush 6244, 3) := by decide +kernel
theorem d_Display_receive_76 : decode b_Display_receive 76 = .ok (.if_icmp .le 5, 3) := by decide +kernel
theorem d_Display_receive_79 : decode b_Display_receive 79 = .ok (.iconst 0, 1) := by decide +kernel
theorem d_Display_receive_80 : decode b_Display_receive 80 = .ok (.ireturn, 1) := by decide +kernel
theorem d_Display_receive_81 : decode b_Display_receive 81 = .ok (.aload_n 0, 1) := by decide +kernel
theorem d_Display_receive_82 : decode b_Display_receive 82 = .ok (.getfield 37, 3) := by decide +kernel
theorem d_Display_receive_85 : decode b_Display_receive 85 = .ok (.iconst 3, 1) := by decide +kernel
theorem d_Display_receive_86 : decode b_Display_receive 86 = .ok (.iload_n 2, 1) := by decide +kernel
theorem d_Display_receive_87 : decode b_Display_receive 87 = .ok (.iadd, 1) := by decide +kernel
theorem d_Display_receive_88 : decode b_Display_receive 88 = .ok (.if_icmp .lt 10, 3) := by decide +kernel
theorem d_Display_receive_91 : decode b_Display_receive 91 = .ok (.aload_n 0, 1) := by decide +kernel
theorem d_Display_receive_92 : decode b_Display_receive 92 = .ok (.invokevirtual 44, 3) := by decide +kernel
theorem d_Display_receive_95 : decode b_Display_receive 95 = .ok (.ifCond .eq 7, 3) := by decide +kernel
theorem d_Display_receive_98 : decode b_Display_receive 98 = .ok (.iconst 1, 1) := by decide +kernel
theorem d_Display_receive_99 : decode b_Display_receive 99 = .ok (.goto 4, 3) := by decide +kernel
theorem d_Display_receive_102 : decode b_Display_receive 102 = .ok (.iconst 0, 1) := by decide +kernel
theorem d_Display_receive_103 : decode b_Display_receive 103 = .ok (.ireturn, 1) := by decide +kernel
theorem d_Display_readUpdate_0 : decode b_Display_readUpdate 0 = .ok (.aload_n 0, 1) := by decide +kernel
theorem d_Display_readUpdate_1 : decode b_Display_readUpdate 1 = .ok (.iconst 5, 1) := by decide +kernel
theorem d_Display_readUpdate_2 : decode b_Display_readUpdate 2 = .ok (.putfield 48, 3) := by decide +kernel
theorem d_Display_readUpdate_5 : decode b_Display_readUpdate 5 = .ok (.aload_n 0, 1) := by decide +kernel
theorem d_Display_readUpdate_6 : decode b_Display_readUpdate 6 = .ok (.aload_n 0, 1) := by decide +kernel
theorem d_Display_readUpdate_7 : decode b_Display_readUpdate 7 = .ok (.getfield 37, 3) := by decide +kernel
theorem d_Display_readUpdate_10 : decode b_Display_readUpdate 10 = .ok (.iconst 2, 1) := by decide +kernel
theorem d_Display_readUpdate_11 : decode b_Display_readUpdate 11 = .ok (.isub, 1) := by decide +kernel
theorem d_Display_readUpdate_12 : decode b_Display_readUpdate 12 = .ok (.putfield 51, 3) := by decide +kernel
theorem d_Display_readUpdate_15 : decode b_Display_readUpdate 15 = .ok (.aload_n 0, 1) := by decide +kernel
theorem d_Display_readUpdate_16 : decode b_Display_readUpdate 16 = .ok (.aload_n 0, 1) := by decide +kernel
theorem d_Display_readUpdate_17 : decode b_Display_readUpdate 17 = .ok (.getfield 30, 3) := by decide +kernel
theorem d_Display_readUpdate_20 : decode b_Display_readUpdate 20 = .ok (.iconst 3, 1) := by decide +kernel
theorem d_Display_readUpdate_21 : decode b_Display_readUpdate 21 = .ok (.aload_n 0, 1) := by decide +kernel
theorem d_Display_readUpdate_22 : decode b_Display_readUpdate 22 = .ok (.getfield 51, 3) := by decide +kernel
theorem d_Display_readUpdate_25 : decode b_Display_readUpdate 25 = .ok (.invokestatic 54, 3) := by decide +kernel
theorem d_Display_readUpdate_28 : decode b_Display_readUpdate 28 = .ok (.aload_n 0, 1) := by decide +kernel
theorem d_Display_readUpdate_29 : decode b_Display_readUpdate 29 = .ok (.aload_n 0, 1) := by decide +kernel
theorem d_Display_readUpdate_30 : decode b_Display_readUpdate 30 = .ok (.getfield 51, 3) := by decide +kernel
theorem d_Display_readUpdate_33 : decode b_Display_readUpdate 33 = .ok (.invokevirtual 58, 3) := by decide +kernel
theorem d_Display_readUpdate_36 : decode b_Display_readUpdate 36 = .ok (.if_icmp .eq 7, 3) := by decide +kernel
theorem d_Display_readUpdate_39 : decode b_Display_readUpdate 39 = .ok (.iconst 1, 1) := by decide +kernel
theorem d_Display_readUpdate_40 : decode b_Display_readUpdate 40 = .ok (.goto 4, 3) := by decide +kernel
theorem d_Display_readUpdate_43 : decode b_Display_readUpdate 43 = .ok (.iconst 0, 1) := by decide +kernel
theorem d_Display_readUpdate_44 : decode b_Display_readUpdate 44 = .ok (.putfield 62, 3) := by decide +kernel
theorem d_Display_readUpdate_47 : decode b_Display_readUpdate 47 = .ok (.aload_n 0, 1) := by decide +kernel
theorem d_Display_readUpdate_48 : decode b_Display_readUpdate 48 = .ok (.getfield 20, 3) := by decide +kernel
theorem d_Display_readUpdate_51 : decode b_Display_readUpdate 51 = .ok (.aload_n 0, 1) := by decide +kernel
theorem d_Display_readUpdate_52 : decode b_Display_readUpdate 52 = .ok (.getfield 14, 3) := by decide +kernel
theorem d_Display_readUpdate_55 : decode b_Display_readUpdate 55 = .ok (.invokevirtual 66, 3) := by decide +kernel
theorem d_Display_readUpdate_58 : decode b_Display_readUpdate 58 = .ok (.iconst 0, 1) := by decide +kernel
theorem d_Display_readUpdate_59 : decode b_Display_readUpdate 59 = .ok (.istore_n 1, 1) := by decide +kernel
theorem d_Display_readUpdate_60 : decode b_Display_readUpdate 60 = .ok (.iload_n 1, 1) := by decide +kernel
theorem d_Display_readUpdate_61 : decode b_Display_readUpdate 61 = .ok (.sipush 6244, 3) := by decide +kernel
theorem d_Display_readUpdate_64 : decode b_Display_readUpdate 64 = .ok (.if_icmp .ge 31, 3) := by decide +kernel
theorem d_Display_readUpdate_67 : decode b_Display_readUpdate 67 = .ok (.aload_n 0, 1) := by decide +kernel
theorem d_Display_readUpdate_68 : decode b_Display_readUpdate 68 = .ok (.getfield 48, 3) := by decide +kernel
theorem d_Display_readUpdate_71 : decode b_Display_readUpdate 71 = .ok (.aload_n 0, 1) := by decide +kernel
theorem d_Display_readUpdate_72 : decode b_Display_readUpdate 72 = .ok (.getfield 51, 3) := by decide +kernel
theorem d_Display_readUpdate_75 : decode b_Display_readUpdate 75 = .ok (.if_icmp .ge 20, 3) := by decide +kernel
theorem d_Display_readUpdate_78 : decode b_Display_readUpdate 78 = .ok (.aload_n 0, 1) := by decide +kernel
theorem d_Display_readUpdate_79 : decode b_Display_readUpdate 79 = .ok (.getfield 62, 3) := by decide +kernel
theorem d_Display_readUpdate_82 : decode b_Display_readUpdate 82 = .ok (.ifCond .ne 13, 3) := by decide +kernel
theorem d_Display_readUpdate_85 : decode b_Display_readUpdate 85 = .ok (.aload_n 0, 1) := by decide +kernel
theorem d_Display_readUpdate_86 : decode b_Display_readUpdate 86 = .ok (.invokevirtual 70, 3) := by decide +kernel
theorem d_Display_readUpdate_89 : decode b_Display_readUpdate 89 = .ok (.iinc 1 1, 3) := by decide +kernel
theorem d_Display_readUpdate_92 : decode b_Display_readUpdate 92 = .ok (.goto (-32), 3) := by decide +kernel
theorem d_Display_readUpdate_95 : decode b_Display_readUpdate 95 = .ok (.aload_n 0, 1) := by decide +kernel
theorem d_Display_readUpdate_96 : decode b_Display_readUpdate 96 = .ok (.getfield 62, 3) := by decide +kernel
theorem d_Display_readUpdate_99 : decode b_Display_readUpdate 99 = .ok (.ifCond .eq 5, 3) := by decide +kernel
theorem d_Display_readUpdate_102 : decode b_Display_readUpdate 102 = .ok (.iconst 0, 1) := by decide +kernel
theorem d_Display_readUpdate_103 : decode b_Display_readUpdate 103 = .ok (.ireturn, 1) := by decide +kernel
theorem d_Display_readUpdate_104 : decode b_Display_readUpdate 104 = .ok (.aload_n 0, 1) := by decide +kernel
theorem d_Display_readUpdate_105 : decode b_Display_readUpdate 105 = .ok (.getfield 14, 3) := by decide +kernel
theorem d_Display_readUpdate_108 : decode b_Display_readUpdate 108 = .ok (.aload_n 0, 1) := by decide +kernel
theorem d_Display_readUpdate_109 : decode b_Display_readUpdate 109 = .ok (.getfield 20, 3) := by decide +kernel
theorem d_Display_readUpdate_112 : decode b_Display_readUpdate 112 = .ok (.invokevirtual 66, 3) := by decide +kernel
theorem d_Display_readUpdate_115 : decode b_Display_readUpdate 115 = .ok (.aload_n 0, 1) := by decide +kernel
theorem d_Display_readUpdate_116 : decode b_Display_readUpdate 116 = .ok (.aload_n 0, 1) := by decide +kernel
theorem d_Display_readUpdate_117 : decode b_Display_readUpdate 117 = .ok (.getfield 73, 3) := by decide +kernel
theorem d_Display_readUpdate_120 : decode b_Display_readUpdate 120 = .ok (.aload_n 0, 1) := by decide +kernel
theorem d_Display_readUpdate_121 : decode b_Display_readUpdate 121 = .ok (.iconst 3, 1) := by decide +kernel
theorem d_Display_readUpdate_122 : decode b_Display_readUpdate 122 = .ok (.invokevirtual 58, 3) := by decide +kernel
theorem d_Display_readUpdate_125 : decode b_Display_readUpdate 125 = .ok (.invokestatic 77, 3) := by decide +kernel
theorem d_Display_readUpdate_128 : decode b_Display_readUpdate 128 = .ok (.putfield 73, 3) := by decide +kernel
theorem d_Display_readUpdate_131 : decode b_Display_readUpdate 131 = .ok (.aload_n 0, 1) := by decide +kernel
theorem d_Display_readUpdate_132 : decode b_Display_readUpdate 132 = .ok (.iconst 0, 1) := by decide +kernel
theorem d_Display_readUpdate_133 : decode b_Display_readUpdate 133 = .ok (.putfield 37, 3) := by decide +kernel
theorem d_Display_readUpdate_136 : decode b_Display_readUpdate 136 = .ok (.iconst 1, 1) := by decide +kernel
theorem d_Display_readUpdate_137 : decode b_Display_readUpdate 137 = .ok (.ireturn, 1) := by decide +kernel
theorem d_Display_numberAbove_0 : decode b_Display_numberAbove 0 = .ok (.lload_n 0, 1) := by decide +kernel
theorem d_Display_numberAbove_1 : decode b_Display_numberAbove 1 = .ok (.lconst 1, 1) := by decide +kernel
theorem d_Display_numberAbove_2 : decode b_Display_numberAbove 2 = .ok (.ladd, 1) := by decide +kernel
theorem d_Display_numberAbove_3 : decode b_Display_numberAbove 3 = .ok (.iload_n 2, 1) := by decide +kernel
theorem d_Display_numberAbove_4 : decode b_Display_numberAbove 4 = .ok (.i2l, 1) := by decide +kernel
theorem d_Display_numberAbove_5 : decode b_Display_numberAbove 5 = .ok (.lload_n 0, 1) := by decide +kernel
theorem d_Display_numberAbove_6 : decode b_Display_numberAbove 6 = .ok (.lsub, 1) := by decide +kernel
theorem d_Display_numberAbove_7 : decode b_Display_numberAbove 7 = .ok (.lconst 1, 1) := by decide +kernel
theorem d_Display_numberAbove_8 : decode b_Display_numberAbove 8 = .ok (.lsub, 1) := by decide +kernel
theorem d_Display_numberAbove_9 : decode b_Display_numberAbove 9 = .ok (.ldc2_w 81, 3) := by decide +kernel
theorem d_Display_numberAbove_12 : decode b_Display_numberAbove 12 = .ok (.land, 1) := by decide +kernel
theorem d_Display_numberAbove_13 : decode b_Display_numberAbove 13 = .ok (.ladd, 1) := by decide +kernel
theorem d_Display_numberAbove_14 : decode b_Display_numberAbove 14 = .ok (.lreturn, 1) := by decide +kernel
theorem d_Display_pairAt_0 : decode b_Display_pairAt 0 = .ok (.aload_n 0, 1) := by decide +kernel
theorem d_Display_pairAt_1 : decode b_Display_pairAt 1 = .ok (.getfield 30, 3) := by decide +kernel
theorem d_Display_pairAt_4 : decode b_Display_pairAt 4 = .ok (.iload_n 1, 1) := by decide +kernel
theorem d_Display_pairAt_5 : decode b_Display_pairAt 5 = .ok (.iaload, 1) := by decide +kernel
theorem d_Display_pairAt_6 : decode b_Display_pairAt 6 = .ok (.bipush 8, 2) := by decide +kernel
theorem d_Display_pairAt_8 : decode b_Display_pairAt 8 = .ok (.ishl, 1) := by decide +kernel
theorem d_Display_pairAt_9 : decode b_Display_pairAt 9 = .ok (.aload_n 0, 1) := by decide +kernel
theorem d_Display_pairAt_10 : decode b_Display_pairAt 10 = .ok (.getfield 30, 3) := by decide +kernel
theorem d_Display_pairAt_13 : decode b_Display_pairAt 13 = .ok (.iload_n 1, 1) := by decide +kernel
theorem d_Display_pairAt_14 : decode b_Display_pairAt 14 = .ok (.iconst 1, 1) := by decide +kernel
theorem d_Display_pairAt_15 : decode b_Display_pairAt 15 = .ok (.iadd, 1) := by decide +kernel
theorem d_Display_pairAt_16 : decode b_Display_pairAt 16 = .ok (.iaload, 1) := by decide +kernel
theorem d_Display_pairAt_17 : decode b_Display_pairAt 17 = .ok (.ior, 1) := by decide +kernel
theorem d_Display_pairAt_18 : decode b_Display_pairAt 18 = .ok (.ireturn, 1) := by decide +kernel
theorem d_Display_readRecord_0 : decode b_Display_readRecord 0 = .ok (.aload_n 0, 1) := by decide +kernel
theorem d_Display_readRecord_1 : decode b_Display_readRecord 1 = .ok (.invokevirtual 83, 3) := by decide +kernel
theorem d_Display_readRecord_4 : decode b_Display_readRecord 4 = .ok (.istore_n 1, 1) := by decide +kernel
theorem d_Display_readRecord_5 : decode b_Display_readRecord 5 = .ok (.aload_n 0, 1) := by decide +kernel
theorem d_Display_readRecord_6 : decode b_Display_readRecord 6 = .ok (.invokevirtual 83, 3) := by decide +kernel
theorem d_Display_readRecord_9 : decode b_Display_readRecord 9 = .ok (.istore_n 2, 1) := by decide +kernel
theorem d_Display_readRecord_10 : decode b_Display_readRecord 10 = .ok (.iload_n 2, 1) := by decide +kernel
theorem d_Display_readRecord_11 : decode b_Display_readRecord 11 = .ok (.bipush 48, 2) := by decide +kernel
theorem d_Display_readRecord_13 : decode b_Display_readRecord 13 = .ok (.if_icmp .lt 9, 3) := by decide +kernel
theorem d_Display_readRecord_16 : decode b_Display_readRecord 16 = .ok (.aload_n 0, 1) := by decide +kernel
theorem d_Display_readRecord_17 : decode b_Display_readRecord 17 = .ok (.iconst 1, 1) := by decide +kernel
theorem d_Display_readRecord_18 : decode b_Display_readRecord 18 = .ok (.putfield 62, 3) := by decide +kernel
theorem d_Display_readRecord_21 : decode b_Display_readRecord 21 = .ok (.return_, 1) := by decide +kernel
theorem d_Display_readRecord_22 : decode b_Display_readRecord 22 = .ok (.iload_n 1, 1) := by decide +kernel
theorem d_Display_readRecord_23 : decode b_Display_readRecord 23 = .ok (.tableswitch 131 0 6 #[41, 56, 70, 92, 102, 115, 123], 41) := by decide +kernel
theorem d_Display_readRecord_64 : decode b_Display_readRecord 64 = .ok (.aload_n 0, 1) := by decide +kernel
theorem d_Display_readRecord_65 : decode b_Display_readRecord 65 = .ok (.iload_n 2, 1) := by decide +kernel
theorem d_Display_readRecord_66 : decode b_Display_readRecord 66 = .ok (.iconst 0, 1) := by decide +kernel
theorem d_Display_readRecord_67 : decode b_Display_readRecord 67 = .ok (.bipush 64, 2) := by decide +kernel
theorem d_Display_readRecord_69 : decode b_Display_readRecord 69 = .ok (.aload_n 0, 1) := by decide +kernel
theorem d_Display_readRecord_70 : decode b_Display_readRecord 70 = .ok (.invokevirtual 87, 3) := by decide +kernel
theorem d_Display_readRecord_73 : decode b_Display_readRecord 73 = .ok (.invokevirtual 90, 3) := by decide +kernel
theorem d_Display_readRecord_76 : decode b_Display_readRecord 76 = .ok (.goto 83, 3) := by decide +kernel
theorem d_Display_readRecord_79 : decode b_Display_readRecord 79 = .ok (.aload_n 0, 1) := by decide +kernel
theorem d_Display_readRecord_80 : decode b_Display_readRecord 80 = .ok (.iload_n 2, 1) := by decide +kernel
theorem d_Display_readRecord_81 : decode b_Display_readRecord 81 = .ok (.aload_n 0, 1) := by decide +kernel
theorem d_Display_readRecord_82 : decode b_Display_readRecord 82 = .ok (.getfield 14, 3) := by decide +kernel
theorem d_Display_readRecord_85 : decode b_Display_readRecord 85 = .ok (.bipush 48, 2) := by decide +kernel
theorem d_Display_readRecord_87 : decode b_Display_readRecord 87 = .ok (.invokevirtual 94, 3) := by decide +kernel
theorem d_Display_readRecord_90 : decode b_Display_readRecord 90 = .ok (.goto 69, 3) := by decide +kernel
theorem d_Display_readRecord_93 : decode b_Display_readRecord 93 = .ok (.aload_n 0, 1) := by decide +kernel
theorem d_Display_readRecord_94 : decode b_Display_readRecord 94 = .ok (.iload_n 2, 1) := by decide +kernel
theorem d_Display_readRecord_95 : decode b_Display_readRecord 95 = .ok (.aload_n 0, 1) := by decide +kernel
theorem d_Display_readRecord_96 : decode b_Display_readRecord 96 = .ok (.getfield 26, 3) := by decide +kernel
theorem d_Display_readRecord_99 : decode b_Display_readRecord 99 = .ok (.getfield 98, 3) := by decide +kernel
theorem d_Display_readRecord_102 : decode b_Display_readRecord 102 = .ok (.aload_n 0, 1) := by decide +kernel
theorem d_Display_readRecord_103 : decode b_Display_readRecord 103 = .ok (.getfield 26, 3) := by decide +kernel
theorem d_Display_readRecord_106 : decode b_Display_readRecord 106 = .ok (.getfield 101, 3) := by decide +kernel
theorem d_Display_readRecord_109 : decode b_Display_readRecord 109 = .ok (.invokevirtual 94, 3) := by decide +kernel
theorem d_Display_readRecord_112 : decode b_Display_readRecord 112 = .ok (.goto 47, 3) := by decide +kernel
theorem d_Display_readRecord_115 : decode b_Display_readRecord 115 = .ok (.aload_n 0, 1) := by decide +kernel
theorem d_Display_readRecord_116 : decode b_Display_readRecord 116 = .ok (.iload_n 2, 1) := by decide +kernel
theorem d_Display_readRecord_117 : decode b_Display_readRecord 117 = .ok (.iconst 2, 1) := by decide +kernel
theorem d_Display_readRecord_118 : decode b_Display_readRecord 118 = .ok (.iconst 1, 1) := by decide +kernel
theorem d_Display_readRecord_119 : decode b_Display_readRecord 119 = .ok (.invokevirtual 104, 3) := by decide +kernel
theorem d_Display_readRecord_122 : decode b_Display_readRecord 122 = .ok (.goto 37, 3) := by decide +kernel
theorem d_Display_readRecord_125 : decode b_Display_readRecord 125 = .ok (.aload_n 0, 1) := by decide +kernel
theorem d_Display_readRecord_126 : decode b_Display_readRecord 126 = .ok (.iload_n 2, 1) := by decide +kernel
theorem d_Display_readRecord_127 : decode b_Display_readRecord 127 = .ok (.aload_n 0, 1) := by decide +kernel
theorem d_Display_readRecord_128 : decode b_Display_readRecord 128 = .ok (.invokevirtual 108, 3) := by decide +kernel
theorem d_Display_readRecord_131 : decode b_Display_readRecord 131 = .ok (.iconst 2, 1) := by decide +kernel
theorem d_Display_readRecord_132 : decode b_Display_readRecord 132 = .ok (.invokevirtual 104, 3) := by decide +kernel
theorem d_Display_readRecord_135 : decode b_Display_readRecord 135 = .ok (.goto 24, 3) := by decide +kernel
theorem d_Display_readRecord_138 : decode b_Display_readRecord 138 = .ok (.aload_n 0, 1) := by decide +kernel
theorem d_Display_readRecord_139 : decode b_Display_readRecord 139 = .ok (.iload_n 2, 1) := by decide +kernel
theorem d_Display_readRecord_140 : decode b_Display_readRecord 140 = .ok (.invokevirtual 111, 3) := by decide +kernel
theorem d_Display_readRecord_143 : decode b_Display_readRecord 143 = .ok (.goto 16, 3) := by decide +kernel
theorem d_Display_readRecord_146 : decode b_Display_readRecord 146 = .ok (.aload_n 0, 1) := by decide +kernel
theorem d_Display_readRecord_147 : decode b_Display_readRecord 147 = .ok (.iload_n 2, 1) := by decide +kernel
theorem d_Display_readRecord_148 : decode b_Display_readRecord 148 = .ok (.invokevirtual 114, 3) := by decide +kernel
theorem d_Display_readRecord_151 : decode b_Display_readRecord 151 = .ok (.goto 8, 3) := by decide +kernel
theorem d_Display_readRecord_154 : decode b_Display_readRecord 154 = .ok (.aload_n 0, 1) := by decide +kernel
theorem d_Display_readRecord_155 : decode b_Display_readRecord 155 = .ok (.iconst 1, 1) := by decide +kernel
theorem d_Display_readRecord_156 : decode b_Display_readRecord 156 = .ok (.putfield 62, 3) := by decide +kernel
theorem d_Display_readRecord_159 : decode b_Display_readRecord 159 = .ok (.iload_n 1, 1) := by decide +kernel
theorem d_Display_readRecord_160 : decode b_Display_readRecord 160 = .ok (.iconst 3, 1) := by decide +kernel
theorem d_Display_readRecord_161 : decode b_Display_readRecord 161 = .ok (.if_icmp .lt 22, 3) := by decide +kernel
theorem d_Display_readRecord_164 : decode b_Display_readRecord 164 = .ok (.aload_n 0, 1) := by decide +kernel
theorem d_Display_readRecord_165 : decode b_Display_readRecord 165 = .ok (.getfield 62, 3) := by decide +kernel
theorem d_Display_readRecord_168 : decode b_Display_readRecord 168 = .ok (.ifCond .ne 15, 3) := by decide +kernel
theorem d_Display_readRecord_171 : decode b_Display_readRecord 171 = .ok (.aload_n 0, 1) := by decide +kernel
theorem d_Display_readRecord_172 : decode b_Display_readRecord 172 = .ok (.getfield 26, 3) := by decide +kernel
theorem d_Display_readRecord_175 : decode b_Display_readRecord 175 = .ok (.aload_n 0, 1) := by decide +kernel
theorem d_Display_readRecord_176 : decode b_Display_readRecord 176 = .ok (.getfield 20, 3) := by decide +kernel
theorem d_Display_readRecord_179 : decode b_Display_readRecord 179 = .ok (.iload_n 2, 1) := by decide +kernel
theorem d_Display_readRecord_180 : decode b_Display_readRecord 180 = .ok (.invokevirtual 117, 3) := by decide +kernel
theorem d_Display_readRecord_183 : decode b_Display_readRecord 183 = .ok (.return_, 1) := by decide +kernel
theorem d_Display_readSource_0 : decode b_Display_readSource 0 = .ok (.aload_n 0, 1) := by decide +kernel
theorem d_Display_readSource_1 : decode b_Display_readSource 1 = .ok (.invokevirtual 83, 3) := by decide +kernel
theorem d_Display_readSource_4 : decode b_Display_readSource 4 = .ok (.istore 4, 2) := by decide +kernel
theorem d_Display_readSource_6 : decode b_Display_readSource 6 = .ok (.iload 4, 2) := by decide +kernel
theorem d_Display_readSource_8 : decode b_Display_readSource 8 = .ok (.iload_n 3, 1) := by decide +kernel
theorem d_Display_readSource_9 : decode b_Display_readSource 9 = .ok (.if_icmp .ge 17, 3) := by decide +kernel
theorem d_Display_readSource_12 : decode b_Display_readSource 12 = .ok (.aload_n 0, 1) := by decide +kernel
theorem d_Display_readSource_13 : decode b_Display_readSource 13 = .ok (.getfield 20, 3) := by decide +kernel
theorem d_Display_readSource_16 : decode b_Display_readSource 16 = .ok (.iload_n 1, 1) := by decide +kernel
theorem d_Display_readSource_17 : decode b_Display_readSource 17 = .ok (.aload_n 2, 1) := by decide +kernel
theorem d_Display_readSource_18 : decode b_Display_readSource 18 = .ok (.iload 4, 2) := by decide +kernel
theorem d_Display_readSource_20 : decode b_Display_readSource 20 = .ok (.invokevirtual 121, 3) := by decide +kernel
theorem d_Display_readSource_23 : decode b_Display_readSource 23 = .ok (.goto 8, 3) := by decide +kernel
theorem d_Display_readSource_26 : decode b_Display_readSource 26 = .ok (.aload_n 0, 1) := by decide +kernel
theorem d_Display_readSource_27 : decode b_Display_readSource 27 = .ok (.iconst 1, 1) := by decide +kernel
theorem d_Display_readSource_28 : decode b_Display_readSource 28 = .ok (.putfield 62, 3) := by decide +kernel
theorem d_Display_readSource_31 : decode b_Display_readSource 31 = .ok (.return_, 1) := by decide +kernel
theorem d_Display_readColourCount_0 : decode b_Display_readColourCount 0 = .ok (.aload_n 0, 1) := by decide +kernel
theorem d_Display_readColourCount_1 : decode b_Display_readColourCount 1 = .ok (.invokevirtual 83, 3) := by decide +kernel
theorem d_Display_readColourCount_4 : decode b_Display_readColourCount 4 = .ok (.istore_n 1, 1) := by decide +kernel
theorem d_Display_readColourCount_5 : decode b_Display_readColourCount 5 = .ok (.iload_n 1, 1) := by decide +kernel
theorem d_Display_readColourCount_6 : decode b_Display_readColourCount 6 = .ok (.iconst 3, 1) := by decide +kernel
theorem d_Display_readColourCount_7 : decode b_Display_readColourCount 7 = .ok (.if_icmp .lt 8, 3) := by decide +kernel
theorem d_Display_readColourCount_10 : decode b_Display_readColourCount 10 = .ok (.iload_n 1, 1) := by decide +kernel
theorem d_Display_readColourCount_11 : decode b_Display_readColourCount 11 = .ok (.iconst 4, 1) := by decide +kernel
theorem d_Display_readColourCount_12 : decode b_Display_readColourCount 12 = .ok (.if_icmp .le 10, 3) := by decide +kernel
theorem d_Display_readColourCount_15 : decode b_Display_readColourCount 15 = .ok (.aload_n 0, 1) := by decide +kernel
theorem d_Display_readColourCount_16 : decode b_Display_readColourCount 16 = .ok (.iconst 1, 1) := by decide +kernel
theorem d_Display_readColourCount_17 : decode b_Display_readColourCount 17 = .ok (.putfield 62, 3) := by decide +kernel


theorem dX0_init_0 : decode cX0_init 0 = .ok (.aload_n 0, 1) := by decide +kernel
theorem dX0_init_1 : decode cX0_init 1 = .ok (.invokespecial 3, 3) := by decide +kernel
theorem dX0_init_4 : decode cX0_init 4 = .ok (.aload_n 0, 1) := by decide +kernel
theorem dX0_init_5 : decode cX0_init 5 = .ok (.bipush 16, 2) := by decide +kernel
theorem dX0_init_7 : decode cX0_init 7 = .ok (.newarray .int, 2) := by decide +kernel
theorem dX0_init_9 : decode cX0_init 9 = .ok (.putfield 9, 3) := by decide +kernel
theorem dX0_init_12 : decode cX0_init 12 = .ok (.aload_n 0, 1) := by decide +kernel
theorem dX0_init_13 : decode cX0_init 13 = .ok (.bipush 16, 2) := by decide +kernel
theorem dX0_init_15 : decode cX0_init 15 = .ok (.newarray .int, 2) := by decide +kernel
theorem dX0_init_17 : decode cX0_init 17 = .ok (.putfield 15, 3) := by decide +kernel
theorem dX0_init_20 : decode cX0_init 20 = .ok (.aload_n 0, 1) := by decide +kernel
theorem dX0_init_21 : decode cX0_init 21 = .ok (.bipush 16, 2) := by decide +kernel
theorem dX0_init_23 : decode cX0_init 23 = .ok (.newarray .int, 2) := by decide +kernel
theorem dX0_init_25 : decode cX0_init 25 = .ok (.putfield 18, 3) := by decide +kernel
theorem dX0_init_28 : decode cX0_init 28 = .ok (.aload_n 0, 1) := by decide +kernel
theorem dX0_init_29 : decode cX0_init 29 = .ok (.bipush 16, 2) := by decide +kernel
theorem dX0_init_31 : decode cX0_init 31 = .ok (.newarray .int, 2) := by decide +kernel
theorem dX0_init_33 : decode cX0_init 33 = .ok (.putfield 21, 3) := by decide +kernel
theorem dX0_init_36 : decode cX0_init 36 = .ok (.aload_n 0, 1) := by decide +kernel
theorem dX0_init_37 : decode cX0_init 37 = .ok (.iconst 0, 1) := by decide +kernel
theorem dX0_init_38 : decode cX0_init 38 = .ok (.putfield 24, 3) := by decide +kernel
theorem dX0_init_41 : decode cX0_init 41 = .ok (.iconst 0, 1) := by decide +kernel
theorem dX0_init_42 : decode cX0_init 42 = .ok (.istore_n 1, 1) := by decide +kernel
theorem dX0_init_43 : decode cX0_init 43 = .ok (.iload_n 1, 1) := by decide +kernel
theorem dX0_init_44 : decode cX0_init 44 = .ok (.bipush 16, 2) := by decide +kernel
theorem dX0_init_46 : decode cX0_init 46 = .ok (.if_icmp .ge 16, 3) := by decide +kernel
theorem dX0_init_49 : decode cX0_init 49 = .ok (.aload_n 0, 1) := by decide +kernel
theorem dX0_init_50 : decode cX0_init 50 = .ok (.getfield 18, 3) := by decide +kernel
theorem dX0_init_53 : decode cX0_init 53 = .ok (.iload_n 1, 1) := by decide +kernel
theorem dX0_init_54 : decode cX0_init 54 = .ok (.iconst (-1), 1) := by decide +kernel
theorem dX0_init_55 : decode cX0_init 55 = .ok (.iastore, 1) := by decide +kernel
theorem dX0_init_56 : decode cX0_init 56 = .ok (.iinc 1 1, 3) := by decide +kernel
theorem dX0_init_59 : decode cX0_init 59 = .ok (.goto (-16), 3) := by decide +kernel
theorem dX0_init_62 : decode cX0_init 62 = .ok (.return_, 1) := by decide +kernel
theorem dX0_put_0 : decode cX0_put 0 = .ok (.aload_n 0, 1) := by decide +kernel
theorem dX0_put_1 : decode cX0_put 1 = .ok (.getfield 18, 3) := by decide +kernel
theorem dX0_put_4 : decode cX0_put 4 = .ok (.iload_n 1, 1) := by decide +kernel
theorem dX0_put_5 : decode cX0_put 5 = .ok (.iaload, 1) := by decide +kernel
theorem dX0_put_6 : decode cX0_put 6 = .ok (.iconst (-1), 1) := by decide +kernel
theorem dX0_put_7 : decode cX0_put 7 = .ok (.if_icmp .ne 32, 3) := by decide +kernel
theorem dX0_put_10 : decode cX0_put 10 = .ok (.aload_n 0, 1) := by decide +kernel
theorem dX0_put_11 : decode cX0_put 11 = .ok (.getfield 24, 3) := by decide +kernel
theorem dX0_put_14 : decode cX0_put 14 = .ok (.bipush 16, 2) := by decide +kernel
theorem dX0_put_16 : decode cX0_put 16 = .ok (.if_icmp .ge 23, 3) := by decide +kernel
theorem dX0_put_19 : decode cX0_put 19 = .ok (.aload_n 0, 1) := by decide +kernel
theorem dX0_put_20 : decode cX0_put 20 = .ok (.getfield 21, 3) := by decide +kernel
theorem dX0_put_23 : decode cX0_put 23 = .ok (.aload_n 0, 1) := by decide +kernel
theorem dX0_put_24 : decode cX0_put 24 = .ok (.getfield 24, 3) := by decide +kernel
theorem dX0_put_27 : decode cX0_put 27 = .ok (.iload_n 1, 1) := by decide +kernel
theorem dX0_put_28 : decode cX0_put 28 = .ok (.iastore, 1) := by decide +kernel
theorem dX0_put_29 : decode cX0_put 29 = .ok (.aload_n 0, 1) := by decide +kernel
theorem dX0_put_30 : decode cX0_put 30 = .ok (.dup, 1) := by decide +kernel
theorem dX0_put_31 : decode cX0_put 31 = .ok (.getfield 24, 3) := by decide +kernel
theorem dX0_put_34 : decode cX0_put 34 = .ok (.iconst 1, 1) := by decide +kernel
theorem dX0_put_35 : decode cX0_put 35 = .ok (.iadd, 1) := by decide +kernel
theorem dX0_put_36 : decode cX0_put 36 = .ok (.putfield 24, 3) := by decide +kernel
theorem dX0_put_39 : decode cX0_put 39 = .ok (.aload_n 0, 1) := by decide +kernel
theorem dX0_put_40 : decode cX0_put 40 = .ok (.getfield 9, 3) := by decide +kernel
theorem dX0_put_43 : decode cX0_put 43 = .ok (.iload_n 1, 1) := by decide +kernel
theorem dX0_put_44 : decode cX0_put 44 = .ok (.iload_n 2, 1) := by decide +kernel
theorem dX0_put_45 : decode cX0_put 45 = .ok (.iastore, 1) := by decide +kernel
theorem dX0_put_46 : decode cX0_put 46 = .ok (.aload_n 0, 1) := by decide +kernel
theorem dX0_put_47 : decode cX0_put 47 = .ok (.getfield 15, 3) := by decide +kernel
theorem dX0_put_50 : decode cX0_put 50 = .ok (.iload_n 1, 1) := by decide +kernel
theorem dX0_put_51 : decode cX0_put 51 = .ok (.iload_n 3, 1) := by decide +kernel
theorem dX0_put_52 : decode cX0_put 52 = .ok (.iastore, 1) := by decide +kernel
theorem dX0_put_53 : decode cX0_put 53 = .ok (.aload_n 0, 1) := by decide +kernel
theorem dX0_put_54 : decode cX0_put 54 = .ok (.getfield 18, 3) := by decide +kernel
theorem dX0_put_57 : decode cX0_put 57 = .ok (.iload_n 1, 1) := by decide +kernel
theorem dX0_put_58 : decode cX0_put 58 = .ok (.iload 4, 2) := by decide +kernel
theorem dX0_put_60 : decode cX0_put 60 = .ok (.iastore, 1) := by decide +kernel
theorem dX0_put_61 : decode cX0_put 61 = .ok (.return_, 1) := by decide +kernel
theorem dX0_isThere_0 : decode cX0_isThere 0 = .ok (.aload_n 0, 1) := by decide +kernel
theorem dX0_isThere_1 : decode cX0_isThere 1 = .ok (.getfield 18, 3) := by decide +kernel
theorem dX0_isThere_4 : decode cX0_isThere 4 = .ok (.iload_n 1, 1) := by decide +kernel
theorem dX0_isThere_5 : decode cX0_isThere 5 = .ok (.iaload, 1) := by decide +kernel
theorem dX0_isThere_6 : decode cX0_isThere 6 = .ok (.iconst (-1), 1) := by decide +kernel
theorem dX0_isThere_7 : decode cX0_isThere 7 = .ok (.if_icmp .eq 17, 3) := by decide +kernel
theorem dX0_isThere_10 : decode cX0_isThere 10 = .ok (.iload_n 2, 1) := by decide +kernel
theorem dX0_isThere_11 : decode cX0_isThere 11 = .ok (.aload_n 0, 1) := by decide +kernel
theorem dX0_isThere_12 : decode cX0_isThere 12 = .ok (.getfield 15, 3) := by decide +kernel
theorem dX0_isThere_15 : decode cX0_isThere 15 = .ok (.iload_n 1, 1) := by decide +kernel
theorem dX0_isThere_16 : decode cX0_isThere 16 = .ok (.iaload, 1) := by decide +kernel
theorem dX0_isThere_17 : decode cX0_isThere 17 = .ok (.if_icmp .ge 7, 3) := by decide +kernel
theorem dX0_isThere_20 : decode cX0_isThere 20 = .ok (.iconst 1, 1) := by decide +kernel
theorem dX0_isThere_21 : decode cX0_isThere 21 = .ok (.goto 4, 3) := by decide +kernel
theorem dX0_isThere_24 : decode cX0_isThere 24 = .ok (.iconst 0, 1) := by decide +kernel
theorem dX0_isThere_25 : decode cX0_isThere 25 = .ok (.ireturn, 1) := by decide +kernel
theorem dX0_count_0 : decode cX0_count 0 = .ok (.aload_n 0, 1) := by decide +kernel
theorem dX0_count_1 : decode cX0_count 1 = .ok (.iconst (-1), 1) := by decide +kernel
theorem dX0_count_2 : decode cX0_count 2 = .ok (.iload_n 1, 1) := by decide +kernel
theorem dX0_count_3 : decode cX0_count 3 = .ok (.invokevirtual 28, 3) := by decide +kernel
theorem dX0_count_6 : decode cX0_count 6 = .ok (.ireturn, 1) := by decide +kernel
theorem dX0_countOthers_0 : decode cX0_countOthers 0 = .ok (.iconst 0, 1) := by decide +kernel
theorem dX0_countOthers_1 : decode cX0_countOthers 1 = .ok (.istore_n 3, 1) := by decide +kernel
theorem dX0_countOthers_2 : decode cX0_countOthers 2 = .ok (.iconst 0, 1) := by decide +kernel
theorem dX0_countOthers_3 : decode cX0_countOthers 3 = .ok (.istore 4, 2) := by decide +kernel
theorem dX0_countOthers_5 : decode cX0_countOthers 5 = .ok (.iload 4, 2) := by decide +kernel
theorem dX0_countOthers_7 : decode cX0_countOthers 7 = .ok (.bipush 16, 2) := by decide +kernel
theorem dX0_countOthers_9 : decode cX0_countOthers 9 = .ok (.if_icmp .ge 28, 3) := by decide +kernel
theorem dX0_countOthers_12 : decode cX0_countOthers 12 = .ok (.iload 4, 2) := by decide +kernel
theorem dX0_countOthers_14 : decode cX0_countOthers 14 = .ok (.iload_n 1, 1) := by decide +kernel
theorem dX0_countOthers_15 : decode cX0_countOthers 15 = .ok (.if_icmp .eq 16, 3) := by decide +kernel
theorem dX0_countOthers_18 : decode cX0_countOthers 18 = .ok (.aload_n 0, 1) := by decide +kernel
theorem dX0_countOthers_19 : decode cX0_countOthers 19 = .ok (.iload 4, 2) := by decide +kernel
theorem dX0_countOthers_21 : decode cX0_countOthers 21 = .ok (.iload_n 2, 1) := by decide +kernel
theorem dX0_countOthers_22 : decode cX0_countOthers 22 = .ok (.invokevirtual 32, 3) := by decide +kernel
theorem dX0_countOthers_25 : decode cX0_countOthers 25 = .ok (.ifCond .eq 6, 3) := by decide +kernel
theorem dX0_countOthers_28 : decode cX0_countOthers 28 = .ok (.iinc 3 1, 3) := by decide +kernel
theorem dX0_countOthers_31 : decode cX0_countOthers 31 = .ok (.iinc 4 1, 3) := by decide +kernel
theorem dX0_countOthers_34 : decode cX0_countOthers 34 = .ok (.goto (-29), 3) := by decide +kernel
theorem dX0_countOthers_37 : decode cX0_countOthers 37 = .ok (.iload_n 3, 1) := by decide +kernel
theorem dX0_countOthers_38 : decode cX0_countOthers 38 = .ok (.ireturn, 1) := by decide +kernel
theorem dX0_targetAt_0 : decode cX0_targetAt 0 = .ok (.iconst 0, 1) := by decide +kernel
theorem dX0_targetAt_1 : decode cX0_targetAt 1 = .ok (.istore_n 3, 1) := by decide +kernel
theorem dX0_targetAt_2 : decode cX0_targetAt 2 = .ok (.iconst 0, 1) := by decide +kernel
theorem dX0_targetAt_3 : decode cX0_targetAt 3 = .ok (.istore 4, 2) := by decide +kernel
theorem dX0_targetAt_5 : decode cX0_targetAt 5 = .ok (.iload 4, 2) := by decide +kernel
theorem dX0_targetAt_7 : decode cX0_targetAt 7 = .ok (.aload_n 0, 1) := by decide +kernel
theorem dX0_targetAt_8 : decode cX0_targetAt 8 = .ok (.getfield 24, 3) := by decide +kernel
theorem dX0_targetAt_11 : decode cX0_targetAt 11 = .ok (.if_icmp .ge 39, 3) := by decide +kernel
theorem dX0_targetAt_14 : decode cX0_targetAt 14 = .ok (.aload_n 0, 1) := by decide +kernel
theorem dX0_targetAt_15 : decode cX0_targetAt 15 = .ok (.getfield 21, 3) := by decide +kernel
theorem dX0_targetAt_18 : decode cX0_targetAt 18 = .ok (.iload 4, 2) := by decide +kernel
theorem dX0_targetAt_20 : decode cX0_targetAt 20 = .ok (.iaload, 1) := by decide +kernel
theorem dX0_targetAt_21 : decode cX0_targetAt 21 = .ok (.istore 5, 2) := by decide +kernel
theorem dX0_targetAt_23 : decode cX0_targetAt 23 = .ok (.aload_n 0, 1) := by decide +kernel
theorem dX0_targetAt_24 : decode cX0_targetAt 24 = .ok (.iload 5, 2) := by decide +kernel
theorem dX0_targetAt_26 : decode cX0_targetAt 26 = .ok (.iload_n 2, 1) := by decide +kernel
theorem dX0_targetAt_27 : decode cX0_targetAt 27 = .ok (.invokevirtual 32, 3) := by decide +kernel
theorem dX0_targetAt_30 : decode cX0_targetAt 30 = .ok (.ifCond .eq 14, 3) := by decide +kernel
theorem dX0_targetAt_33 : decode cX0_targetAt 33 = .ok (.iload_n 3, 1) := by decide +kernel
theorem dX0_targetAt_34 : decode cX0_targetAt 34 = .ok (.iload_n 1, 1) := by decide +kernel
theorem dX0_targetAt_35 : decode cX0_targetAt 35 = .ok (.if_icmp .ne 6, 3) := by decide +kernel
theorem dX0_targetAt_38 : decode cX0_targetAt 38 = .ok (.iload 5, 2) := by decide +kernel
theorem dX0_targetAt_40 : decode cX0_targetAt 40 = .ok (.ireturn, 1) := by decide +kernel
theorem dX0_targetAt_41 : decode cX0_targetAt 41 = .ok (.iinc 3 1, 3) := by decide +kernel
theorem dX0_targetAt_44 : decode cX0_targetAt 44 = .ok (.iinc 4 1, 3) := by decide +kernel
theorem dX0_targetAt_47 : decode cX0_targetAt 47 = .ok (.goto (-42), 3) := by decide +kernel
theorem dX0_targetAt_50 : decode cX0_targetAt 50 = .ok (.iconst (-1), 1) := by decide +kernel
theorem dX0_targetAt_51 : decode cX0_targetAt 51 = .ok (.ireturn, 1) := by decide +kernel
theorem dX1_init_0 : decode cX1_init 0 = .ok (.aload_n 0, 1) := by decide +kernel
theorem dX1_init_1 : decode cX1_init 1 = .ok (.invokespecial 3, 3) := by decide +kernel
theorem dX1_init_4 : decode cX1_init 4 = .ok (.aload_n 0, 1) := by decide +kernel
theorem dX1_init_5 : decode cX1_init 5 = .ok (.bipush 12, 2) := by decide +kernel
theorem dX1_init_7 : decode cX1_init 7 = .ok (.newarray .int, 2) := by decide +kernel
theorem dX1_init_9 : decode cX1_init 9 = .ok (.putfield 9, 3) := by decide +kernel
theorem dX1_init_12 : decode cX1_init 12 = .ok (.aload_n 0, 1) := by decide +kernel
theorem dX1_init_13 : decode cX1_init 13 = .ok (.bipush 12, 2) := by decide +kernel
theorem dX1_init_15 : decode cX1_init 15 = .ok (.newarray .int, 2) := by decide +kernel
theorem dX1_init_17 : decode cX1_init 17 = .ok (.putfield 15, 3) := by decide +kernel
theorem dX1_init_20 : decode cX1_init 20 = .ok (.aload_n 0, 1) := by decide +kernel
theorem dX1_init_21 : decode cX1_init 21 = .ok (.bipush 12, 2) := by decide +kernel
theorem dX1_init_23 : decode cX1_init 23 = .ok (.newarray .int, 2) := by decide +kernel
theorem dX1_init_25 : decode cX1_init 25 = .ok (.putfield 18, 3) := by decide +kernel
theorem dX1_init_28 : decode cX1_init 28 = .ok (.aload_n 0, 1) := by decide +kernel
theorem dX1_init_29 : decode cX1_init 29 = .ok (.bipush 12, 2) := by decide +kernel
theorem dX1_init_31 : decode cX1_init 31 = .ok (.newarray .boolean, 2) := by decide +kernel
theorem dX1_init_33 : decode cX1_init 33 = .ok (.putfield 21, 3) := by decide +kernel
theorem dX1_init_36 : decode cX1_init 36 = .ok (.aload_n 0, 1) := by decide +kernel
theorem dX1_init_37 : decode cX1_init 37 = .ok (.iconst 0, 1) := by decide +kernel
theorem dX1_init_38 : decode cX1_init 38 = .ok (.putfield 25, 3) := by decide +kernel
theorem dX1_init_41 : decode cX1_init 41 = .ok (.aload_n 0, 1) := by decide +kernel
theorem dX1_init_42 : decode cX1_init 42 = .ok (.bipush 11, 2) := by decide +kernel
theorem dX1_init_44 : decode cX1_init 44 = .ok (.putfield 29, 3) := by decide +kernel
theorem dX1_init_47 : decode cX1_init 47 = .ok (.aload_n 0, 1) := by decide +kernel
theorem dX1_init_48 : decode cX1_init 48 = .ok (.iconst 0, 1) := by decide +kernel
theorem dX1_init_49 : decode cX1_init 49 = .ok (.putfield 32, 3) := by decide +kernel
theorem dX1_init_52 : decode cX1_init 52 = .ok (.aload_n 0, 1) := by decide +kernel
theorem dX1_init_53 : decode cX1_init 53 = .ok (.iconst (-1), 1) := by decide +kernel
theorem dX1_init_54 : decode cX1_init 54 = .ok (.putfield 35, 3) := by decide +kernel
theorem dX1_init_57 : decode cX1_init 57 = .ok (.aload_n 0, 1) := by decide +kernel
theorem dX1_init_58 : decode cX1_init 58 = .ok (.iconst (-1), 1) := by decide +kernel
theorem dX1_init_59 : decode cX1_init 59 = .ok (.putfield 38, 3) := by decide +kernel
theorem dX1_init_62 : decode cX1_init 62 = .ok (.aload_n 0, 1) := by decide +kernel
theorem dX1_init_63 : decode cX1_init 63 = .ok (.iconst 0, 1) := by decide +kernel
theorem dX1_init_64 : decode cX1_init 64 = .ok (.putfield 41, 3) := by decide +kernel
theorem dX1_init_67 : decode cX1_init 67 = .ok (.return_, 1) := by decide +kernel
theorem dX1_addDevice_0 : decode cX1_addDevice 0 = .ok (.aload_n 0, 1) := by decide +kernel
theorem dX1_addDevice_1 : decode cX1_addDevice 1 = .ok (.iload_n 1, 1) := by decide +kernel
theorem dX1_addDevice_2 : decode cX1_addDevice 2 = .ok (.invokevirtual 45, 3) := by decide +kernel
theorem dX1_addDevice_5 : decode cX1_addDevice 5 = .ok (.iconst (-1), 1) := by decide +kernel
theorem dX1_addDevice_6 : decode cX1_addDevice 6 = .ok (.if_icmp .ne 10, 3) := by decide +kernel
theorem dX1_addDevice_9 : decode cX1_addDevice 9 = .ok (.aload_n 0, 1) := by decide +kernel
theorem dX1_addDevice_10 : decode cX1_addDevice 10 = .ok (.iload_n 1, 1) := by decide +kernel
theorem dX1_addDevice_11 : decode cX1_addDevice 11 = .ok (.iload_n 2, 1) := by decide +kernel
theorem dX1_addDevice_12 : decode cX1_addDevice 12 = .ok (.iconst 0, 1) := by decide +kernel
theorem dX1_addDevice_13 : decode cX1_addDevice 13 = .ok (.invokevirtual 49, 3) := by decide +kernel
theorem dX1_addDevice_16 : decode cX1_addDevice 16 = .ok (.return_, 1) := by decide +kernel
theorem dX1_addEnded_0 : decode cX1_addEnded 0 = .ok (.aload_n 0, 1) := by decide +kernel
theorem dX1_addEnded_1 : decode cX1_addEnded 1 = .ok (.iconst (-1), 1) := by decide +kernel
theorem dX1_addEnded_2 : decode cX1_addEnded 2 = .ok (.iload_n 1, 1) := by decide +kernel
theorem dX1_addEnded_3 : decode cX1_addEnded 3 = .ok (.iload_n 2, 1) := by decide +kernel
theorem dX1_addEnded_4 : decode cX1_addEnded 4 = .ok (.invokevirtual 49, 3) := by decide +kernel
theorem dX1_addEnded_7 : decode cX1_addEnded 7 = .ok (.return_, 1) := by decide +kernel
theorem dX1_add_0 : decode cX1_add 0 = .ok (.aload_n 0, 1) := by decide +kernel
theorem dX1_add_1 : decode cX1_add 1 = .ok (.getfield 25, 3) := by decide +kernel
theorem dX1_add_4 : decode cX1_add 4 = .ok (.bipush 12, 2) := by decide +kernel
theorem dX1_add_6 : decode cX1_add 6 = .ok (.if_icmp .ge 43, 3) := by decide +kernel
theorem dX1_add_9 : decode cX1_add 9 = .ok (.aload_n 0, 1) := by decide +kernel
theorem dX1_add_10 : decode cX1_add 10 = .ok (.getfield 9, 3) := by decide +kernel
theorem dX1_add_13 : decode cX1_add 13 = .ok (.aload_n 0, 1) := by decide +kernel
theorem dX1_add_14 : decode cX1_add 14 = .ok (.getfield 25, 3) := by decide +kernel
theorem dX1_add_17 : decode cX1_add 17 = .ok (.iload_n 1, 1) := by decide +kernel
theorem dX1_add_18 : decode cX1_add 18 = .ok (.iastore, 1) := by decide +kernel
theorem dX1_add_19 : decode cX1_add 19 = .ok (.aload_n 0, 1) := by decide +kernel
theorem dX1_add_20 : decode cX1_add 20 = .ok (.getfield 15, 3) := by decide +kernel
theorem dX1_add_23 : decode cX1_add 23 = .ok (.aload_n 0, 1) := by decide +kernel
theorem dX1_add_24 : decode cX1_add 24 = .ok (.getfield 25, 3) := by decide +kernel
theorem dX1_add_27 : decode cX1_add 27 = .ok (.iload_n 2, 1) := by decide +kernel
theorem dX1_add_28 : decode cX1_add 28 = .ok (.iastore, 1) := by decide +kernel
theorem dX1_add_29 : decode cX1_add 29 = .ok (.aload_n 0, 1) := by decide +kernel
theorem dX1_add_30 : decode cX1_add 30 = .ok (.getfield 18, 3) := by decide +kernel
theorem dX1_add_33 : decode cX1_add 33 = .ok (.aload_n 0, 1) := by decide +kernel
theorem dX1_add_34 : decode cX1_add 34 = .ok (.getfield 25, 3) := by decide +kernel
theorem dX1_add_37 : decode cX1_add 37 = .ok (.iload_n 3, 1) := by decide +kernel
theorem dX1_add_38 : decode cX1_add 38 = .ok (.iastore, 1) := by decide +kernel
theorem dX1_add_39 : decode cX1_add 39 = .ok (.aload_n 0, 1) := by decide +kernel
theorem dX1_add_40 : decode cX1_add 40 = .ok (.dup, 1) := by decide +kernel
theorem dX1_add_41 : decode cX1_add 41 = .ok (.getfield 25, 3) := by decide +kernel
theorem dX1_add_44 : decode cX1_add 44 = .ok (.iconst 1, 1) := by decide +kernel
theorem dX1_add_45 : decode cX1_add 45 = .ok (.iadd, 1) := by decide +kernel
theorem dX1_add_46 : decode cX1_add 46 = .ok (.putfield 25, 3) := by decide +kernel
theorem dX1_add_49 : decode cX1_add 49 = .ok (.return_, 1) := by decide +kernel
theorem dX1_branchOf_0 : decode cX1_branchOf 0 = .ok (.iconst 0, 1) := by decide +kernel
theorem dX1_branchOf_1 : decode cX1_branchOf 1 = .ok (.istore_n 2, 1) := by decide +kernel
theorem dX1_branchOf_2 : decode cX1_branchOf 2 = .ok (.iload_n 2, 1) := by decide +kernel
theorem dX1_branchOf_3 : decode cX1_branchOf 3 = .ok (.aload_n 0, 1) := by decide +kernel
theorem dX1_branchOf_4 : decode cX1_branchOf 4 = .ok (.getfield 25, 3) := by decide +kernel
theorem dX1_branchOf_7 : decode cX1_branchOf 7 = .ok (.if_icmp .ge 21, 3) := by decide +kernel
theorem dX1_branchOf_10 : decode cX1_branchOf 10 = .ok (.aload_n 0, 1) := by decide +kernel
theorem dX1_branchOf_11 : decode cX1_branchOf 11 = .ok (.getfield 9, 3) := by decide +kernel
theorem dX1_branchOf_14 : decode cX1_branchOf 14 = .ok (.iload_n 2, 1) := by decide +kernel
theorem dX1_branchOf_15 : decode cX1_branchOf 15 = .ok (.iaload, 1) := by decide +kernel
theorem dX1_branchOf_16 : decode cX1_branchOf 16 = .ok (.iload_n 1, 1) := by decide +kernel
theorem dX1_branchOf_17 : decode cX1_branchOf 17 = .ok (.if_icmp .ne 5, 3) := by decide +kernel
theorem dX1_branchOf_20 : decode cX1_branchOf 20 = .ok (.iload_n 2, 1) := by decide +kernel
theorem dX1_branchOf_21 : decode cX1_branchOf 21 = .ok (.ireturn, 1) := by decide +kernel
theorem dX1_branchOf_22 : decode cX1_branchOf 22 = .ok (.iinc 2 1, 3) := by decide +kernel
theorem dX1_branchOf_25 : decode cX1_branchOf 25 = .ok (.goto (-23), 3) := by decide +kernel
theorem dX1_branchOf_28 : decode cX1_branchOf 28 = .ok (.iconst (-1), 1) := by decide +kernel
theorem dX1_branchOf_29 : decode cX1_branchOf 29 = .ok (.ireturn, 1) := by decide +kernel
theorem dX1_isStarted_0 : decode cX1_isStarted 0 = .ok (.aload_n 0, 1) := by decide +kernel
theorem dX1_isStarted_1 : decode cX1_isStarted 1 = .ok (.getfield 15, 3) := by decide +kernel
theorem dX1_isStarted_4 : decode cX1_isStarted 4 = .ok (.iload_n 1, 1) := by decide +kernel
theorem dX1_isStarted_5 : decode cX1_isStarted 5 = .ok (.iaload, 1) := by decide +kernel
theorem dX1_isStarted_6 : decode cX1_isStarted 6 = .ok (.aload_n 0, 1) := by decide +kernel
theorem dX1_isStarted_7 : decode cX1_isStarted 7 = .ok (.getfield 29, 3) := by decide +kernel
theorem dX1_isStarted_10 : decode cX1_isStarted 10 = .ok (.if_icmp .lt 7, 3) := by decide +kernel
theorem dX1_isStarted_13 : decode cX1_isStarted 13 = .ok (.iconst 1, 1) := by decide +kernel
theorem dX1_isStarted_14 : decode cX1_isStarted 14 = .ok (.goto 4, 3) := by decide +kernel
theorem dX1_isStarted_17 : decode cX1_isStarted 17 = .ok (.iconst 0, 1) := by decide +kernel
theorem dX1_isStarted_18 : decode cX1_isStarted 18 = .ok (.ireturn, 1) := by decide +kernel
theorem dX1_isEnded_0 : decode cX1_isEnded 0 = .ok (.aload_n 0, 1) := by decide +kernel
theorem dX1_isEnded_1 : decode cX1_isEnded 1 = .ok (.getfield 18, 3) := by decide +kernel
theorem dX1_isEnded_4 : decode cX1_isEnded 4 = .ok (.iload_n 1, 1) := by decide +kernel
theorem dX1_isEnded_5 : decode cX1_isEnded 5 = .ok (.iaload, 1) := by decide +kernel
theorem dX1_isEnded_6 : decode cX1_isEnded 6 = .ok (.sipush 200, 3) := by decide +kernel
theorem dX1_isEnded_9 : decode cX1_isEnded 9 = .ok (.if_icmp .lt 7, 3) := by decide +kernel
theorem dX1_isEnded_12 : decode cX1_isEnded 12 = .ok (.iconst 1, 1) := by decide +kernel
theorem dX1_isEnded_13 : decode cX1_isEnded 13 = .ok (.goto 4, 3) := by decide +kernel
theorem dX1_isEnded_16 : decode cX1_isEnded 16 = .ok (.iconst 0, 1) := by decide +kernel
theorem dX1_isEnded_17 : decode cX1_isEnded 17 = .ok (.ireturn, 1) := by decide +kernel
theorem dX1_isTooMuch_0 : decode cX1_isTooMuch 0 = .ok (.iload_n 2, 1) := by decide +kernel
theorem dX1_isTooMuch_1 : decode cX1_isTooMuch 1 = .ok (.sipush 200, 3) := by decide +kernel
theorem dX1_isTooMuch_4 : decode cX1_isTooMuch 4 = .ok (.if_icmp .lt 14, 3) := by decide +kernel
theorem dX1_isTooMuch_7 : decode cX1_isTooMuch 7 = .ok (.iload_n 2, 1) := by decide +kernel
theorem dX1_isTooMuch_8 : decode cX1_isTooMuch 8 = .ok (.sipush 300, 3) := by decide +kernel
theorem dX1_isTooMuch_11 : decode cX1_isTooMuch 11 = .ok (.if_icmp .ge 7, 3) := by decide +kernel
theorem dX1_isTooMuch_14 : decode cX1_isTooMuch 14 = .ok (.iconst 1, 1) := by decide +kernel
theorem dX1_isTooMuch_15 : decode cX1_isTooMuch 15 = .ok (.goto 4, 3) := by decide +kernel
theorem dX1_isTooMuch_18 : decode cX1_isTooMuch 18 = .ok (.iconst 0, 1) := by decide +kernel
theorem dX1_isTooMuch_19 : decode cX1_isTooMuch 19 = .ok (.istore_n 3, 1) := by decide +kernel
theorem dX1_isTooMuch_20 : decode cX1_isTooMuch 20 = .ok (.aload_n 0, 1) := by decide +kernel
theorem dX1_isTooMuch_21 : decode cX1_isTooMuch 21 = .ok (.getfield 18, 3) := by decide +kernel
theorem dX1_isTooMuch_24 : decode cX1_isTooMuch 24 = .ok (.iload_n 1, 1) := by decide +kernel
theorem dX1_isTooMuch_25 : decode cX1_isTooMuch 25 = .ok (.iaload, 1) := by decide +kernel
theorem dX1_isTooMuch_26 : decode cX1_isTooMuch 26 = .ok (.sipush 487, 3) := by decide +kernel
theorem dX1_isTooMuch_29 : decode cX1_isTooMuch 29 = .ok (.if_icmp .eq 15, 3) := by decide +kernel
theorem dX1_isTooMuch_32 : decode cX1_isTooMuch 32 = .ok (.aload_n 0, 1) := by decide +kernel
theorem dX1_isTooMuch_33 : decode cX1_isTooMuch 33 = .ok (.getfield 18, 3) := by decide +kernel
theorem dX1_isTooMuch_36 : decode cX1_isTooMuch 36 = .ok (.iload_n 1, 1) := by decide +kernel
theorem dX1_isTooMuch_37 : decode cX1_isTooMuch 37 = .ok (.iaload, 1) := by decide +kernel
theorem dX1_isTooMuch_38 : decode cX1_isTooMuch 38 = .ok (.sipush 408, 3) := by decide +kernel
theorem dX1_isTooMuch_41 : decode cX1_isTooMuch 41 = .ok (.if_icmp .ne 7, 3) := by decide +kernel
theorem dX1_isTooMuch_44 : decode cX1_isTooMuch 44 = .ok (.iconst 1, 1) := by decide +kernel
theorem dX1_isTooMuch_45 : decode cX1_isTooMuch 45 = .ok (.goto 4, 3) := by decide +kernel
theorem dX1_isTooMuch_48 : decode cX1_isTooMuch 48 = .ok (.iconst 0, 1) := by decide +kernel
theorem dX1_isTooMuch_49 : decode cX1_isTooMuch 49 = .ok (.istore 4, 2) := by decide +kernel
theorem dX1_isTooMuch_51 : decode cX1_isTooMuch 51 = .ok (.iload_n 3, 1) := by decide +kernel
theorem dX1_isTooMuch_52 : decode cX1_isTooMuch 52 = .ok (.ifCond .eq 21, 3) := by decide +kernel
theorem dX1_isTooMuch_55 : decode cX1_isTooMuch 55 = .ok (.iload 4, 2) := by decide +kernel
theorem dX1_isTooMuch_57 : decode cX1_isTooMuch 57 = .ok (.ifCond .eq 16, 3) := by decide +kernel
theorem dX1_isTooMuch_60 : decode cX1_isTooMuch 60 = .ok (.aload_n 0, 1) := by decide +kernel
theorem dX1_isTooMuch_61 : decode cX1_isTooMuch 61 = .ok (.getfield 21, 3) := by decide +kernel
theorem dX1_isTooMuch_64 : decode cX1_isTooMuch 64 = .ok (.iload_n 1, 1) := by decide +kernel
theorem dX1_isTooMuch_65 : decode cX1_isTooMuch 65 = .ok (.baload, 1) := by decide +kernel
theorem dX1_isTooMuch_66 : decode cX1_isTooMuch 66 = .ok (.ifCond .ne 7, 3) := by decide +kernel
theorem dX1_isTooMuch_69 : decode cX1_isTooMuch 69 = .ok (.iconst 1, 1) := by decide +kernel
theorem dX1_isTooMuch_70 : decode cX1_isTooMuch 70 = .ok (.goto 4, 3) := by decide +kernel
theorem dX1_isTooMuch_73 : decode cX1_isTooMuch 73 = .ok (.iconst 0, 1) := by decide +kernel
theorem dX1_isTooMuch_74 : decode cX1_isTooMuch 74 = .ok (.ireturn, 1) := by decide +kernel
theorem dX1_begin_0 : decode cX1_begin 0 = .ok (.aload_n 0, 1) := by decide +kernel
theorem dX1_begin_1 : decode cX1_begin 1 = .ok (.getfield 25, 3) := by decide +kernel
theorem dX1_begin_4 : decode cX1_begin 4 = .ok (.ifCond .ne 13, 3) := by decide +kernel
theorem dX1_begin_7 : decode cX1_begin 7 = .ok (.aload_n 0, 1) := by decide +kernel
theorem dX1_begin_8 : decode cX1_begin 8 = .ok (.sipush 480, 3) := by decide +kernel
theorem dX1_begin_11 : decode cX1_begin 11 = .ok (.putfield 38, 3) := by decide +kernel
theorem dX1_begin_14 : decode cX1_begin 14 = .ok (.goto 8, 3) := by decide +kernel
theorem dX1_begin_17 : decode cX1_begin 17 = .ok (.aload_n 0, 1) := by decide +kernel
theorem dX1_begin_18 : decode cX1_begin 18 = .ok (.iload_n 1, 1) := by decide +kernel
theorem dX1_begin_19 : decode cX1_begin 19 = .ok (.invokevirtual 53, 3) := by decide +kernel
theorem dX1_begin_22 : decode cX1_begin 22 = .ok (.return_, 1) := by decide +kernel
theorem dX1_goOn_0 : decode cX1_goOn 0 = .ok (.aload_n 0, 1) := by decide +kernel
theorem dX1_goOn_1 : decode cX1_goOn 1 = .ok (.getfield 29, 3) := by decide +kernel
theorem dX1_goOn_4 : decode cX1_goOn 4 = .ok (.iconst 1, 1) := by decide +kernel
theorem dX1_goOn_5 : decode cX1_goOn 5 = .ok (.isub, 1) := by decide +kernel
theorem dX1_goOn_6 : decode cX1_goOn 6 = .ok (.istore_n 2, 1) := by decide +kernel
theorem dX1_goOn_7 : decode cX1_goOn 7 = .ok (.iload_n 2, 1) := by decide +kernel
theorem dX1_goOn_8 : decode cX1_goOn 8 = .ok (.ifCond .lt 22, 3) := by decide +kernel
theorem dX1_goOn_11 : decode cX1_goOn 11 = .ok (.aload_n 0, 1) := by decide +kernel
theorem dX1_goOn_12 : decode cX1_goOn 12 = .ok (.invokevirtual 57, 3) := by decide +kernel
theorem dX1_goOn_15 : decode cX1_goOn 15 = .ok (.ifCond .ne 15, 3) := by decide +kernel
theorem dX1_goOn_18 : decode cX1_goOn 18 = .ok (.aload_n 0, 1) := by decide +kernel
theorem dX1_goOn_19 : decode cX1_goOn 19 = .ok (.iload_n 2, 1) := by decide +kernel
theorem dX1_goOn_20 : decode cX1_goOn 20 = .ok (.iload_n 1, 1) := by decide +kernel
theorem dX1_goOn_21 : decode cX1_goOn 21 = .ok (.invokevirtual 61, 3) := by decide +kernel
theorem dX1_goOn_24 : decode cX1_goOn 24 = .ok (.iinc 2 (-1), 3) := by decide +kernel
theorem dX1_goOn_27 : decode cX1_goOn 27 = .ok (.goto (-20), 3) := by decide +kernel
theorem dX1_goOn_30 : decode cX1_goOn 30 = .ok (.aload_n 0, 1) := by decide +kernel
theorem dX1_goOn_31 : decode cX1_goOn 31 = .ok (.invokevirtual 57, 3) := by decide +kernel
theorem dX1_goOn_34 : decode cX1_goOn 34 = .ok (.ifCond .ne 11, 3) := by decide +kernel
theorem dX1_goOn_37 : decode cX1_goOn 37 = .ok (.aload_n 0, 1) := by decide +kernel
theorem dX1_goOn_38 : decode cX1_goOn 38 = .ok (.aload_n 0, 1) := by decide +kernel
theorem dX1_goOn_39 : decode cX1_goOn 39 = .ok (.invokevirtual 65, 3) := by decide +kernel
theorem dX1_goOn_42 : decode cX1_goOn 42 = .ok (.putfield 38, 3) := by decide +kernel
theorem dX1_goOn_45 : decode cX1_goOn 45 = .ok (.return_, 1) := by decide +kernel
theorem dX1_isWaiting_0 : decode cX1_isWaiting 0 = .ok (.iconst 0, 1) := by decide +kernel
theorem dX1_isWaiting_1 : decode cX1_isWaiting 1 = .ok (.istore_n 1, 1) := by decide +kernel
theorem dX1_isWaiting_2 : decode cX1_isWaiting 2 = .ok (.iload_n 1, 1) := by decide +kernel
theorem dX1_isWaiting_3 : decode cX1_isWaiting 3 = .ok (.aload_n 0, 1) := by decide +kernel
theorem dX1_isWaiting_4 : decode cX1_isWaiting 4 = .ok (.getfield 25, 3) := by decide +kernel
theorem dX1_isWaiting_7 : decode cX1_isWaiting 7 = .ok (.if_icmp .ge 27, 3) := by decide +kernel
theorem dX1_isWaiting_10 : decode cX1_isWaiting 10 = .ok (.aload_n 0, 1) := by decide +kernel
theorem dX1_isWaiting_11 : decode cX1_isWaiting 11 = .ok (.iload_n 1, 1) := by decide +kernel
theorem dX1_isWaiting_12 : decode cX1_isWaiting 12 = .ok (.invokevirtual 69, 3) := by decide +kernel
theorem dX1_isWaiting_15 : decode cX1_isWaiting 15 = .ok (.ifCond .eq 13, 3) := by decide +kernel
theorem dX1_isWaiting_18 : decode cX1_isWaiting 18 = .ok (.aload_n 0, 1) := by decide +kernel
theorem dX1_isWaiting_19 : decode cX1_isWaiting 19 = .ok (.iload_n 1, 1) := by decide +kernel
theorem dX1_isWaiting_20 : decode cX1_isWaiting 20 = .ok (.invokevirtual 73, 3) := by decide +kernel
theorem dX1_isWaiting_23 : decode cX1_isWaiting 23 = .ok (.ifCond .ne 5, 3) := by decide +kernel
theorem dX1_isWaiting_26 : decode cX1_isWaiting 26 = .ok (.iconst 1, 1) := by decide +kernel
theorem dX1_isWaiting_27 : decode cX1_isWaiting 27 = .ok (.ireturn, 1) := by decide +kernel
theorem dX1_isWaiting_28 : decode cX1_isWaiting 28 = .ok (.iinc 1 1, 3) := by decide +kernel
theorem dX1_isWaiting_31 : decode cX1_isWaiting 31 = .ok (.goto (-29), 3) := by decide +kernel
theorem dX1_isWaiting_34 : decode cX1_isWaiting 34 = .ok (.iconst 0, 1) := by decide +kernel
theorem dX1_isWaiting_35 : decode cX1_isWaiting 35 = .ok (.ireturn, 1) := by decide +kernel
theorem dX1_startGroup_0 : decode cX1_startGroup 0 = .ok (.aload_n 0, 1) := by decide +kernel
theorem dX1_startGroup_1 : decode cX1_startGroup 1 = .ok (.iload_n 1, 1) := by decide +kernel
theorem dX1_startGroup_2 : decode cX1_startGroup 2 = .ok (.putfield 29, 3) := by decide +kernel
theorem dX1_startGroup_5 : decode cX1_startGroup 5 = .ok (.aload_n 0, 1) := by decide +kernel
theorem dX1_startGroup_6 : decode cX1_startGroup 6 = .ok (.iload_n 2, 1) := by decide +kernel
theorem dX1_startGroup_7 : decode cX1_startGroup 7 = .ok (.putfield 32, 3) := by decide +kernel
theorem dX1_startGroup_10 : decode cX1_startGroup 10 = .ok (.iconst 0, 1) := by decide +kernel
theorem dX1_startGroup_11 : decode cX1_startGroup 11 = .ok (.istore_n 3, 1) := by decide +kernel
theorem dX1_startGroup_12 : decode cX1_startGroup 12 = .ok (.iload_n 3, 1) := by decide +kernel
theorem dX1_startGroup_13 : decode cX1_startGroup 13 = .ok (.aload_n 0, 1) := by decide +kernel
theorem dX1_startGroup_14 : decode cX1_startGroup 14 = .ok (.getfield 25, 3) := by decide +kernel
theorem dX1_startGroup_17 : decode cX1_startGroup 17 = .ok (.if_icmp .ge 35, 3) := by decide +kernel
theorem dX1_startGroup_20 : decode cX1_startGroup 20 = .ok (.aload_n 0, 1) := by decide +kernel
theorem dX1_startGroup_21 : decode cX1_startGroup 21 = .ok (.getfield 15, 3) := by decide +kernel
theorem dX1_startGroup_24 : decode cX1_startGroup 24 = .ok (.iload_n 3, 1) := by decide +kernel
theorem dX1_startGroup_25 : decode cX1_startGroup 25 = .ok (.iaload, 1) := by decide +kernel
theorem dX1_startGroup_26 : decode cX1_startGroup 26 = .ok (.iload_n 1, 1) := by decide +kernel
theorem dX1_startGroup_27 : decode cX1_startGroup 27 = .ok (.if_icmp .ne 19, 3) := by decide +kernel
theorem dX1_startGroup_30 : decode cX1_startGroup 30 = .ok (.aload_n 0, 1) := by decide +kernel
theorem dX1_startGroup_31 : decode cX1_startGroup 31 = .ok (.iload_n 3, 1) := by decide +kernel
theorem dX1_startGroup_32 : decode cX1_startGroup 32 = .ok (.invokevirtual 73, 3) := by decide +kernel
theorem dX1_startGroup_35 : decode cX1_startGroup 35 = .ok (.ifCond .ne 11, 3) := by decide +kernel
theorem dX1_startGroup_38 : decode cX1_startGroup 38 = .ok (.aload_n 0, 1) := by decide +kernel
theorem dX1_startGroup_39 : decode cX1_startGroup 39 = .ok (.getfield 18, 3) := by decide +kernel
theorem dX1_startGroup_42 : decode cX1_startGroup 42 = .ok (.iload_n 3, 1) := by decide +kernel
theorem dX1_startGroup_43 : decode cX1_startGroup 43 = .ok (.bipush 100, 2) := by decide +kernel
theorem dX1_startGroup_45 : decode cX1_startGroup 45 = .ok (.iastore, 1) := by decide +kernel
theorem dX1_startGroup_46 : decode cX1_startGroup 46 = .ok (.iinc 3 1, 3) := by decide +kernel
theorem dX1_startGroup_49 : decode cX1_startGroup 49 = .ok (.goto (-37), 3) := by decide +kernel
theorem dX1_startGroup_52 : decode cX1_startGroup 52 = .ok (.return_, 1) := by decide +kernel
theorem dX1_takeAnswer_0 : decode cX1_takeAnswer 0 = .ok (.aload_n 0, 1) := by decide +kernel
theorem dX1_takeAnswer_1 : decode cX1_takeAnswer 1 = .ok (.getfield 18, 3) := by decide +kernel
theorem dX1_takeAnswer_4 : decode cX1_takeAnswer 4 = .ok (.iload_n 1, 1) := by decide +kernel
theorem dX1_takeAnswer_5 : decode cX1_takeAnswer 5 = .ok (.iload_n 2, 1) := by decide +kernel
theorem dX1_takeAnswer_6 : decode cX1_takeAnswer 6 = .ok (.iastore, 1) := by decide +kernel
theorem dX1_takeAnswer_7 : decode cX1_takeAnswer 7 = .ok (.iload_n 2, 1) := by decide +kernel
theorem dX1_takeAnswer_8 : decode cX1_takeAnswer 8 = .ok (.sipush 180, 3) := by decide +kernel
theorem dX1_takeAnswer_11 : decode cX1_takeAnswer 11 = .ok (.if_icmp .ne 4, 3) := by decide +kernel
theorem dX1_takeAnswer_14 : decode cX1_takeAnswer 14 = .ok (.return_, 1) := by decide +kernel
theorem dX1_takeAnswer_15 : decode cX1_takeAnswer 15 = .ok (.iload_n 2, 1) := by decide +kernel
theorem dX1_takeAnswer_16 : decode cX1_takeAnswer 16 = .ok (.sipush 300, 3) := by decide +kernel
theorem dX1_takeAnswer_19 : decode cX1_takeAnswer 19 = .ok (.if_icmp .ge 21, 3) := by decide +kernel
theorem dX1_takeAnswer_22 : decode cX1_takeAnswer 22 = .ok (.aload_n 0, 1) := by decide +kernel
theorem dX1_takeAnswer_23 : decode cX1_takeAnswer 23 = .ok (.iload_n 1, 1) := by decide +kernel
theorem dX1_takeAnswer_24 : decode cX1_takeAnswer 24 = .ok (.putfield 35, 3) := by decide +kernel
theorem dX1_takeAnswer_27 : decode cX1_takeAnswer 27 = .ok (.aload_n 0, 1) := by decide +kernel
theorem dX1_takeAnswer_28 : decode cX1_takeAnswer 28 = .ok (.invokevirtual 76, 3) := by decide +kernel
theorem dX1_takeAnswer_31 : decode cX1_takeAnswer 31 = .ok (.pop, 1) := by decide +kernel
theorem dX1_takeAnswer_32 : decode cX1_takeAnswer 32 = .ok (.aload_n 0, 1) := by decide +kernel
theorem dX1_takeAnswer_33 : decode cX1_takeAnswer 33 = .ok (.iload_n 2, 1) := by decide +kernel
theorem dX1_takeAnswer_34 : decode cX1_takeAnswer 34 = .ok (.putfield 38, 3) := by decide +kernel
theorem dX1_takeAnswer_37 : decode cX1_takeAnswer 37 = .ok (.goto 31, 3) := by decide +kernel
theorem dX1_takeAnswer_40 : decode cX1_takeAnswer 40 = .ok (.iload_n 2, 1) := by decide +kernel
theorem dX1_takeAnswer_41 : decode cX1_takeAnswer 41 = .ok (.sipush 600, 3) := by decide +kernel
theorem dX1_takeAnswer_44 : decode cX1_takeAnswer 44 = .ok (.if_icmp .lt 19, 3) := by decide +kernel
theorem dX1_takeAnswer_47 : decode cX1_takeAnswer 47 = .ok (.aload_n 0, 1) := by decide +kernel
theorem dX1_takeAnswer_48 : decode cX1_takeAnswer 48 = .ok (.invokevirtual 76, 3) := by decide +kernel
theorem dX1_takeAnswer_51 : decode cX1_takeAnswer 51 = .ok (.pop, 1) := by decide +kernel
theorem dX1_takeAnswer_52 : decode cX1_takeAnswer 52 = .ok (.aload_n 0, 1) := by decide +kernel
theorem dX1_takeAnswer_53 : decode cX1_takeAnswer 53 = .ok (.aload_n 0, 1) := by decide +kernel
theorem dX1_takeAnswer_54 : decode cX1_takeAnswer 54 = .ok (.invokevirtual 65, 3) := by decide +kernel
theorem dX1_takeAnswer_57 : decode cX1_takeAnswer 57 = .ok (.putfield 38, 3) := by decide +kernel
theorem dX1_takeAnswer_60 : decode cX1_takeAnswer 60 = .ok (.goto 8, 3) := by decide +kernel
theorem dX1_takeAnswer_63 : decode cX1_takeAnswer 63 = .ok (.aload_n 0, 1) := by decide +kernel
theorem dX1_takeAnswer_64 : decode cX1_takeAnswer 64 = .ok (.iload_n 3, 1) := by decide +kernel
theorem dX1_takeAnswer_65 : decode cX1_takeAnswer 65 = .ok (.invokevirtual 53, 3) := by decide +kernel
theorem dX1_takeAnswer_68 : decode cX1_takeAnswer 68 = .ok (.return_, 1) := by decide +kernel
theorem dX1_cancelAll_0 : decode cX1_cancelAll 0 = .ok (.aload_n 0, 1) := by decide +kernel
theorem dX1_cancelAll_1 : decode cX1_cancelAll 1 = .ok (.invokevirtual 76, 3) := by decide +kernel
theorem dX1_cancelAll_4 : decode cX1_cancelAll 4 = .ok (.istore_n 1, 1) := by decide +kernel
theorem dX1_cancelAll_5 : decode cX1_cancelAll 5 = .ok (.aload_n 0, 1) := by decide +kernel
theorem dX1_cancelAll_6 : decode cX1_cancelAll 6 = .ok (.iconst 1, 1) := by decide +kernel
theorem dX1_cancelAll_7 : decode cX1_cancelAll 7 = .ok (.putfield 41, 3) := by decide +kernel
theorem dX1_cancelAll_10 : decode cX1_cancelAll 10 = .ok (.aload_n 0, 1) := by decide +kernel
theorem dX1_cancelAll_11 : decode cX1_cancelAll 11 = .ok (.sipush 487, 3) := by decide +kernel
theorem dX1_cancelAll_14 : decode cX1_cancelAll 14 = .ok (.putfield 38, 3) := by decide +kernel
theorem dX1_cancelAll_17 : decode cX1_cancelAll 17 = .ok (.iload_n 1, 1) := by decide +kernel
theorem dX1_cancelAll_18 : decode cX1_cancelAll 18 = .ok (.ireturn, 1) := by decide +kernel
theorem dX1_endOpen_0 : decode cX1_endOpen 0 = .ok (.iconst 0, 1) := by decide +kernel
theorem dX1_endOpen_1 : decode cX1_endOpen 1 = .ok (.istore_n 1, 1) := by decide +kernel
theorem dX1_endOpen_2 : decode cX1_endOpen 2 = .ok (.iconst 0, 1) := by decide +kernel
theorem dX1_endOpen_3 : decode cX1_endOpen 3 = .ok (.istore_n 2, 1) := by decide +kernel
theorem dX1_endOpen_4 : decode cX1_endOpen 4 = .ok (.iload_n 2, 1) := by decide +kernel
theorem dX1_endOpen_5 : decode cX1_endOpen 5 = .ok (.aload_n 0, 1) := by decide +kernel
theorem dX1_endOpen_6 : decode cX1_endOpen 6 = .ok (.getfield 25, 3) := by decide +kernel
theorem dX1_endOpen_9 : decode cX1_endOpen 9 = .ok (.if_icmp .ge 29, 3) := by decide +kernel
theorem dX1_endOpen_12 : decode cX1_endOpen 12 = .ok (.aload_n 0, 1) := by decide +kernel
theorem dX1_endOpen_13 : decode cX1_endOpen 13 = .ok (.iload_n 2, 1) := by decide +kernel
theorem dX1_endOpen_14 : decode cX1_endOpen 14 = .ok (.invokevirtual 73, 3) := by decide +kernel
theorem dX1_endOpen_17 : decode cX1_endOpen 17 = .ok (.ifCond .ne 15, 3) := by decide +kernel
theorem dX1_endOpen_20 : decode cX1_endOpen 20 = .ok (.aload_n 0, 1) := by decide +kernel
theorem dX1_endOpen_21 : decode cX1_endOpen 21 = .ok (.getfield 18, 3) := by decide +kernel
theorem dX1_endOpen_24 : decode cX1_endOpen 24 = .ok (.iload_n 2, 1) := by decide +kernel
theorem dX1_endOpen_25 : decode cX1_endOpen 25 = .ok (.sipush 487, 3) := by decide +kernel
theorem dX1_endOpen_28 : decode cX1_endOpen 28 = .ok (.iastore, 1) := by decide +kernel
theorem dX1_endOpen_29 : decode cX1_endOpen 29 = .ok (.iinc 1 1, 3) := by decide +kernel
theorem dX1_endOpen_32 : decode cX1_endOpen 32 = .ok (.iinc 2 1, 3) := by decide +kernel
theorem dX1_endOpen_35 : decode cX1_endOpen 35 = .ok (.goto (-31), 3) := by decide +kernel
theorem dX1_endOpen_38 : decode cX1_endOpen 38 = .ok (.iload_n 1, 1) := by decide +kernel
theorem dX1_endOpen_39 : decode cX1_endOpen 39 = .ok (.ireturn, 1) := by decide +kernel
theorem dX1_endsWithTick_0 : decode cX1_endsWithTick 0 = .ok (.aload_n 0, 1) := by decide +kernel
theorem dX1_endsWithTick_1 : decode cX1_endsWithTick 1 = .ok (.getfield 38, 3) := by decide +kernel
theorem dX1_endsWithTick_4 : decode cX1_endsWithTick 4 = .ok (.iconst (-1), 1) := by decide +kernel
theorem dX1_endsWithTick_5 : decode cX1_endsWithTick 5 = .ok (.if_icmp .ne 14, 3) := by decide +kernel
theorem dX1_endsWithTick_8 : decode cX1_endsWithTick 8 = .ok (.iload_n 1, 1) := by decide +kernel
theorem dX1_endsWithTick_9 : decode cX1_endsWithTick 9 = .ok (.aload_n 0, 1) := by decide +kernel
theorem dX1_endsWithTick_10 : decode cX1_endsWithTick 10 = .ok (.getfield 32, 3) := by decide +kernel
theorem dX1_endsWithTick_13 : decode cX1_endsWithTick 13 = .ok (.isub, 1) := by decide +kernel
theorem dX1_endsWithTick_14 : decode cX1_endsWithTick 14 = .ok (.bipush 10, 2) := by decide +kernel
theorem dX1_endsWithTick_16 : decode cX1_endsWithTick 16 = .ok (.if_icmp .ge 5, 3) := by decide +kernel
theorem dX1_endsWithTick_19 : decode cX1_endsWithTick 19 = .ok (.iconst 0, 1) := by decide +kernel
theorem dX1_endsWithTick_20 : decode cX1_endsWithTick 20 = .ok (.ireturn, 1) := by decide +kernel
theorem dX1_endsWithTick_21 : decode cX1_endsWithTick 21 = .ok (.iconst 0, 1) := by decide +kernel
theorem dX1_endsWithTick_22 : decode cX1_endsWithTick 22 = .ok (.istore_n 2, 1) := by decide +kernel
theorem dX1_endsWithTick_23 : decode cX1_endsWithTick 23 = .ok (.iload_n 2, 1) := by decide +kernel
theorem dX1_endsWithTick_24 : decode cX1_endsWithTick 24 = .ok (.aload_n 0, 1) := by decide +kernel
theorem dX1_endsWithTick_25 : decode cX1_endsWithTick 25 = .ok (.getfield 25, 3) := by decide +kernel
theorem dX1_endsWithTick_28 : decode cX1_endsWithTick 28 = .ok (.if_icmp .ge 34, 3) := by decide +kernel
theorem dX1_endsWithTick_31 : decode cX1_endsWithTick 31 = .ok (.aload_n 0, 1) := by decide +kernel
theorem dX1_endsWithTick_32 : decode cX1_endsWithTick 32 = .ok (.iload_n 2, 1) := by decide +kernel
theorem dX1_endsWithTick_33 : decode cX1_endsWithTick 33 = .ok (.invokevirtual 69, 3) := by decide +kernel
theorem dX1_endsWithTick_36 : decode cX1_endsWithTick 36 = .ok (.ifCond .eq 20, 3) := by decide +kernel
theorem dX1_endsWithTick_39 : decode cX1_endsWithTick 39 = .ok (.aload_n 0, 1) := by decide +kernel
theorem dX1_endsWithTick_40 : decode cX1_endsWithTick 40 = .ok (.iload_n 2, 1) := by decide +kernel
theorem dX1_endsWithTick_41 : decode cX1_endsWithTick 41 = .ok (.invokevirtual 73, 3) := by decide +kernel
theorem dX1_endsWithTick_44 : decode cX1_endsWithTick 44 = .ok (.ifCond .ne 12, 3) := by decide +kernel
theorem dX1_endsWithTick_47 : decode cX1_endsWithTick 47 = .ok (.aload_n 0, 1) := by decide +kernel
theorem dX1_endsWithTick_48 : decode cX1_endsWithTick 48 = .ok (.getfield 18, 3) := by decide +kernel
theorem dX1_endsWithTick_51 : decode cX1_endsWithTick 51 = .ok (.iload_n 2, 1) := by decide +kernel
theorem dX1_endsWithTick_52 : decode cX1_endsWithTick 52 = .ok (.sipush 408, 3) := by decide +kernel
theorem dX1_endsWithTick_55 : decode cX1_endsWithTick 55 = .ok (.iastore, 1) := by decide +kernel
theorem dX1_endsWithTick_56 : decode cX1_endsWithTick 56 = .ok (.iinc 2 1, 3) := by decide +kernel
theorem dX1_endsWithTick_59 : decode cX1_endsWithTick 59 = .ok (.goto (-36), 3) := by decide +kernel
theorem dX1_endsWithTick_62 : decode cX1_endsWithTick 62 = .ok (.aload_n 0, 1) := by decide +kernel
theorem dX1_endsWithTick_63 : decode cX1_endsWithTick 63 = .ok (.iload_n 1, 1) := by decide +kernel
theorem dX1_endsWithTick_64 : decode cX1_endsWithTick 64 = .ok (.invokevirtual 53, 3) := by decide +kernel
theorem dX1_endsWithTick_67 : decode cX1_endsWithTick 67 = .ok (.aload_n 0, 1) := by decide +kernel
theorem dX1_endsWithTick_68 : decode cX1_endsWithTick 68 = .ok (.getfield 38, 3) := by decide +kernel
theorem dX1_endsWithTick_71 : decode cX1_endsWithTick 71 = .ok (.iconst (-1), 1) := by decide +kernel
theorem dX1_endsWithTick_72 : decode cX1_endsWithTick 72 = .ok (.if_icmp .eq 7, 3) := by decide +kernel
theorem dX1_endsWithTick_75 : decode cX1_endsWithTick 75 = .ok (.iconst 1, 1) := by decide +kernel
theorem dX1_endsWithTick_76 : decode cX1_endsWithTick 76 = .ok (.goto 4, 3) := by decide +kernel
theorem dX1_endsWithTick_79 : decode cX1_endsWithTick 79 = .ok (.iconst 0, 1) := by decide +kernel
theorem dX1_endsWithTick_80 : decode cX1_endsWithTick 80 = .ok (.ireturn, 1) := by decide +kernel
theorem dX1_bestEnd_0 : decode cX1_bestEnd 0 = .ok (.iconst (-1), 1) := by decide +kernel
theorem dX1_bestEnd_1 : decode cX1_bestEnd 1 = .ok (.istore_n 1, 1) := by decide +kernel
theorem dX1_bestEnd_2 : decode cX1_bestEnd 2 = .ok (.iconst (-1), 1) := by decide +kernel
theorem dX1_bestEnd_3 : decode cX1_bestEnd 3 = .ok (.istore_n 2, 1) := by decide +kernel
theorem dX1_bestEnd_4 : decode cX1_bestEnd 4 = .ok (.iconst 0, 1) := by decide +kernel
theorem dX1_bestEnd_5 : decode cX1_bestEnd 5 = .ok (.istore_n 3, 1) := by decide +kernel
theorem dX1_bestEnd_6 : decode cX1_bestEnd 6 = .ok (.iload_n 3, 1) := by decide +kernel
theorem dX1_bestEnd_7 : decode cX1_bestEnd 7 = .ok (.aload_n 0, 1) := by decide +kernel
theorem dX1_bestEnd_8 : decode cX1_bestEnd 8 = .ok (.getfield 25, 3) := by decide +kernel
theorem dX1_bestEnd_11 : decode cX1_bestEnd 11 = .ok (.if_icmp .ge 49, 3) := by decide +kernel
theorem dX1_bestEnd_14 : decode cX1_bestEnd 14 = .ok (.aload_n 0, 1) := by decide +kernel
theorem dX1_bestEnd_15 : decode cX1_bestEnd 15 = .ok (.getfield 18, 3) := by decide +kernel
theorem dX1_bestEnd_18 : decode cX1_bestEnd 18 = .ok (.iload_n 3, 1) := by decide +kernel
theorem dX1_bestEnd_19 : decode cX1_bestEnd 19 = .ok (.iaload, 1) := by decide +kernel
theorem dX1_bestEnd_20 : decode cX1_bestEnd 20 = .ok (.istore 4, 2) := by decide +kernel
theorem dX1_bestEnd_22 : decode cX1_bestEnd 22 = .ok (.iload 4, 2) := by decide +kernel
theorem dX1_bestEnd_24 : decode cX1_bestEnd 24 = .ok (.sipush 487, 3) := by decide +kernel
theorem dX1_bestEnd_27 : decode cX1_bestEnd 27 = .ok (.if_icmp .eq 27, 3) := by decide +kernel
theorem dX1_bestEnd_30 : decode cX1_bestEnd 30 = .ok (.iload_n 1, 1) := by decide +kernel
theorem dX1_bestEnd_31 : decode cX1_bestEnd 31 = .ok (.iconst (-1), 1) := by decide +kernel
theorem dX1_bestEnd_32 : decode cX1_bestEnd 32 = .ok (.if_icmp .ne 8, 3) := by decide +kernel
theorem dX1_bestEnd_35 : decode cX1_bestEnd 35 = .ok (.iload 4, 2) := by decide +kernel
theorem dX1_bestEnd_37 : decode cX1_bestEnd 37 = .ok (.goto 9, 3) := by decide +kernel
theorem dX1_bestEnd_40 : decode cX1_bestEnd 40 = .ok (.iload_n 1, 1) := by decide +kernel
theorem dX1_bestEnd_41 : decode cX1_bestEnd 41 = .ok (.iload 4, 2) := by decide +kernel
theorem dX1_bestEnd_43 : decode cX1_bestEnd 43 = .ok (.invokestatic 79, 3) := by decide +kernel
theorem dX1_bestEnd_46 : decode cX1_bestEnd 46 = .ok (.istore_n 1, 1) := by decide +kernel
theorem dX1_bestEnd_47 : decode cX1_bestEnd 47 = .ok (.iload_n 2, 1) := by decide +kernel
theorem dX1_bestEnd_48 : decode cX1_bestEnd 48 = .ok (.iload 4, 2) := by decide +kernel
theorem dX1_bestEnd_50 : decode cX1_bestEnd 50 = .ok (.invokestatic 85, 3) := by decide +kernel
theorem dX1_bestEnd_53 : decode cX1_bestEnd 53 = .ok (.istore_n 2, 1) := by decide +kernel
theorem dX1_bestEnd_54 : decode cX1_bestEnd 54 = .ok (.iinc 3 1, 3) := by decide +kernel
theorem dX1_bestEnd_57 : decode cX1_bestEnd 57 = .ok (.goto (-51), 3) := by decide +kernel
theorem dX1_bestEnd_60 : decode cX1_bestEnd 60 = .ok (.iload_n 2, 1) := by decide +kernel
theorem dX1_bestEnd_61 : decode cX1_bestEnd 61 = .ok (.sipush 600, 3) := by decide +kernel
theorem dX1_bestEnd_64 : decode cX1_bestEnd 64 = .ok (.if_icmp .lt 5, 3) := by decide +kernel
theorem dX1_bestEnd_67 : decode cX1_bestEnd 67 = .ok (.iload_n 2, 1) := by decide +kernel
theorem dX1_bestEnd_68 : decode cX1_bestEnd 68 = .ok (.ireturn, 1) := by decide +kernel
theorem dX1_bestEnd_69 : decode cX1_bestEnd 69 = .ok (.iload_n 1, 1) := by decide +kernel
theorem dX1_bestEnd_70 : decode cX1_bestEnd 70 = .ok (.iconst (-1), 1) := by decide +kernel
theorem dX1_bestEnd_71 : decode cX1_bestEnd 71 = .ok (.if_icmp .ne 9, 3) := by decide +kernel
theorem dX1_bestEnd_74 : decode cX1_bestEnd 74 = .ok (.sipush 487, 3) := by decide +kernel
theorem dX1_bestEnd_77 : decode cX1_bestEnd 77 = .ok (.goto 4, 3) := by decide +kernel
theorem dX1_bestEnd_80 : decode cX1_bestEnd 80 = .ok (.iload_n 1, 1) := by decide +kernel
theorem dX1_bestEnd_81 : decode cX1_bestEnd 81 = .ok (.ireturn, 1) := by decide +kernel
theorem dX1_finalFromSorted_0 : decode cX1_finalFromSorted 0 = .ok (.aload_n 0, 1) := by decide +kernel
theorem dX1_finalFromSorted_1 : decode cX1_finalFromSorted 1 = .ok (.getfield 25, 3) := by decide +kernel
theorem dX1_finalFromSorted_4 : decode cX1_finalFromSorted 4 = .ok (.ifCond .ne 7, 3) := by decide +kernel
theorem dX1_finalFromSorted_7 : decode cX1_finalFromSorted 7 = .ok (.sipush 480, 3) := by decide +kernel
theorem dX1_finalFromSorted_10 : decode cX1_finalFromSorted 10 = .ok (.ireturn, 1) := by decide +kernel
theorem dX1_finalFromSorted_11 : decode cX1_finalFromSorted 11 = .ok (.aload_n 0, 1) := by decide +kernel
theorem dX1_finalFromSorted_12 : decode cX1_finalFromSorted 12 = .ok (.aload_n 1, 1) := by decide +kernel
theorem dX1_finalFromSorted_13 : decode cX1_finalFromSorted 13 = .ok (.invokevirtual 88, 3) := by decide +kernel
theorem dX1_finalFromSorted_16 : decode cX1_finalFromSorted 16 = .ok (.istore_n 2, 1) := by decide +kernel
theorem dX1_finalFromSorted_17 : decode cX1_finalFromSorted 17 = .ok (.aload_n 0, 1) := by decide +kernel
theorem dX1_finalFromSorted_18 : decode cX1_finalFromSorted 18 = .ok (.getfield 41, 3) := by decide +kernel
theorem dX1_finalFromSorted_21 : decode cX1_finalFromSorted 21 = .ok (.ifCond .ne 7, 3) := by decide +kernel
theorem dX1_finalFromSorted_24 : decode cX1_finalFromSorted 24 = .ok (.iload_n 2, 1) := by decide +kernel
theorem dX1_finalFromSorted_25 : decode cX1_finalFromSorted 25 = .ok (.ifCond .ne 7, 3) := by decide +kernel
theorem dX1_finalFromSorted_28 : decode cX1_finalFromSorted 28 = .ok (.sipush 487, 3) := by decide +kernel
theorem dX1_finalFromSorted_31 : decode cX1_finalFromSorted 31 = .ok (.ireturn, 1) := by decide +kernel
theorem dX1_finalFromSorted_32 : decode cX1_finalFromSorted 32 = .ok (.aload_n 1, 1) := by decide +kernel
theorem dX1_finalFromSorted_33 : decode cX1_finalFromSorted 33 = .ok (.iload_n 2, 1) := by decide +kernel
theorem dX1_finalFromSorted_34 : decode cX1_finalFromSorted 34 = .ok (.iconst 1, 1) := by decide +kernel
theorem dX1_finalFromSorted_35 : decode cX1_finalFromSorted 35 = .ok (.isub, 1) := by decide +kernel
theorem dX1_finalFromSorted_36 : decode cX1_finalFromSorted 36 = .ok (.iaload, 1) := by decide +kernel
theorem dX1_finalFromSorted_37 : decode cX1_finalFromSorted 37 = .ok (.sipush 600, 3) := by decide +kernel
theorem dX1_finalFromSorted_40 : decode cX1_finalFromSorted 40 = .ok (.if_icmp .lt 11, 3) := by decide +kernel
theorem dX1_finalFromSorted_43 : decode cX1_finalFromSorted 43 = .ok (.aload_n 1, 1) := by decide +kernel
theorem dX1_finalFromSorted_44 : decode cX1_finalFromSorted 44 = .ok (.iload_n 2, 1) := by decide +kernel
theorem dX1_finalFromSorted_45 : decode cX1_finalFromSorted 45 = .ok (.iconst 1, 1) := by decide +kernel
theorem dX1_finalFromSorted_46 : decode cX1_finalFromSorted 46 = .ok (.isub, 1) := by decide +kernel
theorem dX1_finalFromSorted_47 : decode cX1_finalFromSorted 47 = .ok (.iaload, 1) := by decide +kernel
theorem dX1_finalFromSorted_48 : decode cX1_finalFromSorted 48 = .ok (.goto 6, 3) := by decide +kernel
theorem dX1_finalFromSorted_51 : decode cX1_finalFromSorted 51 = .ok (.aload_n 1, 1) := by decide +kernel
theorem dX1_finalFromSorted_52 : decode cX1_finalFromSorted 52 = .ok (.iconst 0, 1) := by decide +kernel
theorem dX1_finalFromSorted_53 : decode cX1_finalFromSorted 53 = .ok (.iaload, 1) := by decide +kernel
theorem dX1_finalFromSorted_54 : decode cX1_finalFromSorted 54 = .ok (.ireturn, 1) := by decide +kernel
theorem dX1_sortEnds_0 : decode cX1_sortEnds 0 = .ok (.iconst 0, 1) := by decide +kernel
theorem dX1_sortEnds_1 : decode cX1_sortEnds 1 = .ok (.istore_n 2, 1) := by decide +kernel
theorem dX1_sortEnds_2 : decode cX1_sortEnds 2 = .ok (.iconst 0, 1) := by decide +kernel
theorem dX1_sortEnds_3 : decode cX1_sortEnds 3 = .ok (.istore_n 3, 1) := by decide +kernel
theorem dX1_sortEnds_4 : decode cX1_sortEnds 4 = .ok (.iload_n 3, 1) := by decide +kernel
theorem dX1_sortEnds_5 : decode cX1_sortEnds 5 = .ok (.aload_n 0, 1) := by decide +kernel
theorem dX1_sortEnds_6 : decode cX1_sortEnds 6 = .ok (.getfield 25, 3) := by decide +kernel
theorem dX1_sortEnds_9 : decode cX1_sortEnds 9 = .ok (.if_icmp .ge 41, 3) := by decide +kernel
theorem dX1_sortEnds_12 : decode cX1_sortEnds 12 = .ok (.iload_n 2, 1) := by decide +kernel
theorem dX1_sortEnds_13 : decode cX1_sortEnds 13 = .ok (.aload_n 1, 1) := by decide +kernel
theorem dX1_sortEnds_14 : decode cX1_sortEnds 14 = .ok (.arraylength, 1) := by decide +kernel
theorem dX1_sortEnds_15 : decode cX1_sortEnds 15 = .ok (.if_icmp .ge 35, 3) := by decide +kernel
theorem dX1_sortEnds_18 : decode cX1_sortEnds 18 = .ok (.aload_n 0, 1) := by decide +kernel
theorem dX1_sortEnds_19 : decode cX1_sortEnds 19 = .ok (.getfield 18, 3) := by decide +kernel
theorem dX1_sortEnds_22 : decode cX1_sortEnds 22 = .ok (.iload_n 3, 1) := by decide +kernel
theorem dX1_sortEnds_23 : decode cX1_sortEnds 23 = .ok (.iaload, 1) := by decide +kernel
theorem dX1_sortEnds_24 : decode cX1_sortEnds 24 = .ok (.sipush 487, 3) := by decide +kernel
theorem dX1_sortEnds_27 : decode cX1_sortEnds 27 = .ok (.if_icmp .eq 17, 3) := by decide +kernel
theorem dX1_sortEnds_30 : decode cX1_sortEnds 30 = .ok (.aload_n 1, 1) := by decide +kernel
theorem dX1_sortEnds_31 : decode cX1_sortEnds 31 = .ok (.iload_n 2, 1) := by decide +kernel
theorem dX1_sortEnds_32 : decode cX1_sortEnds 32 = .ok (.aload_n 0, 1) := by decide +kernel
theorem dX1_sortEnds_33 : decode cX1_sortEnds 33 = .ok (.getfield 18, 3) := by decide +kernel
theorem dX1_sortEnds_36 : decode cX1_sortEnds 36 = .ok (.iload_n 3, 1) := by decide +kernel
theorem dX1_sortEnds_37 : decode cX1_sortEnds 37 = .ok (.iaload, 1) := by decide +kernel
theorem dX1_sortEnds_38 : decode cX1_sortEnds 38 = .ok (.invokestatic 92, 3) := by decide +kernel
theorem dX1_sortEnds_41 : decode cX1_sortEnds 41 = .ok (.iinc 2 1, 3) := by decide +kernel
theorem dX1_sortEnds_44 : decode cX1_sortEnds 44 = .ok (.iinc 3 1, 3) := by decide +kernel
theorem dX1_sortEnds_47 : decode cX1_sortEnds 47 = .ok (.goto (-43), 3) := by decide +kernel
theorem dX1_sortEnds_50 : decode cX1_sortEnds 50 = .ok (.iload_n 2, 1) := by decide +kernel
theorem dX1_sortEnds_51 : decode cX1_sortEnds 51 = .ok (.ireturn, 1) := by decide +kernel
theorem dX1_insert_0 : decode cX1_insert 0 = .ok (.iload_n 1, 1) := by decide +kernel
theorem dX1_insert_1 : decode cX1_insert 1 = .ok (.istore_n 3, 1) := by decide +kernel
theorem dX1_insert_2 : decode cX1_insert 2 = .ok (.iload_n 3, 1) := by decide +kernel
theorem dX1_insert_3 : decode cX1_insert 3 = .ok (.ifCond .le 26, 3) := by decide +kernel
theorem dX1_insert_6 : decode cX1_insert 6 = .ok (.aload_n 0, 1) := by decide +kernel
theorem dX1_insert_7 : decode cX1_insert 7 = .ok (.iload_n 3, 1) := by decide +kernel
theorem dX1_insert_8 : decode cX1_insert 8 = .ok (.iconst 1, 1) := by decide +kernel
theorem dX1_insert_9 : decode cX1_insert 9 = .ok (.isub, 1) := by decide +kernel
theorem dX1_insert_10 : decode cX1_insert 10 = .ok (.iaload, 1) := by decide +kernel
theorem dX1_insert_11 : decode cX1_insert 11 = .ok (.iload_n 2, 1) := by decide +kernel
theorem dX1_insert_12 : decode cX1_insert 12 = .ok (.if_icmp .le 17, 3) := by decide +kernel
theorem dX1_insert_15 : decode cX1_insert 15 = .ok (.aload_n 0, 1) := by decide +kernel
theorem dX1_insert_16 : decode cX1_insert 16 = .ok (.iload_n 3, 1) := by decide +kernel
theorem dX1_insert_17 : decode cX1_insert 17 = .ok (.aload_n 0, 1) := by decide +kernel
theorem dX1_insert_18 : decode cX1_insert 18 = .ok (.iload_n 3, 1) := by decide +kernel
theorem dX1_insert_19 : decode cX1_insert 19 = .ok (.iconst 1, 1) := by decide +kernel
theorem dX1_insert_20 : decode cX1_insert 20 = .ok (.isub, 1) := by decide +kernel
theorem dX1_insert_21 : decode cX1_insert 21 = .ok (.iaload, 1) := by decide +kernel
theorem dX1_insert_22 : decode cX1_insert 22 = .ok (.iastore, 1) := by decide +kernel
theorem dX1_insert_23 : decode cX1_insert 23 = .ok (.iinc 3 (-1), 3) := by decide +kernel
theorem dX1_insert_26 : decode cX1_insert 26 = .ok (.goto (-24), 3) := by decide +kernel
theorem dX1_insert_29 : decode cX1_insert 29 = .ok (.aload_n 0, 1) := by decide +kernel
theorem dX1_insert_30 : decode cX1_insert 30 = .ok (.iload_n 3, 1) := by decide +kernel
theorem dX1_insert_31 : decode cX1_insert 31 = .ok (.iload_n 2, 1) := by decide +kernel
theorem dX1_insert_32 : decode cX1_insert 32 = .ok (.iastore, 1) := by decide +kernel
theorem dX1_insert_33 : decode cX1_insert 33 = .ok (.return_, 1) := by decide +kernel
theorem dX2_init_0 : decode cX2_init 0 = .ok (.aload_n 0, 1) := by decide +kernel
theorem dX2_init_1 : decode cX2_init 1 = .ok (.invokespecial 3, 3) := by decide +kernel
theorem dX2_init_4 : decode cX2_init 4 = .ok (.aload_n 0, 1) := by decide +kernel
theorem dX2_init_5 : decode cX2_init 5 = .ok (.bipush 6, 2) := by decide +kernel
theorem dX2_init_7 : decode cX2_init 7 = .ok (.anewarray 9, 3) := by decide +kernel
theorem dX2_init_10 : decode cX2_init 10 = .ok (.putfield 11, 3) := by decide +kernel
theorem dX2_init_13 : decode cX2_init 13 = .ok (.aload_n 0, 1) := by decide +kernel
theorem dX2_init_14 : decode cX2_init 14 = .ok (.bipush 20, 2) := by decide +kernel
theorem dX2_init_16 : decode cX2_init 16 = .ok (.anewarray 15, 3) := by decide +kernel
theorem dX2_init_19 : decode cX2_init 19 = .ok (.putfield 17, 3) := by decide +kernel
theorem dX2_init_22 : decode cX2_init 22 = .ok (.aload_n 0, 1) := by decide +kernel
theorem dX2_init_23 : decode cX2_init 23 = .ok (.bipush 10, 2) := by decide +kernel
theorem dX2_init_25 : decode cX2_init 25 = .ok (.newarray .int, 2) := by decide +kernel
theorem dX2_init_27 : decode cX2_init 27 = .ok (.putfield 21, 3) := by decide +kernel
theorem dX2_init_30 : decode cX2_init 30 = .ok (.aload_n 0, 1) := by decide +kernel
theorem dX2_init_31 : decode cX2_init 31 = .ok (.iconst 3, 1) := by decide +kernel
theorem dX2_init_32 : decode cX2_init 32 = .ok (.newarray .int, 2) := by decide +kernel
theorem dX2_init_34 : decode cX2_init 34 = .ok (.putfield 25, 3) := by decide +kernel
theorem dX2_init_37 : decode cX2_init 37 = .ok (.aload_n 0, 1) := by decide +kernel
theorem dX2_init_38 : decode cX2_init 38 = .ok (.bipush 12, 2) := by decide +kernel
theorem dX2_init_40 : decode cX2_init 40 = .ok (.newarray .int, 2) := by decide +kernel
theorem dX2_init_42 : decode cX2_init 42 = .ok (.putfield 28, 3) := by decide +kernel
theorem dX2_init_45 : decode cX2_init 45 = .ok (.aload_n 0, 1) := by decide +kernel
theorem dX2_init_46 : decode cX2_init 46 = .ok (.iconst 0, 1) := by decide +kernel
theorem dX2_init_47 : decode cX2_init 47 = .ok (.putfield 31, 3) := by decide +kernel
theorem dX2_init_50 : decode cX2_init 50 = .ok (.aload_n 0, 1) := by decide +kernel
theorem dX2_init_51 : decode cX2_init 51 = .ok (.iconst 0, 1) := by decide +kernel
theorem dX2_init_52 : decode cX2_init 52 = .ok (.putfield 35, 3) := by decide +kernel
theorem dX2_init_55 : decode cX2_init 55 = .ok (.iconst 0, 1) := by decide +kernel
theorem dX2_init_56 : decode cX2_init 56 = .ok (.istore_n 1, 1) := by decide +kernel
theorem dX2_init_57 : decode cX2_init 57 = .ok (.iload_n 1, 1) := by decide +kernel
theorem dX2_init_58 : decode cX2_init 58 = .ok (.bipush 6, 2) := by decide +kernel
theorem dX2_init_60 : decode cX2_init 60 = .ok (.if_icmp .ge 22, 3) := by decide +kernel
theorem dX2_init_63 : decode cX2_init 63 = .ok (.aload_n 0, 1) := by decide +kernel
theorem dX2_init_64 : decode cX2_init 64 = .ok (.getfield 11, 3) := by decide +kernel
theorem dX2_init_67 : decode cX2_init 67 = .ok (.iload_n 1, 1) := by decide +kernel
theorem dX2_init_68 : decode cX2_init 68 = .ok (.new 9, 3) := by decide +kernel
theorem dX2_init_71 : decode cX2_init 71 = .ok (.dup, 1) := by decide +kernel
theorem dX2_init_72 : decode cX2_init 72 = .ok (.invokespecial 38, 3) := by decide +kernel
theorem dX2_init_75 : decode cX2_init 75 = .ok (.aastore, 1) := by decide +kernel
theorem dX2_init_76 : decode cX2_init 76 = .ok (.iinc 1 1, 3) := by decide +kernel
theorem dX2_init_79 : decode cX2_init 79 = .ok (.goto (-22), 3) := by decide +kernel
theorem dX2_init_82 : decode cX2_init 82 = .ok (.iconst 0, 1) := by decide +kernel
theorem dX2_init_83 : decode cX2_init 83 = .ok (.istore_n 1, 1) := by decide +kernel
theorem dX2_init_84 : decode cX2_init 84 = .ok (.iload_n 1, 1) := by decide +kernel
theorem dX2_init_85 : decode cX2_init 85 = .ok (.bipush 20, 2) := by decide +kernel
theorem dX2_init_87 : decode cX2_init 87 = .ok (.if_icmp .ge 22, 3) := by decide +kernel
theorem dX2_init_90 : decode cX2_init 90 = .ok (.aload_n 0, 1) := by decide +kernel
theorem dX2_init_91 : decode cX2_init 91 = .ok (.getfield 17, 3) := by decide +kernel
theorem dX2_init_94 : decode cX2_init 94 = .ok (.iload_n 1, 1) := by decide +kernel
theorem dX2_init_95 : decode cX2_init 95 = .ok (.new 15, 3) := by decide +kernel
theorem dX2_init_98 : decode cX2_init 98 = .ok (.dup, 1) := by decide +kernel
theorem dX2_init_99 : decode cX2_init 99 = .ok (.invokespecial 39, 3) := by decide +kernel
theorem dX2_init_102 : decode cX2_init 102 = .ok (.aastore, 1) := by decide +kernel
theorem dX2_init_103 : decode cX2_init 103 = .ok (.iinc 1 1, 3) := by decide +kernel
theorem dX2_init_106 : decode cX2_init 106 = .ok (.goto (-22), 3) := by decide +kernel
theorem dX2_init_109 : decode cX2_init 109 = .ok (.return_, 1) := by decide +kernel
theorem dX2_register_0 : decode cX2_register 0 = .ok (.aload_n 0, 1) := by decide +kernel
theorem dX2_register_1 : decode cX2_register 1 = .ok (.iload_n 1, 1) := by decide +kernel
theorem dX2_register_2 : decode cX2_register 2 = .ok (.invokevirtual 40, 3) := by decide +kernel
theorem dX2_register_5 : decode cX2_register 5 = .ok (.astore 6, 2) := by decide +kernel
theorem dX2_register_7 : decode cX2_register 7 = .ok (.iload_n 2, 1) := by decide +kernel
theorem dX2_register_8 : decode cX2_register 8 = .ok (.bipush 15, 2) := by decide +kernel
theorem dX2_register_10 : decode cX2_register 10 = .ok (.invokestatic 44, 3) := by decide +kernel
theorem dX2_register_13 : decode cX2_register 13 = .ok (.ifCond .ne 12, 3) := by decide +kernel
theorem dX2_register_16 : decode cX2_register 16 = .ok (.iload_n 3, 1) := by decide +kernel
theorem dX2_register_17 : decode cX2_register 17 = .ok (.bipush 10, 2) := by decide +kernel
theorem dX2_register_19 : decode cX2_register 19 = .ok (.invokestatic 44, 3) := by decide +kernel
theorem dX2_register_22 : decode cX2_register 22 = .ok (.ifCond .eq 13, 3) := by decide +kernel
theorem dX2_register_25 : decode cX2_register 25 = .ok (.new 48, 3) := by decide +kernel
theorem dX2_register_28 : decode cX2_register 28 = .ok (.dup, 1) := by decide +kernel
theorem dX2_register_29 : decode cX2_register 29 = .ok (.ldc 50, 2) := by decide +kernel
theorem dX2_register_31 : decode cX2_register 31 = .ok (.invokespecial 52, 3) := by decide +kernel
theorem dX2_register_34 : decode cX2_register 34 = .ok (.athrow, 1) := by decide +kernel
theorem dX2_register_35 : decode cX2_register 35 = .ok (.iload 4, 2) := by decide +kernel
theorem dX2_register_37 : decode cX2_register 37 = .ok (.sipush 1000, 3) := by decide +kernel
theorem dX2_register_40 : decode cX2_register 40 = .ok (.invokestatic 44, 3) := by decide +kernel
theorem dX2_register_43 : decode cX2_register 43 = .ok (.ifCond .ne 14, 3) := by decide +kernel
theorem dX2_register_46 : decode cX2_register 46 = .ok (.iload 5, 2) := by decide +kernel
theorem dX2_register_48 : decode cX2_register 48 = .ok (.sipush 10000, 3) := by decide +kernel
theorem dX2_register_51 : decode cX2_register 51 = .ok (.invokestatic 44, 3) := by decide +kernel
theorem dX2_register_54 : decode cX2_register 54 = .ok (.ifCond .eq 13, 3) := by decide +kernel
theorem dX2_register_57 : decode cX2_register 57 = .ok (.new 48, 3) := by decide +kernel
theorem dX2_register_60 : decode cX2_register 60 = .ok (.dup, 1) := by decide +kernel
theorem dX2_register_61 : decode cX2_register 61 = .ok (.ldc 55, 2) := by decide +kernel
theorem dX2_register_63 : decode cX2_register 63 = .ok (.invokespecial 52, 3) := by decide +kernel
theorem dX2_register_66 : decode cX2_register 66 = .ok (.athrow, 1) := by decide +kernel
theorem dX2_register_67 : decode cX2_register 67 = .ok (.iload 5, 2) := by decide +kernel
theorem dX2_register_69 : decode cX2_register 69 = .ok (.aload 6, 2) := by decide +kernel
theorem dX2_register_71 : decode cX2_register 71 = .ok (.getfield 57, 3) := by decide +kernel
theorem dX2_register_74 : decode cX2_register 74 = .ok (.iload_n 2, 1) := by decide +kernel
theorem dX2_register_75 : decode cX2_register 75 = .ok (.iaload, 1) := by decide +kernel
theorem dX2_register_76 : decode cX2_register 76 = .ok (.if_icmp .gt 13, 3) := by decide +kernel
theorem dX2_register_79 : decode cX2_register 79 = .ok (.new 60, 3) := by decide +kernel
theorem dX2_register_82 : decode cX2_register 82 = .ok (.dup, 1) := by decide +kernel
theorem dX2_register_83 : decode cX2_register 83 = .ok (.ldc 62, 2) := by decide +kernel
theorem dX2_register_85 : decode cX2_register 85 = .ok (.invokespecial 64, 3) := by decide +kernel
theorem dX2_register_88 : decode cX2_register 88 = .ok (.athrow, 1) := by decide +kernel
theorem dX2_register_89 : decode cX2_register 89 = .ok (.iload 4, 2) := by decide +kernel
theorem dX2_register_91 : decode cX2_register 91 = .ok (.ifCond .eq 28, 3) := by decide +kernel
theorem dX2_register_94 : decode cX2_register 94 = .ok (.aload 6, 2) := by decide +kernel
theorem dX2_register_96 : decode cX2_register 96 = .ok (.iload_n 2, 1) := by decide +kernel
theorem dX2_register_97 : decode cX2_register 97 = .ok (.aload_n 0, 1) := by decide +kernel
theorem dX2_register_98 : decode cX2_register 98 = .ok (.getfield 35, 3) := by decide +kernel
theorem dX2_register_101 : decode cX2_register 101 = .ok (.invokevirtual 65, 3) := by decide +kernel
theorem dX2_register_104 : decode cX2_register 104 = .ok (.bipush 6, 2) := by decide +kernel
theorem dX2_register_106 : decode cX2_register 106 = .ok (.if_icmp .lt 13, 3) := by decide +kernel
theorem dX2_register_109 : decode cX2_register 109 = .ok (.new 60, 3) := by decide +kernel
theorem dX2_register_112 : decode cX2_register 112 = .ok (.dup, 1) := by decide +kernel
theorem dX2_register_113 : decode cX2_register 113 = .ok (.ldc 69, 2) := by decide +kernel
theorem dX2_register_115 : decode cX2_register 115 = .ok (.invokespecial 64, 3) := by decide +kernel
theorem dX2_register_118 : decode cX2_register 118 = .ok (.athrow, 1) := by decide +kernel
theorem dX2_register_119 : decode cX2_register 119 = .ok (.aload 6, 2) := by decide +kernel
theorem dX2_register_121 : decode cX2_register 121 = .ok (.iload_n 2, 1) := by decide +kernel
theorem dX2_register_122 : decode cX2_register 122 = .ok (.iload_n 3, 1) := by decide +kernel
theorem dX2_register_123 : decode cX2_register 123 = .ok (.aload_n 0, 1) := by decide +kernel
theorem dX2_register_124 : decode cX2_register 124 = .ok (.getfield 35, 3) := by decide +kernel
theorem dX2_register_127 : decode cX2_register 127 = .ok (.iload 4, 2) := by decide +kernel
theorem dX2_register_129 : decode cX2_register 129 = .ok (.iadd, 1) := by decide +kernel
theorem dX2_register_130 : decode cX2_register 130 = .ok (.iload 5, 2) := by decide +kernel
theorem dX2_register_132 : decode cX2_register 132 = .ok (.invokevirtual 71, 3) := by decide +kernel
theorem dX2_register_135 : decode cX2_register 135 = .ok (.aload 6, 2) := by decide +kernel
theorem dX2_register_137 : decode cX2_register 137 = .ok (.aload_n 0, 1) := by decide +kernel
theorem dX2_register_138 : decode cX2_register 138 = .ok (.getfield 35, 3) := by decide +kernel
theorem dX2_register_141 : decode cX2_register 141 = .ok (.invokevirtual 75, 3) := by decide +kernel
theorem dX2_register_144 : decode cX2_register 144 = .ok (.ireturn, 1) := by decide +kernel
theorem dX2_bindings_0 : decode cX2_bindings 0 = .ok (.aload_n 0, 1) := by decide +kernel
theorem dX2_bindings_1 : decode cX2_bindings 1 = .ok (.iload_n 1, 1) := by decide +kernel
theorem dX2_bindings_2 : decode cX2_bindings 2 = .ok (.invokevirtual 40, 3) := by decide +kernel
theorem dX2_bindings_5 : decode cX2_bindings 5 = .ok (.aload_n 0, 1) := by decide +kernel
theorem dX2_bindings_6 : decode cX2_bindings 6 = .ok (.getfield 35, 3) := by decide +kernel
theorem dX2_bindings_9 : decode cX2_bindings 9 = .ok (.invokevirtual 75, 3) := by decide +kernel
theorem dX2_bindings_12 : decode cX2_bindings 12 = .ok (.ireturn, 1) := by decide +kernel
theorem dX2_binding_0 : decode cX2_binding 0 = .ok (.aload_n 0, 1) := by decide +kernel
theorem dX2_binding_1 : decode cX2_binding 1 = .ok (.iload_n 1, 1) := by decide +kernel
theorem dX2_binding_2 : decode cX2_binding 2 = .ok (.invokevirtual 40, 3) := by decide +kernel
theorem dX2_binding_5 : decode cX2_binding 5 = .ok (.astore_n 3, 1) := by decide +kernel
theorem dX2_binding_6 : decode cX2_binding 6 = .ok (.aload_n 3, 1) := by decide +kernel
theorem dX2_binding_7 : decode cX2_binding 7 = .ok (.iload_n 2, 1) := by decide +kernel
theorem dX2_binding_8 : decode cX2_binding 8 = .ok (.aload_n 0, 1) := by decide +kernel
theorem dX2_binding_9 : decode cX2_binding 9 = .ok (.getfield 35, 3) := by decide +kernel
theorem dX2_binding_12 : decode cX2_binding 12 = .ok (.invokevirtual 79, 3) := by decide +kernel
theorem dX2_binding_15 : decode cX2_binding 15 = .ok (.istore 4, 2) := by decide +kernel
theorem dX2_binding_17 : decode cX2_binding 17 = .ok (.iload 4, 2) := by decide +kernel
theorem dX2_binding_19 : decode cX2_binding 19 = .ok (.iconst (-1), 1) := by decide +kernel
theorem dX2_binding_20 : decode cX2_binding 20 = .ok (.if_icmp .ne 13, 3) := by decide +kernel
theorem dX2_binding_23 : decode cX2_binding 23 = .ok (.new 82, 3) := by decide +kernel
theorem dX2_binding_26 : decode cX2_binding 26 = .ok (.dup, 1) := by decide +kernel
theorem dX2_binding_27 : decode cX2_binding 27 = .ok (.ldc 84, 2) := by decide +kernel
theorem dX2_binding_29 : decode cX2_binding 29 = .ok (.invokespecial 86, 3) := by decide +kernel
theorem dX2_binding_32 : decode cX2_binding 32 = .ok (.athrow, 1) := by decide +kernel
theorem dX2_binding_33 : decode cX2_binding 33 = .ok (.bipush 100, 2) := by decide +kernel
theorem dX2_binding_35 : decode cX2_binding 35 = .ok (.iload 4, 2) := by decide +kernel
theorem dX2_binding_37 : decode cX2_binding 37 = .ok (.imul, 1) := by decide +kernel
theorem dX2_binding_38 : decode cX2_binding 38 = .ok (.aload_n 3, 1) := by decide +kernel
theorem dX2_binding_39 : decode cX2_binding 39 = .ok (.getfield 87, 3) := by decide +kernel
theorem dX2_binding_42 : decode cX2_binding 42 = .ok (.iload 4, 2) := by decide +kernel
theorem dX2_binding_44 : decode cX2_binding 44 = .ok (.iaload, 1) := by decide +kernel
theorem dX2_binding_45 : decode cX2_binding 45 = .ok (.iadd, 1) := by decide +kernel
theorem dX2_binding_46 : decode cX2_binding 46 = .ok (.ireturn, 1) := by decide +kernel
theorem dX2_call_0 : decode cX2_call 0 = .ok (.iload_n 1, 1) := by decide +kernel
theorem dX2_call_1 : decode cX2_call 1 = .ok (.iconst 5, 1) := by decide +kernel
theorem dX2_call_2 : decode cX2_call 2 = .ok (.invokestatic 44, 3) := by decide +kernel
theorem dX2_call_5 : decode cX2_call 5 = .ok (.ifCond .eq 13, 3) := by decide +kernel
theorem dX2_call_8 : decode cX2_call 8 = .ok (.new 48, 3) := by decide +kernel
theorem dX2_call_11 : decode cX2_call 11 = .ok (.dup, 1) := by decide +kernel
theorem dX2_call_12 : decode cX2_call 12 = .ok (.ldc 90, 2) := by decide +kernel
theorem dX2_call_14 : decode cX2_call 14 = .ok (.invokespecial 52, 3) := by decide +kernel
theorem dX2_call_17 : decode cX2_call 17 = .ok (.athrow, 1) := by decide +kernel
theorem dX2_call_18 : decode cX2_call 18 = .ok (.aload_n 0, 1) := by decide +kernel
theorem dX2_call_19 : decode cX2_call 19 = .ok (.getfield 31, 3) := by decide +kernel
theorem dX2_call_22 : decode cX2_call 22 = .ok (.bipush 20, 2) := by decide +kernel
theorem dX2_call_24 : decode cX2_call 24 = .ok (.if_icmp .lt 13, 3) := by decide +kernel
theorem dX2_call_27 : decode cX2_call 27 = .ok (.new 60, 3) := by decide +kernel
theorem dX2_call_30 : decode cX2_call 30 = .ok (.dup, 1) := by decide +kernel
theorem dX2_call_31 : decode cX2_call 31 = .ok (.ldc 92, 2) := by decide +kernel
theorem dX2_call_33 : decode cX2_call 33 = .ok (.invokespecial 64, 3) := by decide +kernel
theorem dX2_call_36 : decode cX2_call 36 = .ok (.athrow, 1) := by decide +kernel
theorem dX2_call_37 : decode cX2_call 37 = .ok (.aload_n 0, 1) := by decide +kernel
theorem dX2_call_38 : decode cX2_call 38 = .ok (.getfield 17, 3) := by decide +kernel
theorem dX2_call_41 : decode cX2_call 41 = .ok (.aload_n 0, 1) := by decide +kernel
theorem dX2_call_42 : decode cX2_call 42 = .ok (.getfield 31, 3) := by decide +kernel
theorem dX2_call_45 : decode cX2_call 45 = .ok (.aaload, 1) := by decide +kernel
theorem dX2_call_46 : decode cX2_call 46 = .ok (.astore_n 2, 1) := by decide +kernel
theorem dX2_call_47 : decode cX2_call 47 = .ok (.aload_n 0, 1) := by decide +kernel
theorem dX2_call_48 : decode cX2_call 48 = .ok (.aload_n 2, 1) := by decide +kernel
theorem dX2_call_49 : decode cX2_call 49 = .ok (.iload_n 1, 1) := by decide +kernel
theorem dX2_call_50 : decode cX2_call 50 = .ok (.iconst (-1), 1) := by decide +kernel
theorem dX2_call_51 : decode cX2_call 51 = .ok (.iconst 0, 1) := by decide +kernel
theorem dX2_call_52 : decode cX2_call 52 = .ok (.invokevirtual 94, 3) := by decide +kernel
theorem dX2_call_55 : decode cX2_call 55 = .ok (.aload_n 2, 1) := by decide +kernel
theorem dX2_call_56 : decode cX2_call 56 = .ok (.aload_n 0, 1) := by decide +kernel
theorem dX2_call_57 : decode cX2_call 57 = .ok (.getfield 35, 3) := by decide +kernel
theorem dX2_call_60 : decode cX2_call 60 = .ok (.invokevirtual 98, 3) := by decide +kernel
theorem dX2_call_63 : decode cX2_call 63 = .ok (.aload_n 0, 1) := by decide +kernel
theorem dX2_call_64 : decode cX2_call 64 = .ok (.dup, 1) := by decide +kernel
theorem dX2_call_65 : decode cX2_call 65 = .ok (.getfield 31, 3) := by decide +kernel
theorem dX2_call_68 : decode cX2_call 68 = .ok (.iconst 1, 1) := by decide +kernel
theorem dX2_call_69 : decode cX2_call 69 = .ok (.iadd, 1) := by decide +kernel
theorem dX2_call_70 : decode cX2_call 70 = .ok (.putfield 31, 3) := by decide +kernel
theorem dX2_call_73 : decode cX2_call 73 = .ok (.aload_n 0, 1) := by decide +kernel
theorem dX2_call_74 : decode cX2_call 74 = .ok (.getfield 31, 3) := by decide +kernel
theorem dX2_call_77 : decode cX2_call 77 = .ok (.iconst 1, 1) := by decide +kernel
theorem dX2_call_78 : decode cX2_call 78 = .ok (.isub, 1) := by decide +kernel
theorem dX2_call_79 : decode cX2_call 79 = .ok (.ireturn, 1) := by decide +kernel
theorem dX2_answer_0 : decode cX2_answer 0 = .ok (.aload_n 0, 1) := by decide +kernel
theorem dX2_answer_1 : decode cX2_answer 1 = .ok (.iload_n 1, 1) := by decide +kernel
theorem dX2_answer_2 : decode cX2_answer 2 = .ok (.invokevirtual 102, 3) := by decide +kernel
theorem dX2_answer_5 : decode cX2_answer 5 = .ok (.astore 4, 2) := by decide +kernel
theorem dX2_answer_7 : decode cX2_answer 7 = .ok (.iload_n 2, 1) := by decide +kernel
theorem dX2_answer_8 : decode cX2_answer 8 = .ok (.bipush 9, 2) := by decide +kernel
theorem dX2_answer_10 : decode cX2_answer 10 = .ok (.invokestatic 44, 3) := by decide +kernel
theorem dX2_answer_13 : decode cX2_answer 13 = .ok (.ifCond .ne 10, 3) := by decide +kernel
theorem dX2_answer_16 : decode cX2_answer 16 = .ok (.iload_n 3, 1) := by decide +kernel
theorem dX2_answer_17 : decode cX2_answer 17 = .ok (.invokestatic 106, 3) := by decide +kernel
theorem dX2_answer_20 : decode cX2_answer 20 = .ok (.ifCond .eq 13, 3) := by decide +kernel
theorem dX2_answer_23 : decode cX2_answer 23 = .ok (.new 48, 3) := by decide +kernel
theorem dX2_answer_26 : decode cX2_answer 26 = .ok (.dup, 1) := by decide +kernel
theorem dX2_answer_27 : decode cX2_answer 27 = .ok (.ldc 110, 2) := by decide +kernel
theorem dX2_answer_29 : decode cX2_answer 29 = .ok (.invokespecial 52, 3) := by decide +kernel
theorem dX2_answer_32 : decode cX2_answer 32 = .ok (.athrow, 1) := by decide +kernel
theorem dX2_answer_33 : decode cX2_answer 33 = .ok (.aload 4, 2) := by decide +kernel
theorem dX2_answer_35 : decode cX2_answer 35 = .ok (.iload_n 2, 1) := by decide +kernel
theorem dX2_answer_36 : decode cX2_answer 36 = .ok (.invokevirtual 112, 3) := by decide +kernel
theorem dX2_answer_39 : decode cX2_answer 39 = .ok (.istore 5, 2) := by decide +kernel
theorem dX2_answer_41 : decode cX2_answer 41 = .ok (.iload 5, 2) := by decide +kernel
theorem dX2_answer_43 : decode cX2_answer 43 = .ok (.iconst (-1), 1) := by decide +kernel
theorem dX2_answer_44 : decode cX2_answer 44 = .ok (.if_icmp .ne 13, 3) := by decide +kernel
theorem dX2_answer_47 : decode cX2_answer 47 = .ok (.new 60, 3) := by decide +kernel
theorem dX2_answer_50 : decode cX2_answer 50 = .ok (.dup, 1) := by decide +kernel
theorem dX2_answer_51 : decode cX2_answer 51 = .ok (.ldc 115, 2) := by decide +kernel
theorem dX2_answer_53 : decode cX2_answer 53 = .ok (.invokespecial 64, 3) := by decide +kernel
theorem dX2_answer_56 : decode cX2_answer 56 = .ok (.athrow, 1) := by decide +kernel
theorem dX2_answer_57 : decode cX2_answer 57 = .ok (.aload 4, 2) := by decide +kernel
theorem dX2_answer_59 : decode cX2_answer 59 = .ok (.iload 5, 2) := by decide +kernel
theorem dX2_answer_61 : decode cX2_answer 61 = .ok (.invokevirtual 117, 3) := by decide +kernel
theorem dX2_answer_64 : decode cX2_answer 64 = .ok (.ifCond .ne 13, 3) := by decide +kernel
theorem dX2_answer_67 : decode cX2_answer 67 = .ok (.new 60, 3) := by decide +kernel
theorem dX2_answer_70 : decode cX2_answer 70 = .ok (.dup, 1) := by decide +kernel
theorem dX2_answer_71 : decode cX2_answer 71 = .ok (.ldc 120, 2) := by decide +kernel
theorem dX2_answer_73 : decode cX2_answer 73 = .ok (.invokespecial 64, 3) := by decide +kernel
theorem dX2_answer_76 : decode cX2_answer 76 = .ok (.athrow, 1) := by decide +kernel
theorem dX2_answer_77 : decode cX2_answer 77 = .ok (.aload 4, 2) := by decide +kernel
theorem dX2_answer_79 : decode cX2_answer 79 = .ok (.iload 5, 2) := by decide +kernel
theorem dX2_answer_81 : decode cX2_answer 81 = .ok (.invokevirtual 122, 3) := by decide +kernel
theorem dX2_answer_84 : decode cX2_answer 84 = .ok (.ifCond .ne 18, 3) := by decide +kernel
theorem dX2_answer_87 : decode cX2_answer 87 = .ok (.aload 4, 2) := by decide +kernel
theorem dX2_answer_89 : decode cX2_answer 89 = .ok (.iload 5, 2) := by decide +kernel
theorem dX2_answer_91 : decode cX2_answer 91 = .ok (.iload_n 3, 1) := by decide +kernel
theorem dX2_answer_92 : decode cX2_answer 92 = .ok (.aload_n 0, 1) := by decide +kernel
theorem dX2_answer_93 : decode cX2_answer 93 = .ok (.getfield 35, 3) := by decide +kernel
theorem dX2_answer_96 : decode cX2_answer 96 = .ok (.invokevirtual 125, 3) := by decide +kernel
theorem dX2_answer_99 : decode cX2_answer 99 = .ok (.goto 46, 3) := by decide +kernel
theorem dX2_answer_102 : decode cX2_answer 102 = .ok (.aload 4, 2) := by decide +kernel
theorem dX2_answer_104 : decode cX2_answer 104 = .ok (.iload 5, 2) := by decide +kernel
theorem dX2_answer_106 : decode cX2_answer 106 = .ok (.iload_n 3, 1) := by decide +kernel
theorem dX2_answer_107 : decode cX2_answer 107 = .ok (.invokevirtual 129, 3) := by decide +kernel
theorem dX2_answer_110 : decode cX2_answer 110 = .ok (.ifCond .eq 25, 3) := by decide +kernel
theorem dX2_answer_113 : decode cX2_answer 113 = .ok (.aload 4, 2) := by decide +kernel
theorem dX2_answer_115 : decode cX2_answer 115 = .ok (.getfield 132, 3) := by decide +kernel
theorem dX2_answer_118 : decode cX2_answer 118 = .ok (.iload 5, 2) := by decide +kernel
theorem dX2_answer_120 : decode cX2_answer 120 = .ok (.iconst 1, 1) := by decide +kernel
theorem dX2_answer_121 : decode cX2_answer 121 = .ok (.bastore, 1) := by decide +kernel
theorem dX2_answer_122 : decode cX2_answer 122 = .ok (.aload_n 0, 1) := by decide +kernel
theorem dX2_answer_123 : decode cX2_answer 123 = .ok (.getfield 21, 3) := by decide +kernel
theorem dX2_answer_126 : decode cX2_answer 126 = .ok (.iload_n 2, 1) := by decide +kernel
theorem dX2_answer_127 : decode cX2_answer 127 = .ok (.dup2, 1) := by decide +kernel
theorem dX2_answer_128 : decode cX2_answer 128 = .ok (.iaload, 1) := by decide +kernel
theorem dX2_answer_129 : decode cX2_answer 129 = .ok (.iconst 1, 1) := by decide +kernel
theorem dX2_answer_130 : decode cX2_answer 130 = .ok (.iadd, 1) := by decide +kernel
theorem dX2_answer_131 : decode cX2_answer 131 = .ok (.iastore, 1) := by decide +kernel
theorem dX2_answer_132 : decode cX2_answer 132 = .ok (.goto 13, 3) := by decide +kernel
theorem dX2_answer_135 : decode cX2_answer 135 = .ok (.new 60, 3) := by decide +kernel
theorem dX2_answer_138 : decode cX2_answer 138 = .ok (.dup, 1) := by decide +kernel
theorem dX2_answer_139 : decode cX2_answer 139 = .ok (.ldc 136, 2) := by decide +kernel
theorem dX2_answer_141 : decode cX2_answer 141 = .ok (.invokespecial 64, 3) := by decide +kernel
theorem dX2_answer_144 : decode cX2_answer 144 = .ok (.athrow, 1) := by decide +kernel
theorem dX2_answer_145 : decode cX2_answer 145 = .ok (.aload 4, 2) := by decide +kernel
theorem dX2_answer_147 : decode cX2_answer 147 = .ok (.getfield 138, 3) := by decide +kernel
theorem dX2_answer_150 : decode cX2_answer 150 = .ok (.ireturn, 1) := by decide +kernel
theorem dX2_cancel_0 : decode cX2_cancel 0 = .ok (.aload_n 0, 1) := by decide +kernel
theorem dX2_cancel_1 : decode cX2_cancel 1 = .ok (.iload_n 1, 1) := by decide +kernel
theorem dX2_cancel_2 : decode cX2_cancel 2 = .ok (.invokevirtual 102, 3) := by decide +kernel
theorem dX2_cancel_5 : decode cX2_cancel 5 = .ok (.astore_n 2, 1) := by decide +kernel
theorem dX2_cancel_6 : decode cX2_cancel 6 = .ok (.aload_n 2, 1) := by decide +kernel
theorem dX2_cancel_7 : decode cX2_cancel 7 = .ok (.getfield 138, 3) := by decide +kernel
theorem dX2_cancel_10 : decode cX2_cancel 10 = .ok (.iconst (-1), 1) := by decide +kernel
theorem dX2_cancel_11 : decode cX2_cancel 11 = .ok (.if_icmp .eq 13, 3) := by decide +kernel
theorem dX2_cancel_14 : decode cX2_cancel 14 = .ok (.new 60, 3) := by decide +kernel
theorem dX2_cancel_17 : decode cX2_cancel 17 = .ok (.dup, 1) := by decide +kernel
theorem dX2_cancel_18 : decode cX2_cancel 18 = .ok (.ldc 141, 2) := by decide +kernel
theorem dX2_cancel_20 : decode cX2_cancel 20 = .ok (.invokespecial 64, 3) := by decide +kernel
theorem dX2_cancel_23 : decode cX2_cancel 23 = .ok (.athrow, 1) := by decide +kernel
theorem dX2_cancel_24 : decode cX2_cancel 24 = .ok (.aload_n 2, 1) := by decide +kernel
theorem dX2_cancel_25 : decode cX2_cancel 25 = .ok (.invokevirtual 143, 3) := by decide +kernel
theorem dX2_cancel_28 : decode cX2_cancel 28 = .ok (.ireturn, 1) := by decide +kernel
theorem dX2_pass_0 : decode cX2_pass 0 = .ok (.iload_n 1, 1) := by decide +kernel
theorem dX2_pass_1 : decode cX2_pass 1 = .ok (.iconst 1, 1) := by decide +kernel
theorem dX2_pass_2 : decode cX2_pass 2 = .ok (.if_icmp .lt 9, 3) := by decide +kernel
theorem dX2_pass_5 : decode cX2_pass 5 = .ok (.iload_n 1, 1) := by decide +kernel
theorem dX2_pass_6 : decode cX2_pass 6 = .ok (.bipush 100, 2) := by decide +kernel
theorem dX2_pass_8 : decode cX2_pass 8 = .ok (.if_icmp .le 13, 3) := by decide +kernel
theorem dX2_pass_11 : decode cX2_pass 11 = .ok (.new 48, 3) := by decide +kernel
theorem dX2_pass_14 : decode cX2_pass 14 = .ok (.dup, 1) := by decide +kernel
theorem dX2_pass_15 : decode cX2_pass 15 = .ok (.ldc 147, 2) := by decide +kernel
theorem dX2_pass_17 : decode cX2_pass 17 = .ok (.invokespecial 52, 3) := by decide +kernel
theorem dX2_pass_20 : decode cX2_pass 20 = .ok (.athrow, 1) := by decide +kernel
theorem dX2_pass_21 : decode cX2_pass 21 = .ok (.iconst 0, 1) := by decide +kernel
theorem dX2_pass_22 : decode cX2_pass 22 = .ok (.istore_n 2, 1) := by decide +kernel
theorem dX2_pass_23 : decode cX2_pass 23 = .ok (.iconst 0, 1) := by decide +kernel
theorem dX2_pass_24 : decode cX2_pass 24 = .ok (.istore_n 3, 1) := by decide +kernel
theorem dX2_pass_25 : decode cX2_pass 25 = .ok (.iload_n 3, 1) := by decide +kernel
theorem dX2_pass_26 : decode cX2_pass 26 = .ok (.iload_n 1, 1) := by decide +kernel
theorem dX2_pass_27 : decode cX2_pass 27 = .ok (.if_icmp .ge 26, 3) := by decide +kernel
theorem dX2_pass_30 : decode cX2_pass 30 = .ok (.aload_n 0, 1) := by decide +kernel
theorem dX2_pass_31 : decode cX2_pass 31 = .ok (.dup, 1) := by decide +kernel
theorem dX2_pass_32 : decode cX2_pass 32 = .ok (.getfield 35, 3) := by decide +kernel
theorem dX2_pass_35 : decode cX2_pass 35 = .ok (.iconst 1, 1) := by decide +kernel
theorem dX2_pass_36 : decode cX2_pass 36 = .ok (.iadd, 1) := by decide +kernel
theorem dX2_pass_37 : decode cX2_pass 37 = .ok (.putfield 35, 3) := by decide +kernel
theorem dX2_pass_40 : decode cX2_pass 40 = .ok (.iload_n 2, 1) := by decide +kernel
theorem dX2_pass_41 : decode cX2_pass 41 = .ok (.aload_n 0, 1) := by decide +kernel
theorem dX2_pass_42 : decode cX2_pass 42 = .ok (.invokevirtual 149, 3) := by decide +kernel
theorem dX2_pass_45 : decode cX2_pass 45 = .ok (.iadd, 1) := by decide +kernel
theorem dX2_pass_46 : decode cX2_pass 46 = .ok (.istore_n 2, 1) := by decide +kernel
theorem dX2_pass_47 : decode cX2_pass 47 = .ok (.iinc 3 1, 3) := by decide +kernel
theorem dX2_pass_50 : decode cX2_pass 50 = .ok (.goto (-25), 3) := by decide +kernel
theorem dX2_pass_53 : decode cX2_pass 53 = .ok (.iload_n 2, 1) := by decide +kernel
theorem dX2_pass_54 : decode cX2_pass 54 = .ok (.ireturn, 1) := by decide +kernel
theorem dX2_time_0 : decode cX2_time 0 = .ok (.aload_n 0, 1) := by decide +kernel
theorem dX2_time_1 : decode cX2_time 1 = .ok (.getfield 35, 3) := by decide +kernel
theorem dX2_time_4 : decode cX2_time 4 = .ok (.ireturn, 1) := by decide +kernel
theorem dX2_calls_0 : decode cX2_calls 0 = .ok (.aload_n 0, 1) := by decide +kernel
theorem dX2_calls_1 : decode cX2_calls 1 = .ok (.getfield 31, 3) := by decide +kernel
theorem dX2_calls_4 : decode cX2_calls 4 = .ok (.ireturn, 1) := by decide +kernel
theorem dX2_finalOf_0 : decode cX2_finalOf 0 = .ok (.aload_n 0, 1) := by decide +kernel
theorem dX2_finalOf_1 : decode cX2_finalOf 1 = .ok (.iload_n 1, 1) := by decide +kernel
theorem dX2_finalOf_2 : decode cX2_finalOf 2 = .ok (.invokevirtual 102, 3) := by decide +kernel
theorem dX2_finalOf_5 : decode cX2_finalOf 5 = .ok (.getfield 138, 3) := by decide +kernel
theorem dX2_finalOf_8 : decode cX2_finalOf 8 = .ok (.ireturn, 1) := by decide +kernel
theorem dX2_finalBySorting_0 : decode cX2_finalBySorting 0 = .ok (.aload_n 0, 1) := by decide +kernel
theorem dX2_finalBySorting_1 : decode cX2_finalBySorting 1 = .ok (.iload_n 1, 1) := by decide +kernel
theorem dX2_finalBySorting_2 : decode cX2_finalBySorting 2 = .ok (.invokevirtual 102, 3) := by decide +kernel
theorem dX2_finalBySorting_5 : decode cX2_finalBySorting 5 = .ok (.astore_n 2, 1) := by decide +kernel
theorem dX2_finalBySorting_6 : decode cX2_finalBySorting 6 = .ok (.aload_n 2, 1) := by decide +kernel
theorem dX2_finalBySorting_7 : decode cX2_finalBySorting 7 = .ok (.getfield 138, 3) := by decide +kernel
theorem dX2_finalBySorting_10 : decode cX2_finalBySorting 10 = .ok (.iconst (-1), 1) := by decide +kernel
theorem dX2_finalBySorting_11 : decode cX2_finalBySorting 11 = .ok (.if_icmp .ne 13, 3) := by decide +kernel
theorem dX2_finalBySorting_14 : decode cX2_finalBySorting 14 = .ok (.new 60, 3) := by decide +kernel
theorem dX2_finalBySorting_17 : decode cX2_finalBySorting 17 = .ok (.dup, 1) := by decide +kernel
theorem dX2_finalBySorting_18 : decode cX2_finalBySorting 18 = .ok (.ldc 152, 2) := by decide +kernel
theorem dX2_finalBySorting_20 : decode cX2_finalBySorting 20 = .ok (.invokespecial 64, 3) := by decide +kernel
theorem dX2_finalBySorting_23 : decode cX2_finalBySorting 23 = .ok (.athrow, 1) := by decide +kernel
theorem dX2_finalBySorting_24 : decode cX2_finalBySorting 24 = .ok (.aload_n 2, 1) := by decide +kernel
theorem dX2_finalBySorting_25 : decode cX2_finalBySorting 25 = .ok (.aload_n 0, 1) := by decide +kernel
theorem dX2_finalBySorting_26 : decode cX2_finalBySorting 26 = .ok (.getfield 28, 3) := by decide +kernel
theorem dX2_finalBySorting_29 : decode cX2_finalBySorting 29 = .ok (.invokevirtual 154, 3) := by decide +kernel
theorem dX2_finalBySorting_32 : decode cX2_finalBySorting 32 = .ok (.ireturn, 1) := by decide +kernel
theorem dX2_branches_0 : decode cX2_branches 0 = .ok (.aload_n 0, 1) := by decide +kernel
theorem dX2_branches_1 : decode cX2_branches 1 = .ok (.iload_n 1, 1) := by decide +kernel
theorem dX2_branches_2 : decode cX2_branches 2 = .ok (.invokevirtual 102, 3) := by decide +kernel
theorem dX2_branches_5 : decode cX2_branches 5 = .ok (.getfield 158, 3) := by decide +kernel
theorem dX2_branches_8 : decode cX2_branches 8 = .ok (.ireturn, 1) := by decide +kernel
theorem dX2_device_0 : decode cX2_device 0 = .ok (.aload_n 0, 1) := by decide +kernel
theorem dX2_device_1 : decode cX2_device 1 = .ok (.iload_n 1, 1) := by decide +kernel
theorem dX2_device_2 : decode cX2_device 2 = .ok (.iload_n 2, 1) := by decide +kernel
theorem dX2_device_3 : decode cX2_device 3 = .ok (.invokevirtual 161, 3) := by decide +kernel
theorem dX2_device_6 : decode cX2_device 6 = .ok (.getfield 165, 3) := by decide +kernel
theorem dX2_device_9 : decode cX2_device 9 = .ok (.iload_n 2, 1) := by decide +kernel
theorem dX2_device_10 : decode cX2_device 10 = .ok (.iaload, 1) := by decide +kernel
theorem dX2_device_11 : decode cX2_device 11 = .ok (.ireturn, 1) := by decide +kernel
theorem dX2_state_0 : decode cX2_state 0 = .ok (.aload_n 0, 1) := by decide +kernel
theorem dX2_state_1 : decode cX2_state 1 = .ok (.iload_n 1, 1) := by decide +kernel
theorem dX2_state_2 : decode cX2_state 2 = .ok (.iload_n 2, 1) := by decide +kernel
theorem dX2_state_3 : decode cX2_state 3 = .ok (.invokevirtual 161, 3) := by decide +kernel
theorem dX2_state_6 : decode cX2_state 6 = .ok (.getfield 168, 3) := by decide +kernel
theorem dX2_state_9 : decode cX2_state 9 = .ok (.iload_n 2, 1) := by decide +kernel
theorem dX2_state_10 : decode cX2_state 10 = .ok (.iaload, 1) := by decide +kernel
theorem dX2_state_11 : decode cX2_state 11 = .ok (.ireturn, 1) := by decide +kernel
theorem dX2_answered_0 : decode cX2_answered 0 = .ok (.aload_n 0, 1) := by decide +kernel
theorem dX2_answered_1 : decode cX2_answered 1 = .ok (.iload_n 1, 1) := by decide +kernel
theorem dX2_answered_2 : decode cX2_answered 2 = .ok (.invokevirtual 102, 3) := by decide +kernel
theorem dX2_answered_5 : decode cX2_answered 5 = .ok (.getfield 171, 3) := by decide +kernel
theorem dX2_answered_8 : decode cX2_answered 8 = .ok (.ireturn, 1) := by decide +kernel
theorem dX2_hungUp_0 : decode cX2_hungUp 0 = .ok (.iload_n 1, 1) := by decide +kernel
theorem dX2_hungUp_1 : decode cX2_hungUp 1 = .ok (.bipush 9, 2) := by decide +kernel
theorem dX2_hungUp_3 : decode cX2_hungUp 3 = .ok (.invokestatic 44, 3) := by decide +kernel
theorem dX2_hungUp_6 : decode cX2_hungUp 6 = .ok (.ifCond .eq 13, 3) := by decide +kernel
theorem dX2_hungUp_9 : decode cX2_hungUp 9 = .ok (.new 48, 3) := by decide +kernel
theorem dX2_hungUp_12 : decode cX2_hungUp 12 = .ok (.dup, 1) := by decide +kernel
theorem dX2_hungUp_13 : decode cX2_hungUp 13 = .ok (.ldc 174, 2) := by decide +kernel
theorem dX2_hungUp_15 : decode cX2_hungUp 15 = .ok (.invokespecial 52, 3) := by decide +kernel
theorem dX2_hungUp_18 : decode cX2_hungUp 18 = .ok (.athrow, 1) := by decide +kernel
theorem dX2_hungUp_19 : decode cX2_hungUp 19 = .ok (.aload_n 0, 1) := by decide +kernel
theorem dX2_hungUp_20 : decode cX2_hungUp 20 = .ok (.getfield 21, 3) := by decide +kernel
theorem dX2_hungUp_23 : decode cX2_hungUp 23 = .ok (.iload_n 1, 1) := by decide +kernel
theorem dX2_hungUp_24 : decode cX2_hungUp 24 = .ok (.iaload, 1) := by decide +kernel
theorem dX2_hungUp_25 : decode cX2_hungUp 25 = .ok (.ireturn, 1) := by decide +kernel
theorem dX2_isOutside_0 : decode cX2_isOutside 0 = .ok (.iload_n 0, 1) := by decide +kernel
theorem dX2_isOutside_1 : decode cX2_isOutside 1 = .ok (.ifCond .lt 8, 3) := by decide +kernel
theorem dX2_isOutside_4 : decode cX2_isOutside 4 = .ok (.iload_n 0, 1) := by decide +kernel
theorem dX2_isOutside_5 : decode cX2_isOutside 5 = .ok (.iload_n 1, 1) := by decide +kernel
theorem dX2_isOutside_6 : decode cX2_isOutside 6 = .ok (.if_icmp .le 7, 3) := by decide +kernel
theorem dX2_isOutside_9 : decode cX2_isOutside 9 = .ok (.iconst 1, 1) := by decide +kernel
theorem dX2_isOutside_10 : decode cX2_isOutside 10 = .ok (.goto 4, 3) := by decide +kernel
theorem dX2_isOutside_13 : decode cX2_isOutside 13 = .ok (.iconst 0, 1) := by decide +kernel
theorem dX2_isOutside_14 : decode cX2_isOutside 14 = .ok (.ireturn, 1) := by decide +kernel
theorem dX2_isNoAnswer_0 : decode cX2_isNoAnswer 0 = .ok (.iload_n 0, 1) := by decide +kernel
theorem dX2_isNoAnswer_1 : decode cX2_isNoAnswer 1 = .ok (.sipush 180, 3) := by decide +kernel
theorem dX2_isNoAnswer_4 : decode cX2_isNoAnswer 4 = .ok (.if_icmp .eq 21, 3) := by decide +kernel
theorem dX2_isNoAnswer_7 : decode cX2_isNoAnswer 7 = .ok (.iload_n 0, 1) := by decide +kernel
theorem dX2_isNoAnswer_8 : decode cX2_isNoAnswer 8 = .ok (.sipush 200, 3) := by decide +kernel
theorem dX2_isNoAnswer_11 : decode cX2_isNoAnswer 11 = .ok (.if_icmp .lt 10, 3) := by decide +kernel
theorem dX2_isNoAnswer_14 : decode cX2_isNoAnswer 14 = .ok (.iload_n 0, 1) := by decide +kernel
theorem dX2_isNoAnswer_15 : decode cX2_isNoAnswer 15 = .ok (.sipush 699, 3) := by decide +kernel
theorem dX2_isNoAnswer_18 : decode cX2_isNoAnswer 18 = .ok (.if_icmp .le 7, 3) := by decide +kernel
theorem dX2_isNoAnswer_21 : decode cX2_isNoAnswer 21 = .ok (.iconst 1, 1) := by decide +kernel
theorem dX2_isNoAnswer_22 : decode cX2_isNoAnswer 22 = .ok (.goto 4, 3) := by decide +kernel
theorem dX2_isNoAnswer_25 : decode cX2_isNoAnswer 25 = .ok (.iconst 0, 1) := by decide +kernel
theorem dX2_isNoAnswer_26 : decode cX2_isNoAnswer 26 = .ok (.ireturn, 1) := by decide +kernel
theorem dX2_rowOf_0 : decode cX2_rowOf 0 = .ok (.iload_n 1, 1) := by decide +kernel
theorem dX2_rowOf_1 : decode cX2_rowOf 1 = .ok (.iconst 5, 1) := by decide +kernel
theorem dX2_rowOf_2 : decode cX2_rowOf 2 = .ok (.invokestatic 44, 3) := by decide +kernel
theorem dX2_rowOf_5 : decode cX2_rowOf 5 = .ok (.ifCond .eq 13, 3) := by decide +kernel
theorem dX2_rowOf_8 : decode cX2_rowOf 8 = .ok (.new 48, 3) := by decide +kernel
theorem dX2_rowOf_11 : decode cX2_rowOf 11 = .ok (.dup, 1) := by decide +kernel
theorem dX2_rowOf_12 : decode cX2_rowOf 12 = .ok (.ldc 90, 2) := by decide +kernel
theorem dX2_rowOf_14 : decode cX2_rowOf 14 = .ok (.invokespecial 52, 3) := by decide +kernel
theorem dX2_rowOf_17 : decode cX2_rowOf 17 = .ok (.athrow, 1) := by decide +kernel
theorem dX2_rowOf_18 : decode cX2_rowOf 18 = .ok (.aload_n 0, 1) := by decide +kernel
theorem dX2_rowOf_19 : decode cX2_rowOf 19 = .ok (.getfield 11, 3) := by decide +kernel
theorem dX2_rowOf_22 : decode cX2_rowOf 22 = .ok (.iload_n 1, 1) := by decide +kernel
theorem dX2_rowOf_23 : decode cX2_rowOf 23 = .ok (.aaload, 1) := by decide +kernel
theorem dX2_rowOf_24 : decode cX2_rowOf 24 = .ok (.areturn, 1) := by decide +kernel
theorem dX2_callAt_0 : decode cX2_callAt 0 = .ok (.iload_n 1, 1) := by decide +kernel
theorem dX2_callAt_1 : decode cX2_callAt 1 = .ok (.aload_n 0, 1) := by decide +kernel
theorem dX2_callAt_2 : decode cX2_callAt 2 = .ok (.getfield 31, 3) := by decide +kernel
theorem dX2_callAt_5 : decode cX2_callAt 5 = .ok (.iconst 1, 1) := by decide +kernel
theorem dX2_callAt_6 : decode cX2_callAt 6 = .ok (.isub, 1) := by decide +kernel
theorem dX2_callAt_7 : decode cX2_callAt 7 = .ok (.invokestatic 44, 3) := by decide +kernel
theorem dX2_callAt_10 : decode cX2_callAt 10 = .ok (.ifCond .eq 13, 3) := by decide +kernel
theorem dX2_callAt_13 : decode cX2_callAt 13 = .ok (.new 82, 3) := by decide +kernel
theorem dX2_callAt_16 : decode cX2_callAt 16 = .ok (.dup, 1) := by decide +kernel
theorem dX2_callAt_17 : decode cX2_callAt 17 = .ok (.ldc 176, 2) := by decide +kernel
theorem dX2_callAt_19 : decode cX2_callAt 19 = .ok (.invokespecial 86, 3) := by decide +kernel
theorem dX2_callAt_22 : decode cX2_callAt 22 = .ok (.athrow, 1) := by decide +kernel
theorem dX2_callAt_23 : decode cX2_callAt 23 = .ok (.aload_n 0, 1) := by decide +kernel
theorem dX2_callAt_24 : decode cX2_callAt 24 = .ok (.getfield 17, 3) := by decide +kernel
theorem dX2_callAt_27 : decode cX2_callAt 27 = .ok (.iload_n 1, 1) := by decide +kernel
theorem dX2_callAt_28 : decode cX2_callAt 28 = .ok (.aaload, 1) := by decide +kernel
theorem dX2_callAt_29 : decode cX2_callAt 29 = .ok (.areturn, 1) := by decide +kernel
theorem dX2_callWith_0 : decode cX2_callWith 0 = .ok (.aload_n 0, 1) := by decide +kernel
theorem dX2_callWith_1 : decode cX2_callWith 1 = .ok (.iload_n 1, 1) := by decide +kernel
theorem dX2_callWith_2 : decode cX2_callWith 2 = .ok (.invokevirtual 102, 3) := by decide +kernel
theorem dX2_callWith_5 : decode cX2_callWith 5 = .ok (.astore_n 3, 1) := by decide +kernel
theorem dX2_callWith_6 : decode cX2_callWith 6 = .ok (.iload_n 2, 1) := by decide +kernel
theorem dX2_callWith_7 : decode cX2_callWith 7 = .ok (.aload_n 3, 1) := by decide +kernel
theorem dX2_callWith_8 : decode cX2_callWith 8 = .ok (.getfield 158, 3) := by decide +kernel
theorem dX2_callWith_11 : decode cX2_callWith 11 = .ok (.iconst 1, 1) := by decide +kernel
theorem dX2_callWith_12 : decode cX2_callWith 12 = .ok (.isub, 1) := by decide +kernel
theorem dX2_callWith_13 : decode cX2_callWith 13 = .ok (.invokestatic 44, 3) := by decide +kernel
theorem dX2_callWith_16 : decode cX2_callWith 16 = .ok (.ifCond .eq 13, 3) := by decide +kernel
theorem dX2_callWith_19 : decode cX2_callWith 19 = .ok (.new 82, 3) := by decide +kernel
theorem dX2_callWith_22 : decode cX2_callWith 22 = .ok (.dup, 1) := by decide +kernel
theorem dX2_callWith_23 : decode cX2_callWith 23 = .ok (.ldc 178, 2) := by decide +kernel
theorem dX2_callWith_25 : decode cX2_callWith 25 = .ok (.invokespecial 86, 3) := by decide +kernel
theorem dX2_callWith_28 : decode cX2_callWith 28 = .ok (.athrow, 1) := by decide +kernel
theorem dX2_callWith_29 : decode cX2_callWith 29 = .ok (.aload_n 3, 1) := by decide +kernel
theorem dX2_callWith_30 : decode cX2_callWith 30 = .ok (.areturn, 1) := by decide +kernel
theorem dX2_followUser_0 : decode cX2_followUser 0 = .ok (.iload 4, 2) := by decide +kernel
theorem dX2_followUser_2 : decode cX2_followUser 2 = .ok (.aload_n 0, 1) := by decide +kernel
theorem dX2_followUser_3 : decode cX2_followUser 3 = .ok (.getfield 25, 3) := by decide +kernel
theorem dX2_followUser_6 : decode cX2_followUser 6 = .ok (.arraylength, 1) := by decide +kernel
theorem dX2_followUser_7 : decode cX2_followUser 7 = .ok (.if_icmp .lt 4, 3) := by decide +kernel
theorem dX2_followUser_10 : decode cX2_followUser 10 = .ok (.return_, 1) := by decide +kernel
theorem dX2_followUser_11 : decode cX2_followUser 11 = .ok (.aload_n 0, 1) := by decide +kernel
theorem dX2_followUser_12 : decode cX2_followUser 12 = .ok (.getfield 25, 3) := by decide +kernel
theorem dX2_followUser_15 : decode cX2_followUser 15 = .ok (.iload 4, 2) := by decide +kernel
theorem dX2_followUser_17 : decode cX2_followUser 17 = .ok (.iload_n 2, 1) := by decide +kernel
theorem dX2_followUser_18 : decode cX2_followUser 18 = .ok (.iastore, 1) := by decide +kernel
theorem dX2_followUser_19 : decode cX2_followUser 19 = .ok (.aload_n 0, 1) := by decide +kernel
theorem dX2_followUser_20 : decode cX2_followUser 20 = .ok (.getfield 11, 3) := by decide +kernel
theorem dX2_followUser_23 : decode cX2_followUser 23 = .ok (.iload_n 2, 1) := by decide +kernel
theorem dX2_followUser_24 : decode cX2_followUser 24 = .ok (.aaload, 1) := by decide +kernel
theorem dX2_followUser_25 : decode cX2_followUser 25 = .ok (.astore 5, 2) := by decide +kernel
theorem dX2_followUser_27 : decode cX2_followUser 27 = .ok (.iconst 0, 1) := by decide +kernel
theorem dX2_followUser_28 : decode cX2_followUser 28 = .ok (.istore 6, 2) := by decide +kernel
theorem dX2_followUser_30 : decode cX2_followUser 30 = .ok (.iload 6, 2) := by decide +kernel
theorem dX2_followUser_32 : decode cX2_followUser 32 = .ok (.aload 5, 2) := by decide +kernel
theorem dX2_followUser_34 : decode cX2_followUser 34 = .ok (.getfield 180, 3) := by decide +kernel
theorem dX2_followUser_37 : decode cX2_followUser 37 = .ok (.if_icmp .ge 89, 3) := by decide +kernel
theorem dX2_followUser_40 : decode cX2_followUser 40 = .ok (.aload 5, 2) := by decide +kernel
theorem dX2_followUser_42 : decode cX2_followUser 42 = .ok (.getfield 183, 3) := by decide +kernel
theorem dX2_followUser_45 : decode cX2_followUser 45 = .ok (.iload 6, 2) := by decide +kernel
theorem dX2_followUser_47 : decode cX2_followUser 47 = .ok (.iaload, 1) := by decide +kernel
theorem dX2_followUser_48 : decode cX2_followUser 48 = .ok (.istore 7, 2) := by decide +kernel
theorem dX2_followUser_50 : decode cX2_followUser 50 = .ok (.aload 5, 2) := by decide +kernel
theorem dX2_followUser_52 : decode cX2_followUser 52 = .ok (.iload 7, 2) := by decide +kernel
theorem dX2_followUser_54 : decode cX2_followUser 54 = .ok (.aload_n 0, 1) := by decide +kernel
theorem dX2_followUser_55 : decode cX2_followUser 55 = .ok (.getfield 35, 3) := by decide +kernel
theorem dX2_followUser_58 : decode cX2_followUser 58 = .ok (.invokevirtual 186, 3) := by decide +kernel
theorem dX2_followUser_61 : decode cX2_followUser 61 = .ok (.ifCond .ne 6, 3) := by decide +kernel
theorem dX2_followUser_64 : decode cX2_followUser 64 = .ok (.goto 56, 3) := by decide +kernel
theorem dX2_followUser_67 : decode cX2_followUser 67 = .ok (.iload 4, 2) := by decide +kernel
theorem dX2_followUser_69 : decode cX2_followUser 69 = .ok (.ifCond .ne 14, 3) := by decide +kernel
theorem dX2_followUser_72 : decode cX2_followUser 72 = .ok (.aload 5, 2) := by decide +kernel
theorem dX2_followUser_74 : decode cX2_followUser 74 = .ok (.getfield 87, 3) := by decide +kernel
theorem dX2_followUser_77 : decode cX2_followUser 77 = .ok (.iload 7, 2) := by decide +kernel
theorem dX2_followUser_79 : decode cX2_followUser 79 = .ok (.iaload, 1) := by decide +kernel
theorem dX2_followUser_80 : decode cX2_followUser 80 = .ok (.goto 4, 3) := by decide +kernel
theorem dX2_followUser_83 : decode cX2_followUser 83 = .ok (.iload_n 3, 1) := by decide +kernel
theorem dX2_followUser_84 : decode cX2_followUser 84 = .ok (.istore 8, 2) := by decide +kernel
theorem dX2_followUser_86 : decode cX2_followUser 86 = .ok (.iload 7, 2) := by decide +kernel
theorem dX2_followUser_88 : decode cX2_followUser 88 = .ok (.bipush 10, 2) := by decide +kernel
theorem dX2_followUser_90 : decode cX2_followUser 90 = .ok (.if_icmp .ge 14, 3) := by decide +kernel
theorem dX2_followUser_93 : decode cX2_followUser 93 = .ok (.aload_n 1, 1) := by decide +kernel
theorem dX2_followUser_94 : decode cX2_followUser 94 = .ok (.iload 7, 2) := by decide +kernel
theorem dX2_followUser_96 : decode cX2_followUser 96 = .ok (.iload 8, 2) := by decide +kernel
theorem dX2_followUser_98 : decode cX2_followUser 98 = .ok (.invokevirtual 189, 3) := by decide +kernel
theorem dX2_followUser_101 : decode cX2_followUser 101 = .ok (.goto 19, 3) := by decide +kernel
theorem dX2_followUser_104 : decode cX2_followUser 104 = .ok (.aload_n 0, 1) := by decide +kernel
theorem dX2_followUser_105 : decode cX2_followUser 105 = .ok (.aload_n 1, 1) := by decide +kernel
theorem dX2_followUser_106 : decode cX2_followUser 106 = .ok (.iload 7, 2) := by decide +kernel
theorem dX2_followUser_108 : decode cX2_followUser 108 = .ok (.bipush 10, 2) := by decide +kernel
theorem dX2_followUser_110 : decode cX2_followUser 110 = .ok (.isub, 1) := by decide +kernel
theorem dX2_followUser_111 : decode cX2_followUser 111 = .ok (.iload 8, 2) := by decide +kernel
theorem dX2_followUser_113 : decode cX2_followUser 113 = .ok (.iload 4, 2) := by decide +kernel
theorem dX2_followUser_115 : decode cX2_followUser 115 = .ok (.iconst 1, 1) := by decide +kernel
theorem dX2_followUser_116 : decode cX2_followUser 116 = .ok (.iadd, 1) := by decide +kernel
theorem dX2_followUser_117 : decode cX2_followUser 117 = .ok (.invokevirtual 193, 3) := by decide +kernel
theorem dX2_followUser_120 : decode cX2_followUser 120 = .ok (.iinc 6 1, 3) := by decide +kernel
theorem dX2_followUser_123 : decode cX2_followUser 123 = .ok (.goto (-93), 3) := by decide +kernel
theorem dX2_followUser_126 : decode cX2_followUser 126 = .ok (.return_, 1) := by decide +kernel
theorem dX2_comeToUser_0 : decode cX2_comeToUser 0 = .ok (.aload_n 0, 1) := by decide +kernel
theorem dX2_comeToUser_1 : decode cX2_comeToUser 1 = .ok (.iload_n 2, 1) := by decide +kernel
theorem dX2_comeToUser_2 : decode cX2_comeToUser 2 = .ok (.iload 4, 2) := by decide +kernel
theorem dX2_comeToUser_4 : decode cX2_comeToUser 4 = .ok (.invokevirtual 196, 3) := by decide +kernel
theorem dX2_comeToUser_7 : decode cX2_comeToUser 7 = .ok (.ifCond .eq 14, 3) := by decide +kernel
theorem dX2_comeToUser_10 : decode cX2_comeToUser 10 = .ok (.aload_n 1, 1) := by decide +kernel
theorem dX2_comeToUser_11 : decode cX2_comeToUser 11 = .ok (.iload_n 3, 1) := by decide +kernel
theorem dX2_comeToUser_12 : decode cX2_comeToUser 12 = .ok (.sipush 482, 3) := by decide +kernel
theorem dX2_comeToUser_15 : decode cX2_comeToUser 15 = .ok (.invokevirtual 199, 3) := by decide +kernel
theorem dX2_comeToUser_18 : decode cX2_comeToUser 18 = .ok (.goto 29, 3) := by decide +kernel
theorem dX2_comeToUser_21 : decode cX2_comeToUser 21 = .ok (.iload 4, 2) := by decide +kernel
theorem dX2_comeToUser_23 : decode cX2_comeToUser 23 = .ok (.iconst 2, 1) := by decide +kernel
theorem dX2_comeToUser_24 : decode cX2_comeToUser 24 = .ok (.if_icmp .le 14, 3) := by decide +kernel
theorem dX2_comeToUser_27 : decode cX2_comeToUser 27 = .ok (.aload_n 1, 1) := by decide +kernel
theorem dX2_comeToUser_28 : decode cX2_comeToUser 28 = .ok (.iload_n 3, 1) := by decide +kernel
theorem dX2_comeToUser_29 : decode cX2_comeToUser 29 = .ok (.sipush 483, 3) := by decide +kernel
theorem dX2_comeToUser_32 : decode cX2_comeToUser 32 = .ok (.invokevirtual 199, 3) := by decide +kernel
theorem dX2_comeToUser_35 : decode cX2_comeToUser 35 = .ok (.goto 12, 3) := by decide +kernel
theorem dX2_comeToUser_38 : decode cX2_comeToUser 38 = .ok (.aload_n 0, 1) := by decide +kernel
theorem dX2_comeToUser_39 : decode cX2_comeToUser 39 = .ok (.aload_n 1, 1) := by decide +kernel
theorem dX2_comeToUser_40 : decode cX2_comeToUser 40 = .ok (.iload_n 2, 1) := by decide +kernel
theorem dX2_comeToUser_41 : decode cX2_comeToUser 41 = .ok (.iload_n 3, 1) := by decide +kernel
theorem dX2_comeToUser_42 : decode cX2_comeToUser 42 = .ok (.iload 4, 2) := by decide +kernel
theorem dX2_comeToUser_44 : decode cX2_comeToUser 44 = .ok (.invokevirtual 94, 3) := by decide +kernel
theorem dX2_comeToUser_47 : decode cX2_comeToUser 47 = .ok (.return_, 1) := by decide +kernel
theorem dX2_isOnWay_0 : decode cX2_isOnWay 0 = .ok (.iconst 0, 1) := by decide +kernel
theorem dX2_isOnWay_1 : decode cX2_isOnWay 1 = .ok (.istore_n 3, 1) := by decide +kernel
theorem dX2_isOnWay_2 : decode cX2_isOnWay 2 = .ok (.iload_n 3, 1) := by decide +kernel
theorem dX2_isOnWay_3 : decode cX2_isOnWay 3 = .ok (.iload_n 2, 1) := by decide +kernel
theorem dX2_isOnWay_4 : decode cX2_isOnWay 4 = .ok (.if_icmp .ge 30, 3) := by decide +kernel
theorem dX2_isOnWay_7 : decode cX2_isOnWay 7 = .ok (.iload_n 3, 1) := by decide +kernel
theorem dX2_isOnWay_8 : decode cX2_isOnWay 8 = .ok (.aload_n 0, 1) := by decide +kernel
theorem dX2_isOnWay_9 : decode cX2_isOnWay 9 = .ok (.getfield 25, 3) := by decide +kernel
theorem dX2_isOnWay_12 : decode cX2_isOnWay 12 = .ok (.arraylength, 1) := by decide +kernel
theorem dX2_isOnWay_13 : decode cX2_isOnWay 13 = .ok (.if_icmp .ge 21, 3) := by decide +kernel
theorem dX2_isOnWay_16 : decode cX2_isOnWay 16 = .ok (.aload_n 0, 1) := by decide +kernel
theorem dX2_isOnWay_17 : decode cX2_isOnWay 17 = .ok (.getfield 25, 3) := by decide +kernel
theorem dX2_isOnWay_20 : decode cX2_isOnWay 20 = .ok (.iload_n 3, 1) := by decide +kernel
theorem dX2_isOnWay_21 : decode cX2_isOnWay 21 = .ok (.iaload, 1) := by decide +kernel
theorem dX2_isOnWay_22 : decode cX2_isOnWay 22 = .ok (.iload_n 1, 1) := by decide +kernel
theorem dX2_isOnWay_23 : decode cX2_isOnWay 23 = .ok (.if_icmp .ne 5, 3) := by decide +kernel
theorem dX2_isOnWay_26 : decode cX2_isOnWay 26 = .ok (.iconst 1, 1) := by decide +kernel
theorem dX2_isOnWay_27 : decode cX2_isOnWay 27 = .ok (.ireturn, 1) := by decide +kernel
theorem dX2_isOnWay_28 : decode cX2_isOnWay 28 = .ok (.iinc 3 1, 3) := by decide +kernel
theorem dX2_isOnWay_31 : decode cX2_isOnWay 31 = .ok (.goto (-29), 3) := by decide +kernel
theorem dX2_isOnWay_34 : decode cX2_isOnWay 34 = .ok (.iconst 0, 1) := by decide +kernel
theorem dX2_isOnWay_35 : decode cX2_isOnWay 35 = .ok (.ireturn, 1) := by decide +kernel
theorem dX2_lookAtCalls_0 : decode cX2_lookAtCalls 0 = .ok (.iconst 0, 1) := by decide +kernel
theorem dX2_lookAtCalls_1 : decode cX2_lookAtCalls 1 = .ok (.istore_n 1, 1) := by decide +kernel
theorem dX2_lookAtCalls_2 : decode cX2_lookAtCalls 2 = .ok (.iconst 0, 1) := by decide +kernel
theorem dX2_lookAtCalls_3 : decode cX2_lookAtCalls 3 = .ok (.istore_n 2, 1) := by decide +kernel
theorem dX2_lookAtCalls_4 : decode cX2_lookAtCalls 4 = .ok (.iload_n 2, 1) := by decide +kernel
theorem dX2_lookAtCalls_5 : decode cX2_lookAtCalls 5 = .ok (.aload_n 0, 1) := by decide +kernel
theorem dX2_lookAtCalls_6 : decode cX2_lookAtCalls 6 = .ok (.getfield 31, 3) := by decide +kernel
theorem dX2_lookAtCalls_9 : decode cX2_lookAtCalls 9 = .ok (.if_icmp .ge 28, 3) := by decide +kernel
theorem dX2_lookAtCalls_12 : decode cX2_lookAtCalls 12 = .ok (.aload_n 0, 1) := by decide +kernel
theorem dX2_lookAtCalls_13 : decode cX2_lookAtCalls 13 = .ok (.getfield 17, 3) := by decide +kernel
theorem dX2_lookAtCalls_16 : decode cX2_lookAtCalls 16 = .ok (.iload_n 2, 1) := by decide +kernel
theorem dX2_lookAtCalls_17 : decode cX2_lookAtCalls 17 = .ok (.aaload, 1) := by decide +kernel
theorem dX2_lookAtCalls_18 : decode cX2_lookAtCalls 18 = .ok (.aload_n 0, 1) := by decide +kernel
theorem dX2_lookAtCalls_19 : decode cX2_lookAtCalls 19 = .ok (.getfield 35, 3) := by decide +kernel
theorem dX2_lookAtCalls_22 : decode cX2_lookAtCalls 22 = .ok (.invokevirtual 202, 3) := by decide +kernel
theorem dX2_lookAtCalls_25 : decode cX2_lookAtCalls 25 = .ok (.ifCond .eq 6, 3) := by decide +kernel
theorem dX2_lookAtCalls_28 : decode cX2_lookAtCalls 28 = .ok (.iinc 1 1, 3) := by decide +kernel
theorem dX2_lookAtCalls_31 : decode cX2_lookAtCalls 31 = .ok (.iinc 2 1, 3) := by decide +kernel
theorem dX2_lookAtCalls_34 : decode cX2_lookAtCalls 34 = .ok (.goto (-30), 3) := by decide +kernel
theorem dX2_lookAtCalls_37 : decode cX2_lookAtCalls 37 = .ok (.iload_n 1, 1) := by decide +kernel
theorem dX2_lookAtCalls_38 : decode cX2_lookAtCalls 38 = .ok (.ireturn, 1) := by decide +kernel
theorem dJ9_max_7cf53_0 : decode cJ9_max_7cf53 0 = .ok (.iload_n 0, 1) := by decide +kernel
theorem dJ9_max_7cf53_1 : decode cJ9_max_7cf53 1 = .ok (.iload_n 1, 1) := by decide +kernel
theorem dJ9_max_7cf53_2 : decode cJ9_max_7cf53 2 = .ok (.if_icmp .lt 7, 3) := by decide +kernel
theorem dJ9_max_7cf53_5 : decode cJ9_max_7cf53 5 = .ok (.iload_n 0, 1) := by decide +kernel
theorem dJ9_max_7cf53_6 : decode cJ9_max_7cf53 6 = .ok (.goto 4, 3) := by decide +kernel
theorem dJ9_max_7cf53_9 : decode cJ9_max_7cf53 9 = .ok (.iload_n 1, 1) := by decide +kernel
theorem dJ9_max_7cf53_10 : decode cJ9_max_7cf53 10 = .ok (.ireturn, 1) := by decide +kernel
theorem dJ9_min_7cf53_0 : decode cJ9_min_7cf53 0 = .ok (.iload_n 0, 1) := by decide +kernel
theorem dJ9_min_7cf53_1 : decode cJ9_min_7cf53 1 = .ok (.iload_n 1, 1) := by decide +kernel
theorem dJ9_min_7cf53_2 : decode cJ9_min_7cf53 2 = .ok (.if_icmp .gt 7, 3) := by decide +kernel
theorem dJ9_min_7cf53_5 : decode cJ9_min_7cf53 5 = .ok (.iload_n 0, 1) := by decide +kernel
theorem dJ9_min_7cf53_6 : decode cJ9_min_7cf53 6 = .ok (.goto 4, 3) := by decide +kernel
theorem dJ9_min_7cf53_9 : decode cJ9_min_7cf53 9 = .ok (.iload_n 1, 1) := by decide +kernel
theorem dJ9_min_7cf53_10 : decode cJ9_min_7cf53 10 = .ok (.ireturn, 1) := by decide +kernel
theorem dL_draw_0 : decode cL_draw 0 = .ok (.iload_n 1, 1) := by decide +kernel
theorem dL_draw_1 : decode cL_draw 1 = .ok (.aload_n 0, 1) := by decide +kernel
theorem dL_draw_2 : decode cL_draw 2 = .ok (.arraylength, 1) := by decide +kernel
theorem dL_draw_3 : decode cL_draw 3 = .ok (.if_icmp .ge 12, 3) := by decide +kernel
theorem dL_draw_6 : decode cL_draw 6 = .ok (.aload_n 0, 1) := by decide +kernel
theorem dL_draw_7 : decode cL_draw 7 = .ok (.iload_n 1, 1) := by decide +kernel
theorem dL_draw_8 : decode cL_draw 8 = .ok (.iaload, 1) := by decide +kernel
theorem dL_draw_9 : decode cL_draw 9 = .ok (.ldc 7, 2) := by decide +kernel
theorem dL_draw_11 : decode cL_draw 11 = .ok (.iand, 1) := by decide +kernel
theorem dL_draw_12 : decode cL_draw 12 = .ok (.goto 12, 3) := by decide +kernel
theorem dL_draw_15 : decode cL_draw 15 = .ok (.ldc 8, 2) := by decide +kernel
theorem dL_draw_17 : decode cL_draw 17 = .ok (.iload_n 1, 1) := by decide +kernel
theorem dL_draw_18 : decode cL_draw 18 = .ok (.iconst 2, 1) := by decide +kernel
theorem dL_draw_19 : decode cL_draw 19 = .ok (.iadd, 1) := by decide +kernel
theorem dL_draw_20 : decode cL_draw 20 = .ok (.imul, 1) := by decide +kernel
theorem dL_draw_21 : decode cL_draw 21 = .ok (.ldc 9, 2) := by decide +kernel
theorem dL_draw_23 : decode cL_draw 23 = .ok (.irem, 1) := by decide +kernel
theorem dL_draw_24 : decode cL_draw 24 = .ok (.ireturn, 1) := by decide +kernel
theorem dL_step_0 : decode cL_step 0 = .ok (.aload_n 1, 1) := by decide +kernel
theorem dL_step_1 : decode cL_step 1 = .ok (.iconst 1, 1) := by decide +kernel
theorem dL_step_2 : decode cL_step 2 = .ok (.iaload, 1) := by decide +kernel
theorem dL_step_3 : decode cL_step 3 = .ok (.ifCond .ne 7, 3) := by decide +kernel
theorem dL_step_6 : decode cL_step 6 = .ok (.iconst 0, 1) := by decide +kernel
theorem dL_step_7 : decode cL_step 7 = .ok (.goto 8, 3) := by decide +kernel
theorem dL_step_10 : decode cL_step 10 = .ok (.iload_n 3, 1) := by decide +kernel
theorem dL_step_11 : decode cL_step 11 = .ok (.aload_n 1, 1) := by decide +kernel
theorem dL_step_12 : decode cL_step 12 = .ok (.iconst 1, 1) := by decide +kernel
theorem dL_step_13 : decode cL_step 13 = .ok (.iaload, 1) := by decide +kernel
theorem dL_step_14 : decode cL_step 14 = .ok (.irem, 1) := by decide +kernel
theorem dL_step_15 : decode cL_step 15 = .ok (.istore 5, 2) := by decide +kernel
theorem dL_step_17 : decode cL_step 17 = .ok (.iload_n 3, 1) := by decide +kernel
theorem dL_step_18 : decode cL_step 18 = .ok (.bipush 6, 2) := by decide +kernel
theorem dL_step_20 : decode cL_step 20 = .ok (.irem, 1) := by decide +kernel
theorem dL_step_21 : decode cL_step 21 = .ok (.istore 6, 2) := by decide +kernel
theorem dL_step_23 : decode cL_step 23 = .ok (.iload_n 2, 1) := by decide +kernel
theorem dL_step_24 : decode cL_step 24 = .ok (.bipush 15, 2) := by decide +kernel
theorem dL_step_26 : decode cL_step 26 = .ok (.irem, 1) := by decide +kernel
theorem dL_step_27 : decode cL_step 27 = .ok (.tableswitch 282 0 12 #[65, 65, 65, 65, 65, 137, 137, 137, 161, 161, 161, 161, 253], 65) := by decide +kernel
theorem dL_step_92 : decode cL_step 92 = .ok (.aload_n 0, 1) := by decide +kernel
theorem dL_step_93 : decode cL_step 93 = .ok (.aload_n 1, 1) := by decide +kernel
theorem dL_step_94 : decode cL_step 94 = .ok (.iload 6, 2) := by decide +kernel
theorem dL_step_96 : decode cL_step 96 = .ok (.iload 4, 2) := by decide +kernel
theorem dL_step_98 : decode cL_step 98 = .ok (.iconst 3, 1) := by decide +kernel
theorem dL_step_99 : decode cL_step 99 = .ok (.irem, 1) := by decide +kernel
theorem dL_step_100 : decode cL_step 100 = .ok (.ifCond .ne 16, 3) := by decide +kernel
theorem dL_step_103 : decode cL_step 103 = .ok (.bipush 10, 2) := by decide +kernel
theorem dL_step_105 : decode cL_step 105 = .ok (.iload 4, 2) := by decide +kernel
theorem dL_step_107 : decode cL_step 107 = .ok (.iconst 3, 1) := by decide +kernel
theorem dL_step_108 : decode cL_step 108 = .ok (.idiv, 1) := by decide +kernel
theorem dL_step_109 : decode cL_step 109 = .ok (.bipush 6, 2) := by decide +kernel
theorem dL_step_111 : decode cL_step 111 = .ok (.irem, 1) := by decide +kernel
theorem dL_step_112 : decode cL_step 112 = .ok (.iadd, 1) := by decide +kernel
theorem dL_step_113 : decode cL_step 113 = .ok (.goto 10, 3) := by decide +kernel
theorem dL_step_116 : decode cL_step 116 = .ok (.iload 4, 2) := by decide +kernel
theorem dL_step_118 : decode cL_step 118 = .ok (.iconst 3, 1) := by decide +kernel
theorem dL_step_119 : decode cL_step 119 = .ok (.idiv, 1) := by decide +kernel
theorem dL_step_120 : decode cL_step 120 = .ok (.bipush 10, 2) := by decide +kernel
theorem dL_step_122 : decode cL_step 122 = .ok (.irem, 1) := by decide +kernel
theorem dL_step_123 : decode cL_step 123 = .ok (.iload 4, 2) := by decide +kernel
theorem dL_step_125 : decode cL_step 125 = .ok (.bipush 30, 2) := by decide +kernel
theorem dL_step_127 : decode cL_step 127 = .ok (.idiv, 1) := by decide +kernel
theorem dL_step_128 : decode cL_step 128 = .ok (.iconst 4, 1) := by decide +kernel
theorem dL_step_129 : decode cL_step 129 = .ok (.irem, 1) := by decide +kernel
theorem dL_step_130 : decode cL_step 130 = .ok (.iload_n 3, 1) := by decide +kernel
theorem dL_step_131 : decode cL_step 131 = .ok (.bipush 7, 2) := by decide +kernel
theorem dL_step_133 : decode cL_step 133 = .ok (.irem, 1) := by decide +kernel
theorem dL_step_134 : decode cL_step 134 = .ok (.ifCond .ne 7, 3) := by decide +kernel
theorem dL_step_137 : decode cL_step 137 = .ok (.iconst 0, 1) := by decide +kernel
theorem dL_step_138 : decode cL_step 138 = .ok (.goto 22, 3) := by decide +kernel
theorem dL_step_141 : decode cL_step 141 = .ok (.iconst 1, 1) := by decide +kernel
theorem dL_step_142 : decode cL_step 142 = .ok (.iload 4, 2) := by decide +kernel
theorem dL_step_144 : decode cL_step 144 = .ok (.iload_n 3, 1) := by decide +kernel
theorem dL_step_145 : decode cL_step 145 = .ok (.iconst 2, 1) := by decide +kernel
theorem dL_step_146 : decode cL_step 146 = .ok (.irem, 1) := by decide +kernel
theorem dL_step_147 : decode cL_step 147 = .ok (.ifCond .ne 9, 3) := by decide +kernel
theorem dL_step_150 : decode cL_step 150 = .ok (.sipush 1000, 3) := by decide +kernel
theorem dL_step_153 : decode cL_step 153 = .ok (.goto 5, 3) := by decide +kernel
theorem dL_step_156 : decode cL_step 156 = .ok (.bipush 40, 2) := by decide +kernel
theorem dL_step_158 : decode cL_step 158 = .ok (.irem, 1) := by decide +kernel
theorem dL_step_159 : decode cL_step 159 = .ok (.iadd, 1) := by decide +kernel
theorem dL_step_160 : decode cL_step 160 = .ok (.invokestatic 10, 3) := by decide +kernel
theorem dL_step_163 : decode cL_step 163 = .ok (.ireturn, 1) := by decide +kernel
theorem dL_step_164 : decode cL_step 164 = .ok (.aload_n 1, 1) := by decide +kernel
theorem dL_step_165 : decode cL_step 165 = .ok (.iconst 1, 1) := by decide +kernel
theorem dL_step_166 : decode cL_step 166 = .ok (.iaload, 1) := by decide +kernel
theorem dL_step_167 : decode cL_step 167 = .ok (.bipush 12, 2) := by decide +kernel
theorem dL_step_169 : decode cL_step 169 = .ok (.if_icmp .eq 13, 3) := by decide +kernel
theorem dL_step_172 : decode cL_step 172 = .ok (.aload_n 0, 1) := by decide +kernel
theorem dL_step_173 : decode cL_step 173 = .ok (.aload_n 1, 1) := by decide +kernel
theorem dL_step_174 : decode cL_step 174 = .ok (.iload 6, 2) := by decide +kernel
theorem dL_step_176 : decode cL_step 176 = .ok (.invokestatic 16, 3) := by decide +kernel
theorem dL_step_179 : decode cL_step 179 = .ok (.ifCond .eq 7, 3) := by decide +kernel
theorem dL_step_182 : decode cL_step 182 = .ok (.iconst 1, 1) := by decide +kernel
theorem dL_step_183 : decode cL_step 183 = .ok (.goto 4, 3) := by decide +kernel
theorem dL_step_186 : decode cL_step 186 = .ok (.iconst 0, 1) := by decide +kernel
theorem dL_step_187 : decode cL_step 187 = .ok (.ireturn, 1) := by decide +kernel
theorem dL_step_188 : decode cL_step 188 = .ok (.aload_n 1, 1) := by decide +kernel
theorem dL_step_189 : decode cL_step 189 = .ok (.iconst 1, 1) := by decide +kernel
theorem dL_step_190 : decode cL_step 190 = .ok (.iaload, 1) := by decide +kernel
theorem dL_step_191 : decode cL_step 191 = .ok (.ifCond .eq 83, 3) := by decide +kernel
theorem dL_step_194 : decode cL_step 194 = .ok (.aload_n 0, 1) := by decide +kernel
theorem dL_step_195 : decode cL_step 195 = .ok (.aload_n 1, 1) := by decide +kernel
theorem dL_step_196 : decode cL_step 196 = .ok (.iload 5, 2) := by decide +kernel
theorem dL_step_198 : decode cL_step 198 = .ok (.iload 4, 2) := by decide +kernel
theorem dL_step_200 : decode cL_step 200 = .ok (.bipush 8, 2) := by decide +kernel
theorem dL_step_202 : decode cL_step 202 = .ok (.idiv, 1) := by decide +kernel
theorem dL_step_203 : decode cL_step 203 = .ok (.bipush 12, 2) := by decide +kernel
theorem dL_step_205 : decode cL_step 205 = .ok (.irem, 1) := by decide +kernel
theorem dL_step_206 : decode cL_step 206 = .ok (.iload 4, 2) := by decide +kernel
theorem dL_step_208 : decode cL_step 208 = .ok (.iconst 4, 1) := by decide +kernel
theorem dL_step_209 : decode cL_step 209 = .ok (.irem, 1) := by decide +kernel
theorem dL_step_210 : decode cL_step 210 = .ok (.ifCond .ne 9, 3) := by decide +kernel
theorem dL_step_213 : decode cL_step 213 = .ok (.sipush 180, 3) := by decide +kernel
theorem dL_step_216 : decode cL_step 216 = .ok (.goto 52, 3) := by decide +kernel
theorem dL_step_219 : decode cL_step 219 = .ok (.iload 4, 2) := by decide +kernel
theorem dL_step_221 : decode cL_step 221 = .ok (.iconst 4, 1) := by decide +kernel
theorem dL_step_222 : decode cL_step 222 = .ok (.irem, 1) := by decide +kernel
theorem dL_step_223 : decode cL_step 223 = .ok (.iconst 1, 1) := by decide +kernel
theorem dL_step_224 : decode cL_step 224 = .ok (.if_icmp .ne 18, 3) := by decide +kernel
theorem dL_step_227 : decode cL_step 227 = .ok (.sipush 200, 3) := by decide +kernel
theorem dL_step_230 : decode cL_step 230 = .ok (.iload 4, 2) := by decide +kernel
theorem dL_step_232 : decode cL_step 232 = .ok (.bipush 96, 2) := by decide +kernel
theorem dL_step_234 : decode cL_step 234 = .ok (.idiv, 1) := by decide +kernel
theorem dL_step_235 : decode cL_step 235 = .ok (.bipush 100, 2) := by decide +kernel
theorem dL_step_237 : decode cL_step 237 = .ok (.irem, 1) := by decide +kernel
theorem dL_step_238 : decode cL_step 238 = .ok (.iadd, 1) := by decide +kernel
theorem dL_step_239 : decode cL_step 239 = .ok (.goto 29, 3) := by decide +kernel
theorem dL_step_242 : decode cL_step 242 = .ok (.sipush 300, 3) := by decide +kernel
theorem dL_step_245 : decode cL_step 245 = .ok (.iload 4, 2) := by decide +kernel
theorem dL_step_247 : decode cL_step 247 = .ok (.bipush 96, 2) := by decide +kernel
theorem dL_step_249 : decode cL_step 249 = .ok (.idiv, 1) := by decide +kernel
theorem dL_step_250 : decode cL_step 250 = .ok (.iload 4, 2) := by decide +kernel
theorem dL_step_252 : decode cL_step 252 = .ok (.iconst 3, 1) := by decide +kernel
theorem dL_step_253 : decode cL_step 253 = .ok (.irem, 1) := by decide +kernel
theorem dL_step_254 : decode cL_step 254 = .ok (.ifCond .ne 9, 3) := by decide +kernel
theorem dL_step_257 : decode cL_step 257 = .ok (.sipush 400, 3) := by decide +kernel
theorem dL_step_260 : decode cL_step 260 = .ok (.goto 6, 3) := by decide +kernel
theorem dL_step_263 : decode cL_step 263 = .ok (.sipush 300, 3) := by decide +kernel
theorem dL_step_266 : decode cL_step 266 = .ok (.irem, 1) := by decide +kernel
theorem dL_step_267 : decode cL_step 267 = .ok (.iadd, 1) := by decide +kernel
theorem dL_step_268 : decode cL_step 268 = .ok (.invokestatic 20, 3) := by decide +kernel
theorem dL_step_271 : decode cL_step 271 = .ok (.ifCond .eq 7, 3) := by decide +kernel
theorem dL_step_274 : decode cL_step 274 = .ok (.iconst 1, 1) := by decide +kernel
theorem dL_step_275 : decode cL_step 275 = .ok (.goto 4, 3) := by decide +kernel
theorem dL_step_278 : decode cL_step 278 = .ok (.iconst 0, 1) := by decide +kernel
theorem dL_step_279 : decode cL_step 279 = .ok (.ireturn, 1) := by decide +kernel
theorem dL_step_280 : decode cL_step 280 = .ok (.aload_n 1, 1) := by decide +kernel
theorem dL_step_281 : decode cL_step 281 = .ok (.iconst 1, 1) := by decide +kernel
theorem dL_step_282 : decode cL_step 282 = .ok (.iaload, 1) := by decide +kernel
theorem dL_step_283 : decode cL_step 283 = .ok (.ifCond .eq 20, 3) := by decide +kernel
theorem dL_step_286 : decode cL_step 286 = .ok (.iload 4, 2) := by decide +kernel
theorem dL_step_288 : decode cL_step 288 = .ok (.iconst 3, 1) := by decide +kernel
theorem dL_step_289 : decode cL_step 289 = .ok (.irem, 1) := by decide +kernel
theorem dL_step_290 : decode cL_step 290 = .ok (.ifCond .gt 13, 3) := by decide +kernel
theorem dL_step_293 : decode cL_step 293 = .ok (.aload_n 0, 1) := by decide +kernel
theorem dL_step_294 : decode cL_step 294 = .ok (.aload_n 1, 1) := by decide +kernel
theorem dL_step_295 : decode cL_step 295 = .ok (.iload 5, 2) := by decide +kernel
theorem dL_step_297 : decode cL_step 297 = .ok (.invokestatic 24, 3) := by decide +kernel
theorem dL_step_300 : decode cL_step 300 = .ok (.ifCond .eq 7, 3) := by decide +kernel
theorem dL_step_303 : decode cL_step 303 = .ok (.iconst 1, 1) := by decide +kernel
theorem dL_step_304 : decode cL_step 304 = .ok (.goto 4, 3) := by decide +kernel
theorem dL_step_307 : decode cL_step 307 = .ok (.iconst 0, 1) := by decide +kernel
theorem dL_step_308 : decode cL_step 308 = .ok (.ireturn, 1) := by decide +kernel
theorem dL_step_309 : decode cL_step 309 = .ok (.aload_n 0, 1) := by decide +kernel
theorem dL_step_310 : decode cL_step 310 = .ok (.aload_n 1, 1) := by decide +kernel
theorem dL_step_311 : decode cL_step 311 = .ok (.iconst 1, 1) := by decide +kernel
theorem dL_step_312 : decode cL_step 312 = .ok (.iload 4, 2) := by decide +kernel
theorem dL_step_314 : decode cL_step 314 = .ok (.iload_n 3, 1) := by decide +kernel
theorem dL_step_315 : decode cL_step 315 = .ok (.iconst 3, 1) := by decide +kernel
theorem dL_step_316 : decode cL_step 316 = .ok (.irem, 1) := by decide +kernel
theorem dL_step_317 : decode cL_step 317 = .ok (.ifCond .ne 8, 3) := by decide +kernel
theorem dL_step_320 : decode cL_step 320 = .ok (.bipush 60, 2) := by decide +kernel
theorem dL_step_322 : decode cL_step 322 = .ok (.goto 5, 3) := by decide +kernel
theorem dL_step_325 : decode cL_step 325 = .ok (.bipush 7, 2) := by decide +kernel
theorem dL_step_327 : decode cL_step 327 = .ok (.irem, 1) := by decide +kernel
theorem dL_step_328 : decode cL_step 328 = .ok (.iadd, 1) := by decide +kernel
theorem dL_step_329 : decode cL_step 329 = .ok (.invokestatic 27, 3) := by decide +kernel
theorem dL_step_332 : decode cL_step 332 = .ok (.ireturn, 1) := by decide +kernel
theorem dL_registers_0 : decode cL_registers 0 = .ok (.aload_n 0, 1) := by decide +kernel
theorem dL_registers_1 : decode cL_registers 1 = .ok (.iload_n 2, 1) := by decide +kernel
theorem dL_registers_2 : decode cL_registers 2 = .ok (.invokevirtual 30, 3) := by decide +kernel
theorem dL_registers_5 : decode cL_registers 5 = .ok (.istore 6, 2) := by decide +kernel
theorem dL_registers_7 : decode cL_registers 7 = .ok (.iconst (-1), 1) := by decide +kernel
theorem dL_registers_8 : decode cL_registers 8 = .ok (.istore 7, 2) := by decide +kernel
theorem dL_registers_10 : decode cL_registers 10 = .ok (.iconst 0, 1) := by decide +kernel
theorem dL_registers_11 : decode cL_registers 11 = .ok (.istore 8, 2) := by decide +kernel
theorem dL_registers_13 : decode cL_registers 13 = .ok (.iload 8, 2) := by decide +kernel
theorem dL_registers_15 : decode cL_registers 15 = .ok (.iload 6, 2) := by decide +kernel
theorem dL_registers_17 : decode cL_registers 17 = .ok (.if_icmp .ge 32, 3) := by decide +kernel
theorem dL_registers_20 : decode cL_registers 20 = .ok (.aload_n 0, 1) := by decide +kernel
theorem dL_registers_21 : decode cL_registers 21 = .ok (.iload_n 2, 1) := by decide +kernel
theorem dL_registers_22 : decode cL_registers 22 = .ok (.iload 8, 2) := by decide +kernel
theorem dL_registers_24 : decode cL_registers 24 = .ok (.invokevirtual 36, 3) := by decide +kernel
theorem dL_registers_27 : decode cL_registers 27 = .ok (.bipush 100, 2) := by decide +kernel
theorem dL_registers_29 : decode cL_registers 29 = .ok (.idiv, 1) := by decide +kernel
theorem dL_registers_30 : decode cL_registers 30 = .ok (.iload_n 3, 1) := by decide +kernel
theorem dL_registers_31 : decode cL_registers 31 = .ok (.if_icmp .ne 8, 3) := by decide +kernel
theorem dL_registers_34 : decode cL_registers 34 = .ok (.iload 8, 2) := by decide +kernel
theorem dL_registers_36 : decode cL_registers 36 = .ok (.goto 5, 3) := by decide +kernel
theorem dL_registers_39 : decode cL_registers 39 = .ok (.iload 7, 2) := by decide +kernel
theorem dL_registers_41 : decode cL_registers 41 = .ok (.istore 7, 2) := by decide +kernel
theorem dL_registers_43 : decode cL_registers 43 = .ok (.iinc 8 1, 3) := by decide +kernel
theorem dL_registers_46 : decode cL_registers 46 = .ok (.goto (-33), 3) := by decide +kernel
theorem dL_registers_49 : decode cL_registers 49 = .ok (.aload_n 1, 1) := by decide +kernel
theorem dL_registers_50 : decode cL_registers 50 = .ok (.iconst 2, 1) := by decide +kernel
theorem dL_registers_51 : decode cL_registers 51 = .ok (.iaload, 1) := by decide +kernel
theorem dL_registers_52 : decode cL_registers 52 = .ok (.sipush 10000, 3) := by decide +kernel
theorem dL_registers_55 : decode cL_registers 55 = .ok (.if_icmp .gt 21, 3) := by decide +kernel
theorem dL_registers_58 : decode cL_registers 58 = .ok (.iload 5, 2) := by decide +kernel
theorem dL_registers_60 : decode cL_registers 60 = .ok (.ifCond .le 29, 3) := by decide +kernel
theorem dL_registers_63 : decode cL_registers 63 = .ok (.iload 7, 2) := by decide +kernel
theorem dL_registers_65 : decode cL_registers 65 = .ok (.iconst (-1), 1) := by decide +kernel
theorem dL_registers_66 : decode cL_registers 66 = .ok (.if_icmp .ne 23, 3) := by decide +kernel
theorem dL_registers_69 : decode cL_registers 69 = .ok (.iload 6, 2) := by decide +kernel
theorem dL_registers_71 : decode cL_registers 71 = .ok (.bipush 6, 2) := by decide +kernel
theorem dL_registers_73 : decode cL_registers 73 = .ok (.if_icmp .ne 16, 3) := by decide +kernel
theorem dL_registers_76 : decode cL_registers 76 = .ok (.iload 6, 2) := by decide +kernel
theorem dL_registers_78 : decode cL_registers 78 = .ok (.bipush 6, 2) := by decide +kernel
theorem dL_registers_80 : decode cL_registers 80 = .ok (.if_icmp .gt 7, 3) := by decide +kernel
theorem dL_registers_83 : decode cL_registers 83 = .ok (.iconst 1, 1) := by decide +kernel
theorem dL_registers_84 : decode cL_registers 84 = .ok (.goto 4, 3) := by decide +kernel
theorem dL_registers_87 : decode cL_registers 87 = .ok (.iconst 0, 1) := by decide +kernel
theorem dL_registers_88 : decode cL_registers 88 = .ok (.ireturn, 1) := by decide +kernel
theorem dL_registers_89 : decode cL_registers 89 = .ok (.aload_n 1, 1) := by decide +kernel
theorem dL_registers_90 : decode cL_registers 90 = .ok (.iconst 2, 1) := by decide +kernel
theorem dL_registers_91 : decode cL_registers 91 = .ok (.dup2, 1) := by decide +kernel
theorem dL_registers_92 : decode cL_registers 92 = .ok (.iaload, 1) := by decide +kernel
theorem dL_registers_93 : decode cL_registers 93 = .ok (.iconst 1, 1) := by decide +kernel
theorem dL_registers_94 : decode cL_registers 94 = .ok (.iadd, 1) := by decide +kernel
theorem dL_registers_95 : decode cL_registers 95 = .ok (.iastore, 1) := by decide +kernel
theorem dL_registers_96 : decode cL_registers 96 = .ok (.iload 6, 2) := by decide +kernel
theorem dL_registers_98 : decode cL_registers 98 = .ok (.iload 5, 2) := by decide +kernel
theorem dL_registers_100 : decode cL_registers 100 = .ok (.ifCond .le 13, 3) := by decide +kernel
theorem dL_registers_103 : decode cL_registers 103 = .ok (.iload 7, 2) := by decide +kernel
theorem dL_registers_105 : decode cL_registers 105 = .ok (.iconst (-1), 1) := by decide +kernel
theorem dL_registers_106 : decode cL_registers 106 = .ok (.if_icmp .ne 7, 3) := by decide +kernel
theorem dL_registers_109 : decode cL_registers 109 = .ok (.iconst 1, 1) := by decide +kernel
theorem dL_registers_110 : decode cL_registers 110 = .ok (.goto 4, 3) := by decide +kernel
theorem dL_registers_113 : decode cL_registers 113 = .ok (.iconst 0, 1) := by decide +kernel
theorem dL_registers_114 : decode cL_registers 114 = .ok (.iadd, 1) := by decide +kernel
theorem dL_registers_115 : decode cL_registers 115 = .ok (.iload 5, 2) := by decide +kernel
theorem dL_registers_117 : decode cL_registers 117 = .ok (.ifCond .ne 13, 3) := by decide +kernel
theorem dL_registers_120 : decode cL_registers 120 = .ok (.iload 7, 2) := by decide +kernel
theorem dL_registers_122 : decode cL_registers 122 = .ok (.iconst (-1), 1) := by decide +kernel
theorem dL_registers_123 : decode cL_registers 123 = .ok (.if_icmp .eq 7, 3) := by decide +kernel
theorem dL_registers_126 : decode cL_registers 126 = .ok (.iconst 1, 1) := by decide +kernel
theorem dL_registers_127 : decode cL_registers 127 = .ok (.goto 4, 3) := by decide +kernel
theorem dL_registers_130 : decode cL_registers 130 = .ok (.iconst 0, 1) := by decide +kernel
theorem dL_registers_131 : decode cL_registers 131 = .ok (.isub, 1) := by decide +kernel
theorem dL_registers_132 : decode cL_registers 132 = .ok (.istore 8, 2) := by decide +kernel
theorem dL_registers_134 : decode cL_registers 134 = .ok (.aload_n 0, 1) := by decide +kernel
theorem dL_registers_135 : decode cL_registers 135 = .ok (.iload_n 2, 1) := by decide +kernel
theorem dL_registers_136 : decode cL_registers 136 = .ok (.iload_n 3, 1) := by decide +kernel
theorem dL_registers_137 : decode cL_registers 137 = .ok (.iload 4, 2) := by decide +kernel
theorem dL_registers_139 : decode cL_registers 139 = .ok (.iload 5, 2) := by decide +kernel
theorem dL_registers_141 : decode cL_registers 141 = .ok (.aload_n 1, 1) := by decide +kernel
theorem dL_registers_142 : decode cL_registers 142 = .ok (.iconst 2, 1) := by decide +kernel
theorem dL_registers_143 : decode cL_registers 143 = .ok (.iaload, 1) := by decide +kernel
theorem dL_registers_144 : decode cL_registers 144 = .ok (.iconst 1, 1) := by decide +kernel
theorem dL_registers_145 : decode cL_registers 145 = .ok (.isub, 1) := by decide +kernel
theorem dL_registers_146 : decode cL_registers 146 = .ok (.invokevirtual 40, 3) := by decide +kernel
theorem dL_registers_149 : decode cL_registers 149 = .ok (.iload 8, 2) := by decide +kernel
theorem dL_registers_151 : decode cL_registers 151 = .ok (.if_icmp .ne 17, 3) := by decide +kernel
theorem dL_registers_154 : decode cL_registers 154 = .ok (.aload_n 0, 1) := by decide +kernel
theorem dL_registers_155 : decode cL_registers 155 = .ok (.iload_n 2, 1) := by decide +kernel
theorem dL_registers_156 : decode cL_registers 156 = .ok (.invokevirtual 30, 3) := by decide +kernel
theorem dL_registers_159 : decode cL_registers 159 = .ok (.iload 8, 2) := by decide +kernel
theorem dL_registers_161 : decode cL_registers 161 = .ok (.if_icmp .ne 7, 3) := by decide +kernel
theorem dL_registers_164 : decode cL_registers 164 = .ok (.iconst 1, 1) := by decide +kernel
theorem dL_registers_165 : decode cL_registers 165 = .ok (.goto 4, 3) := by decide +kernel
theorem dL_registers_168 : decode cL_registers 168 = .ok (.iconst 0, 1) := by decide +kernel
theorem dL_registers_169 : decode cL_registers 169 = .ok (.istore 9, 2) := by decide +kernel
theorem dL_registers_171 : decode cL_registers 171 = .ok (.iload 9, 2) := by decide +kernel
theorem dL_registers_173 : decode cL_registers 173 = .ok (.ifCond .eq 35, 3) := by decide +kernel
theorem dL_registers_176 : decode cL_registers 176 = .ok (.iload 5, 2) := by decide +kernel
theorem dL_registers_178 : decode cL_registers 178 = .ok (.ifCond .eq 26, 3) := by decide +kernel
theorem dL_registers_181 : decode cL_registers 181 = .ok (.iload 7, 2) := by decide +kernel
theorem dL_registers_183 : decode cL_registers 183 = .ok (.iconst (-1), 1) := by decide +kernel
theorem dL_registers_184 : decode cL_registers 184 = .ok (.if_icmp .eq 20, 3) := by decide +kernel
theorem dL_registers_187 : decode cL_registers 187 = .ok (.aload_n 0, 1) := by decide +kernel
theorem dL_registers_188 : decode cL_registers 188 = .ok (.iload_n 2, 1) := by decide +kernel
theorem dL_registers_189 : decode cL_registers 189 = .ok (.iload 7, 2) := by decide +kernel
theorem dL_registers_191 : decode cL_registers 191 = .ok (.invokevirtual 36, 3) := by decide +kernel
theorem dL_registers_194 : decode cL_registers 194 = .ok (.bipush 100, 2) := by decide +kernel
theorem dL_registers_196 : decode cL_registers 196 = .ok (.iload_n 3, 1) := by decide +kernel
theorem dL_registers_197 : decode cL_registers 197 = .ok (.imul, 1) := by decide +kernel
theorem dL_registers_198 : decode cL_registers 198 = .ok (.iload 4, 2) := by decide +kernel
theorem dL_registers_200 : decode cL_registers 200 = .ok (.iadd, 1) := by decide +kernel
theorem dL_registers_201 : decode cL_registers 201 = .ok (.if_icmp .ne 7, 3) := by decide +kernel
theorem dL_registers_204 : decode cL_registers 204 = .ok (.iconst 1, 1) := by decide +kernel
theorem dL_registers_205 : decode cL_registers 205 = .ok (.goto 4, 3) := by decide +kernel
theorem dL_registers_208 : decode cL_registers 208 = .ok (.iconst 0, 1) := by decide +kernel
theorem dL_registers_209 : decode cL_registers 209 = .ok (.ireturn, 1) := by decide +kernel
theorem dL_calls_0 : decode cL_calls 0 = .ok (.aload_n 1, 1) := by decide +kernel
theorem dL_calls_1 : decode cL_calls 1 = .ok (.iconst 1, 1) := by decide +kernel
theorem dL_calls_2 : decode cL_calls 2 = .ok (.iaload, 1) := by decide +kernel
theorem dL_calls_3 : decode cL_calls 3 = .ok (.istore_n 3, 1) := by decide +kernel
theorem dL_calls_4 : decode cL_calls 4 = .ok (.aload_n 1, 1) := by decide +kernel
theorem dL_calls_5 : decode cL_calls 5 = .ok (.iconst 1, 1) := by decide +kernel
theorem dL_calls_6 : decode cL_calls 6 = .ok (.dup2, 1) := by decide +kernel
theorem dL_calls_7 : decode cL_calls 7 = .ok (.iaload, 1) := by decide +kernel
theorem dL_calls_8 : decode cL_calls 8 = .ok (.iconst 1, 1) := by decide +kernel
theorem dL_calls_9 : decode cL_calls 9 = .ok (.iadd, 1) := by decide +kernel
theorem dL_calls_10 : decode cL_calls 10 = .ok (.iastore, 1) := by decide +kernel
theorem dL_calls_11 : decode cL_calls 11 = .ok (.aload_n 0, 1) := by decide +kernel
theorem dL_calls_12 : decode cL_calls 12 = .ok (.iload_n 2, 1) := by decide +kernel
theorem dL_calls_13 : decode cL_calls 13 = .ok (.invokevirtual 30, 3) := by decide +kernel
theorem dL_calls_16 : decode cL_calls 16 = .ok (.istore 4, 2) := by decide +kernel
theorem dL_calls_18 : decode cL_calls 18 = .ok (.aload_n 0, 1) := by decide +kernel
theorem dL_calls_19 : decode cL_calls 19 = .ok (.iload_n 2, 1) := by decide +kernel
theorem dL_calls_20 : decode cL_calls 20 = .ok (.invokevirtual 44, 3) := by decide +kernel
theorem dL_calls_23 : decode cL_calls 23 = .ok (.iload_n 3, 1) := by decide +kernel
theorem dL_calls_24 : decode cL_calls 24 = .ok (.if_icmp .ne 58, 3) := by decide +kernel
theorem dL_calls_27 : decode cL_calls 27 = .ok (.aload_n 0, 1) := by decide +kernel
theorem dL_calls_28 : decode cL_calls 28 = .ok (.invokevirtual 47, 3) := by decide +kernel
theorem dL_calls_31 : decode cL_calls 31 = .ok (.aload_n 1, 1) := by decide +kernel
theorem dL_calls_32 : decode cL_calls 32 = .ok (.iconst 1, 1) := by decide +kernel
theorem dL_calls_33 : decode cL_calls 33 = .ok (.iaload, 1) := by decide +kernel
theorem dL_calls_34 : decode cL_calls 34 = .ok (.if_icmp .ne 48, 3) := by decide +kernel
theorem dL_calls_37 : decode cL_calls 37 = .ok (.aload_n 0, 1) := by decide +kernel
theorem dL_calls_38 : decode cL_calls 38 = .ok (.iload_n 3, 1) := by decide +kernel
theorem dL_calls_39 : decode cL_calls 39 = .ok (.invokevirtual 50, 3) := by decide +kernel
theorem dL_calls_42 : decode cL_calls 42 = .ok (.iconst (-1), 1) := by decide +kernel
theorem dL_calls_43 : decode cL_calls 43 = .ok (.if_icmp .ne 39, 3) := by decide +kernel
theorem dL_calls_46 : decode cL_calls 46 = .ok (.iload 4, 2) := by decide +kernel
theorem dL_calls_48 : decode cL_calls 48 = .ok (.ifCond .gt 11, 3) := by decide +kernel
theorem dL_calls_51 : decode cL_calls 51 = .ok (.aload_n 0, 1) := by decide +kernel
theorem dL_calls_52 : decode cL_calls 52 = .ok (.iload_n 3, 1) := by decide +kernel
theorem dL_calls_53 : decode cL_calls 53 = .ok (.invokevirtual 53, 3) := by decide +kernel
theorem dL_calls_56 : decode cL_calls 56 = .ok (.ifCond .ne 26, 3) := by decide +kernel
theorem dL_calls_59 : decode cL_calls 59 = .ok (.aload_n 0, 1) := by decide +kernel
theorem dL_calls_60 : decode cL_calls 60 = .ok (.iload_n 3, 1) := by decide +kernel
theorem dL_calls_61 : decode cL_calls 61 = .ok (.invokevirtual 53, 3) := by decide +kernel
theorem dL_calls_64 : decode cL_calls 64 = .ok (.ifCond .gt 14, 3) := by decide +kernel
theorem dL_calls_67 : decode cL_calls 67 = .ok (.aload_n 0, 1) := by decide +kernel
theorem dL_calls_68 : decode cL_calls 68 = .ok (.iload_n 3, 1) := by decide +kernel
theorem dL_calls_69 : decode cL_calls 69 = .ok (.invokevirtual 56, 3) := by decide +kernel
theorem dL_calls_72 : decode cL_calls 72 = .ok (.sipush 480, 3) := by decide +kernel
theorem dL_calls_75 : decode cL_calls 75 = .ok (.if_icmp .ne 7, 3) := by decide +kernel
theorem dL_calls_78 : decode cL_calls 78 = .ok (.iconst 1, 1) := by decide +kernel
theorem dL_calls_79 : decode cL_calls 79 = .ok (.goto 4, 3) := by decide +kernel
theorem dL_calls_82 : decode cL_calls 82 = .ok (.iconst 0, 1) := by decide +kernel
theorem dL_calls_83 : decode cL_calls 83 = .ok (.istore 5, 2) := by decide +kernel
theorem dL_calls_85 : decode cL_calls 85 = .ok (.iconst 0, 1) := by decide +kernel
theorem dL_calls_86 : decode cL_calls 86 = .ok (.istore 6, 2) := by decide +kernel
theorem dL_calls_88 : decode cL_calls 88 = .ok (.iconst 0, 1) := by decide +kernel
theorem dL_calls_89 : decode cL_calls 89 = .ok (.istore 7, 2) := by decide +kernel
theorem dL_calls_91 : decode cL_calls 91 = .ok (.iload 7, 2) := by decide +kernel
theorem dL_calls_93 : decode cL_calls 93 = .ok (.aload_n 0, 1) := by decide +kernel
theorem dL_calls_94 : decode cL_calls 94 = .ok (.iload_n 3, 1) := by decide +kernel
theorem dL_calls_95 : decode cL_calls 95 = .ok (.invokevirtual 53, 3) := by decide +kernel
theorem dL_calls_98 : decode cL_calls 98 = .ok (.if_icmp .ge 110, 3) := by decide +kernel
theorem dL_calls_101 : decode cL_calls 101 = .ok (.iload 5, 2) := by decide +kernel
theorem dL_calls_103 : decode cL_calls 103 = .ok (.ifCond .eq 105, 3) := by decide +kernel
theorem dL_calls_106 : decode cL_calls 106 = .ok (.aload_n 0, 1) := by decide +kernel
theorem dL_calls_107 : decode cL_calls 107 = .ok (.iload_n 3, 1) := by decide +kernel
theorem dL_calls_108 : decode cL_calls 108 = .ok (.iload 7, 2) := by decide +kernel
theorem dL_calls_110 : decode cL_calls 110 = .ok (.invokevirtual 59, 3) := by decide +kernel
theorem dL_calls_113 : decode cL_calls 113 = .ok (.istore 8, 2) := by decide +kernel
theorem dL_calls_115 : decode cL_calls 115 = .ok (.aload_n 0, 1) := by decide +kernel
theorem dL_calls_116 : decode cL_calls 116 = .ok (.iload_n 3, 1) := by decide +kernel
theorem dL_calls_117 : decode cL_calls 117 = .ok (.iload 7, 2) := by decide +kernel
theorem dL_calls_119 : decode cL_calls 119 = .ok (.invokevirtual 62, 3) := by decide +kernel
theorem dL_calls_122 : decode cL_calls 122 = .ok (.istore 9, 2) := by decide +kernel
theorem dL_calls_124 : decode cL_calls 124 = .ok (.iload 8, 2) := by decide +kernel
theorem dL_calls_126 : decode cL_calls 126 = .ok (.iconst (-1), 1) := by decide +kernel
theorem dL_calls_127 : decode cL_calls 127 = .ok (.if_icmp .ne 27, 3) := by decide +kernel
theorem dL_calls_130 : decode cL_calls 130 = .ok (.iload 9, 2) := by decide +kernel
theorem dL_calls_132 : decode cL_calls 132 = .ok (.sipush 482, 3) := by decide +kernel
theorem dL_calls_135 : decode cL_calls 135 = .ok (.if_icmp .eq 11, 3) := by decide +kernel
theorem dL_calls_138 : decode cL_calls 138 = .ok (.iload 9, 2) := by decide +kernel
theorem dL_calls_140 : decode cL_calls 140 = .ok (.sipush 483, 3) := by decide +kernel
theorem dL_calls_143 : decode cL_calls 143 = .ok (.if_icmp .ne 7, 3) := by decide +kernel
theorem dL_calls_146 : decode cL_calls 146 = .ok (.iconst 1, 1) := by decide +kernel
theorem dL_calls_147 : decode cL_calls 147 = .ok (.goto 34, 3) := by decide +kernel
theorem dL_calls_150 : decode cL_calls 150 = .ok (.iconst 0, 1) := by decide +kernel
theorem dL_calls_151 : decode cL_calls 151 = .ok (.goto 30, 3) := by decide +kernel
theorem dL_calls_154 : decode cL_calls 154 = .ok (.iload 6, 2) := by decide +kernel
theorem dL_calls_156 : decode cL_calls 156 = .ok (.iload 8, 2) := by decide +kernel
theorem dL_calls_158 : decode cL_calls 158 = .ok (.ishr, 1) := by decide +kernel
theorem dL_calls_159 : decode cL_calls 159 = .ok (.iconst 1, 1) := by decide +kernel
theorem dL_calls_160 : decode cL_calls 160 = .ok (.iand, 1) := by decide +kernel
theorem dL_calls_161 : decode cL_calls 161 = .ok (.ifCond .ne 19, 3) := by decide +kernel
theorem dL_calls_164 : decode cL_calls 164 = .ok (.iload 9, 2) := by decide +kernel
theorem dL_calls_166 : decode cL_calls 166 = .ok (.ifCond .eq 10, 3) := by decide +kernel
theorem dL_calls_169 : decode cL_calls 169 = .ok (.iload 9, 2) := by decide +kernel
theorem dL_calls_171 : decode cL_calls 171 = .ok (.bipush 100, 2) := by decide +kernel
theorem dL_calls_173 : decode cL_calls 173 = .ok (.if_icmp .ne 7, 3) := by decide +kernel
theorem dL_calls_176 : decode cL_calls 176 = .ok (.iconst 1, 1) := by decide +kernel
theorem dL_calls_177 : decode cL_calls 177 = .ok (.goto 4, 3) := by decide +kernel
theorem dL_calls_180 : decode cL_calls 180 = .ok (.iconst 0, 1) := by decide +kernel
theorem dL_calls_181 : decode cL_calls 181 = .ok (.istore 5, 2) := by decide +kernel
theorem dL_calls_183 : decode cL_calls 183 = .ok (.iload 6, 2) := by decide +kernel
theorem dL_calls_185 : decode cL_calls 185 = .ok (.iload 8, 2) := by decide +kernel
theorem dL_calls_187 : decode cL_calls 187 = .ok (.iconst (-1), 1) := by decide +kernel
theorem dL_calls_188 : decode cL_calls 188 = .ok (.if_icmp .ne 7, 3) := by decide +kernel
theorem dL_calls_191 : decode cL_calls 191 = .ok (.iconst 0, 1) := by decide +kernel
theorem dL_calls_192 : decode cL_calls 192 = .ok (.goto 7, 3) := by decide +kernel
theorem dL_calls_195 : decode cL_calls 195 = .ok (.iconst 1, 1) := by decide +kernel
theorem dL_calls_196 : decode cL_calls 196 = .ok (.iload 8, 2) := by decide +kernel
theorem dL_calls_198 : decode cL_calls 198 = .ok (.ishl, 1) := by decide +kernel
theorem dL_calls_199 : decode cL_calls 199 = .ok (.ior, 1) := by decide +kernel
theorem dL_calls_200 : decode cL_calls 200 = .ok (.istore 6, 2) := by decide +kernel
theorem dL_calls_202 : decode cL_calls 202 = .ok (.iinc 7 1, 3) := by decide +kernel
theorem dL_calls_205 : decode cL_calls 205 = .ok (.goto (-114), 3) := by decide +kernel
theorem dL_calls_208 : decode cL_calls 208 = .ok (.iconst 0, 1) := by decide +kernel
theorem dL_calls_209 : decode cL_calls 209 = .ok (.istore 7, 2) := by decide +kernel
theorem dL_calls_211 : decode cL_calls 211 = .ok (.iload 7, 2) := by decide +kernel
theorem dL_calls_213 : decode cL_calls 213 = .ok (.iload 4, 2) := by decide +kernel
theorem dL_calls_215 : decode cL_calls 215 = .ok (.if_icmp .ge 61, 3) := by decide +kernel
theorem dL_calls_218 : decode cL_calls 218 = .ok (.iload 5, 2) := by decide +kernel
theorem dL_calls_220 : decode cL_calls 220 = .ok (.ifCond .eq 56, 3) := by decide +kernel
theorem dL_calls_223 : decode cL_calls 223 = .ok (.aload_n 0, 1) := by decide +kernel
theorem dL_calls_224 : decode cL_calls 224 = .ok (.iload_n 2, 1) := by decide +kernel
theorem dL_calls_225 : decode cL_calls 225 = .ok (.iload 7, 2) := by decide +kernel
theorem dL_calls_227 : decode cL_calls 227 = .ok (.invokevirtual 36, 3) := by decide +kernel
theorem dL_calls_230 : decode cL_calls 230 = .ok (.bipush 100, 2) := by decide +kernel
theorem dL_calls_232 : decode cL_calls 232 = .ok (.idiv, 1) := by decide +kernel
theorem dL_calls_233 : decode cL_calls 233 = .ok (.istore 8, 2) := by decide +kernel
theorem dL_calls_235 : decode cL_calls 235 = .ok (.iload 8, 2) := by decide +kernel
theorem dL_calls_237 : decode cL_calls 237 = .ok (.bipush 9, 2) := by decide +kernel
theorem dL_calls_239 : decode cL_calls 239 = .ok (.if_icmp .gt 24, 3) := by decide +kernel
theorem dL_calls_242 : decode cL_calls 242 = .ok (.iload 6, 2) := by decide +kernel
theorem dL_calls_244 : decode cL_calls 244 = .ok (.iload 8, 2) := by decide +kernel
theorem dL_calls_246 : decode cL_calls 246 = .ok (.ishr, 1) := by decide +kernel
theorem dL_calls_247 : decode cL_calls 247 = .ok (.iconst 1, 1) := by decide +kernel
theorem dL_calls_248 : decode cL_calls 248 = .ok (.iand, 1) := by decide +kernel
theorem dL_calls_249 : decode cL_calls 249 = .ok (.iconst 1, 1) := by decide +kernel
theorem dL_calls_250 : decode cL_calls 250 = .ok (.if_icmp .eq 13, 3) := by decide +kernel
theorem dL_calls_253 : decode cL_calls 253 = .ok (.aload_n 0, 1) := by decide +kernel
theorem dL_calls_254 : decode cL_calls 254 = .ok (.iload_n 3, 1) := by decide +kernel
theorem dL_calls_255 : decode cL_calls 255 = .ok (.invokevirtual 53, 3) := by decide +kernel
theorem dL_calls_258 : decode cL_calls 258 = .ok (.bipush 12, 2) := by decide +kernel
theorem dL_calls_260 : decode cL_calls 260 = .ok (.if_icmp .ne 7, 3) := by decide +kernel
theorem dL_calls_263 : decode cL_calls 263 = .ok (.iconst 1, 1) := by decide +kernel
theorem dL_calls_264 : decode cL_calls 264 = .ok (.goto 4, 3) := by decide +kernel
theorem dL_calls_267 : decode cL_calls 267 = .ok (.iconst 0, 1) := by decide +kernel
theorem dL_calls_268 : decode cL_calls 268 = .ok (.istore 5, 2) := by decide +kernel
theorem dL_calls_270 : decode cL_calls 270 = .ok (.iinc 7 1, 3) := by decide +kernel
theorem dL_calls_273 : decode cL_calls 273 = .ok (.goto (-62), 3) := by decide +kernel
theorem dL_calls_276 : decode cL_calls 276 = .ok (.iload 5, 2) := by decide +kernel
theorem dL_calls_278 : decode cL_calls 278 = .ok (.ireturn, 1) := by decide +kernel
theorem dL_branchOf_0 : decode cL_branchOf 0 = .ok (.iconst (-1), 1) := by decide +kernel
theorem dL_branchOf_1 : decode cL_branchOf 1 = .ok (.istore_n 3, 1) := by decide +kernel
theorem dL_branchOf_2 : decode cL_branchOf 2 = .ok (.iconst 0, 1) := by decide +kernel
theorem dL_branchOf_3 : decode cL_branchOf 3 = .ok (.istore 4, 2) := by decide +kernel
theorem dL_branchOf_5 : decode cL_branchOf 5 = .ok (.iload 4, 2) := by decide +kernel
theorem dL_branchOf_7 : decode cL_branchOf 7 = .ok (.aload_n 0, 1) := by decide +kernel
theorem dL_branchOf_8 : decode cL_branchOf 8 = .ok (.iload_n 1, 1) := by decide +kernel
theorem dL_branchOf_9 : decode cL_branchOf 9 = .ok (.invokevirtual 53, 3) := by decide +kernel
theorem dL_branchOf_12 : decode cL_branchOf 12 = .ok (.if_icmp .ge 27, 3) := by decide +kernel
theorem dL_branchOf_15 : decode cL_branchOf 15 = .ok (.aload_n 0, 1) := by decide +kernel
theorem dL_branchOf_16 : decode cL_branchOf 16 = .ok (.iload_n 1, 1) := by decide +kernel
theorem dL_branchOf_17 : decode cL_branchOf 17 = .ok (.iload 4, 2) := by decide +kernel
theorem dL_branchOf_19 : decode cL_branchOf 19 = .ok (.invokevirtual 59, 3) := by decide +kernel
theorem dL_branchOf_22 : decode cL_branchOf 22 = .ok (.iload_n 2, 1) := by decide +kernel
theorem dL_branchOf_23 : decode cL_branchOf 23 = .ok (.if_icmp .ne 8, 3) := by decide +kernel
theorem dL_branchOf_26 : decode cL_branchOf 26 = .ok (.iload 4, 2) := by decide +kernel
theorem dL_branchOf_28 : decode cL_branchOf 28 = .ok (.goto 4, 3) := by decide +kernel
theorem dL_branchOf_31 : decode cL_branchOf 31 = .ok (.iload_n 3, 1) := by decide +kernel
theorem dL_branchOf_32 : decode cL_branchOf 32 = .ok (.istore_n 3, 1) := by decide +kernel
theorem dL_branchOf_33 : decode cL_branchOf 33 = .ok (.iinc 4 1, 3) := by decide +kernel
theorem dL_branchOf_36 : decode cL_branchOf 36 = .ok (.goto (-31), 3) := by decide +kernel
theorem dL_branchOf_39 : decode cL_branchOf 39 = .ok (.iload_n 3, 1) := by decide +kernel
theorem dL_branchOf_40 : decode cL_branchOf 40 = .ok (.ireturn, 1) := by decide +kernel
theorem dL_answers_0 : decode cL_answers 0 = .ok (.aload_n 0, 1) := by decide +kernel
theorem dL_answers_1 : decode cL_answers 1 = .ok (.iload_n 2, 1) := by decide +kernel
theorem dL_answers_2 : decode cL_answers 2 = .ok (.invokevirtual 53, 3) := by decide +kernel
theorem dL_answers_5 : decode cL_answers 5 = .ok (.istore 5, 2) := by decide +kernel
theorem dL_answers_7 : decode cL_answers 7 = .ok (.iload 5, 2) := by decide +kernel
theorem dL_answers_9 : decode cL_answers 9 = .ok (.ifCond .ne 7, 3) := by decide +kernel
theorem dL_answers_12 : decode cL_answers 12 = .ok (.iconst (-1), 1) := by decide +kernel
theorem dL_answers_13 : decode cL_answers 13 = .ok (.goto 7, 3) := by decide +kernel
theorem dL_answers_16 : decode cL_answers 16 = .ok (.iload_n 3, 1) := by decide +kernel
theorem dL_answers_17 : decode cL_answers 17 = .ok (.iload 5, 2) := by decide +kernel
theorem dL_answers_19 : decode cL_answers 19 = .ok (.irem, 1) := by decide +kernel
theorem dL_answers_20 : decode cL_answers 20 = .ok (.istore 6, 2) := by decide +kernel
theorem dL_answers_22 : decode cL_answers 22 = .ok (.iload 6, 2) := by decide +kernel
theorem dL_answers_24 : decode cL_answers 24 = .ok (.iconst (-1), 1) := by decide +kernel
theorem dL_answers_25 : decode cL_answers 25 = .ok (.if_icmp .ne 7, 3) := by decide +kernel
theorem dL_answers_28 : decode cL_answers 28 = .ok (.iconst (-1), 1) := by decide +kernel
theorem dL_answers_29 : decode cL_answers 29 = .ok (.goto 10, 3) := by decide +kernel
theorem dL_answers_32 : decode cL_answers 32 = .ok (.aload_n 0, 1) := by decide +kernel
theorem dL_answers_33 : decode cL_answers 33 = .ok (.iload_n 2, 1) := by decide +kernel
theorem dL_answers_34 : decode cL_answers 34 = .ok (.iload 6, 2) := by decide +kernel
theorem dL_answers_36 : decode cL_answers 36 = .ok (.invokevirtual 59, 3) := by decide +kernel
theorem dL_answers_39 : decode cL_answers 39 = .ok (.istore 7, 2) := by decide +kernel
theorem dL_answers_41 : decode cL_answers 41 = .ok (.iload 6, 2) := by decide +kernel
theorem dL_answers_43 : decode cL_answers 43 = .ok (.iconst (-1), 1) := by decide +kernel
theorem dL_answers_44 : decode cL_answers 44 = .ok (.if_icmp .ne 7, 3) := by decide +kernel
theorem dL_answers_47 : decode cL_answers 47 = .ok (.iconst 0, 1) := by decide +kernel
theorem dL_answers_48 : decode cL_answers 48 = .ok (.goto 10, 3) := by decide +kernel
theorem dL_answers_51 : decode cL_answers 51 = .ok (.aload_n 0, 1) := by decide +kernel
theorem dL_answers_52 : decode cL_answers 52 = .ok (.iload_n 2, 1) := by decide +kernel
theorem dL_answers_53 : decode cL_answers 53 = .ok (.iload 6, 2) := by decide +kernel
theorem dL_answers_55 : decode cL_answers 55 = .ok (.invokevirtual 62, 3) := by decide +kernel
theorem dL_answers_58 : decode cL_answers 58 = .ok (.istore 8, 2) := by decide +kernel
theorem dL_answers_60 : decode cL_answers 60 = .ok (.aload_n 0, 1) := by decide +kernel
theorem dL_answers_61 : decode cL_answers 61 = .ok (.iload_n 2, 1) := by decide +kernel
theorem dL_answers_62 : decode cL_answers 62 = .ok (.invokevirtual 56, 3) := by decide +kernel
theorem dL_answers_65 : decode cL_answers 65 = .ok (.istore 9, 2) := by decide +kernel
theorem dL_answers_67 : decode cL_answers 67 = .ok (.iload 7, 2) := by decide +kernel
theorem dL_answers_69 : decode cL_answers 69 = .ok (.iconst (-1), 1) := by decide +kernel
theorem dL_answers_70 : decode cL_answers 70 = .ok (.if_icmp .eq 18, 3) := by decide +kernel
theorem dL_answers_73 : decode cL_answers 73 = .ok (.iload 8, 2) := by decide +kernel
theorem dL_answers_75 : decode cL_answers 75 = .ok (.bipush 100, 2) := by decide +kernel
theorem dL_answers_77 : decode cL_answers 77 = .ok (.if_icmp .eq 28, 3) := by decide +kernel
theorem dL_answers_80 : decode cL_answers 80 = .ok (.iload 8, 2) := by decide +kernel
theorem dL_answers_82 : decode cL_answers 82 = .ok (.sipush 180, 3) := by decide +kernel
theorem dL_answers_85 : decode cL_answers 85 = .ok (.if_icmp .eq 20, 3) := by decide +kernel
theorem dL_answers_88 : decode cL_answers 88 = .ok (.iload 9, 2) := by decide +kernel
theorem dL_answers_90 : decode cL_answers 90 = .ok (.iconst (-1), 1) := by decide +kernel
theorem dL_answers_91 : decode cL_answers 91 = .ok (.if_icmp .ne 8, 3) := by decide +kernel
theorem dL_answers_94 : decode cL_answers 94 = .ok (.iload 5, 2) := by decide +kernel
theorem dL_answers_96 : decode cL_answers 96 = .ok (.ifCond .le 7, 3) := by decide +kernel
theorem dL_answers_99 : decode cL_answers 99 = .ok (.iconst 1, 1) := by decide +kernel
theorem dL_answers_100 : decode cL_answers 100 = .ok (.goto 4, 3) := by decide +kernel
theorem dL_answers_103 : decode cL_answers 103 = .ok (.iconst 0, 1) := by decide +kernel
theorem dL_answers_104 : decode cL_answers 104 = .ok (.ireturn, 1) := by decide +kernel
theorem dL_answers_105 : decode cL_answers 105 = .ok (.aload_n 0, 1) := by decide +kernel
theorem dL_answers_106 : decode cL_answers 106 = .ok (.iload_n 2, 1) := by decide +kernel
theorem dL_answers_107 : decode cL_answers 107 = .ok (.iload 7, 2) := by decide +kernel
theorem dL_answers_109 : decode cL_answers 109 = .ok (.iload 4, 2) := by decide +kernel
theorem dL_answers_111 : decode cL_answers 111 = .ok (.invokevirtual 65, 3) := by decide +kernel
theorem dL_answers_114 : decode cL_answers 114 = .ok (.istore 10, 2) := by decide +kernel
theorem dL_answers_116 : decode cL_answers 116 = .ok (.iload 4, 2) := by decide +kernel
theorem dL_answers_118 : decode cL_answers 118 = .ok (.sipush 200, 3) := by decide +kernel
theorem dL_answers_121 : decode cL_answers 121 = .ok (.if_icmp .lt 15, 3) := by decide +kernel
theorem dL_answers_124 : decode cL_answers 124 = .ok (.iload 4, 2) := by decide +kernel
theorem dL_answers_126 : decode cL_answers 126 = .ok (.sipush 300, 3) := by decide +kernel
theorem dL_answers_129 : decode cL_answers 129 = .ok (.if_icmp .ge 7, 3) := by decide +kernel
theorem dL_answers_132 : decode cL_answers 132 = .ok (.iconst 1, 1) := by decide +kernel
theorem dL_answers_133 : decode cL_answers 133 = .ok (.goto 4, 3) := by decide +kernel
theorem dL_answers_136 : decode cL_answers 136 = .ok (.iconst 0, 1) := by decide +kernel
theorem dL_answers_137 : decode cL_answers 137 = .ok (.istore 11, 2) := by decide +kernel
theorem dL_answers_139 : decode cL_answers 139 = .ok (.iload 9, 2) := by decide +kernel
theorem dL_answers_141 : decode cL_answers 141 = .ok (.iconst (-1), 1) := by decide +kernel
theorem dL_answers_142 : decode cL_answers 142 = .ok (.if_icmp .ne 29, 3) := by decide +kernel
theorem dL_answers_145 : decode cL_answers 145 = .ok (.aload_n 0, 1) := by decide +kernel
theorem dL_answers_146 : decode cL_answers 146 = .ok (.iload_n 2, 1) := by decide +kernel
theorem dL_answers_147 : decode cL_answers 147 = .ok (.invokevirtual 56, 3) := by decide +kernel
theorem dL_answers_150 : decode cL_answers 150 = .ok (.iload 10, 2) := by decide +kernel
theorem dL_answers_152 : decode cL_answers 152 = .ok (.if_icmp .ne 19, 3) := by decide +kernel
theorem dL_answers_155 : decode cL_answers 155 = .ok (.aload_n 0, 1) := by decide +kernel
theorem dL_answers_156 : decode cL_answers 156 = .ok (.iload_n 2, 1) := by decide +kernel
theorem dL_answers_157 : decode cL_answers 157 = .ok (.iload 6, 2) := by decide +kernel
theorem dL_answers_159 : decode cL_answers 159 = .ok (.invokevirtual 62, 3) := by decide +kernel
theorem dL_answers_162 : decode cL_answers 162 = .ok (.iload 4, 2) := by decide +kernel
theorem dL_answers_164 : decode cL_answers 164 = .ok (.if_icmp .ne 7, 3) := by decide +kernel
theorem dL_answers_167 : decode cL_answers 167 = .ok (.iconst 1, 1) := by decide +kernel
theorem dL_answers_168 : decode cL_answers 168 = .ok (.goto 4, 3) := by decide +kernel
theorem dL_answers_171 : decode cL_answers 171 = .ok (.iconst 0, 1) := by decide +kernel
theorem dL_answers_172 : decode cL_answers 172 = .ok (.istore 12, 2) := by decide +kernel
theorem dL_answers_174 : decode cL_answers 174 = .ok (.iload 4, 2) := by decide +kernel
theorem dL_answers_176 : decode cL_answers 176 = .ok (.sipush 180, 3) := by decide +kernel
theorem dL_answers_179 : decode cL_answers 179 = .ok (.if_icmp .ne 20, 3) := by decide +kernel
theorem dL_answers_182 : decode cL_answers 182 = .ok (.iload 12, 2) := by decide +kernel
theorem dL_answers_184 : decode cL_answers 184 = .ok (.ifCond .eq 13, 3) := by decide +kernel
theorem dL_answers_187 : decode cL_answers 187 = .ok (.iload 10, 2) := by decide +kernel
theorem dL_answers_189 : decode cL_answers 189 = .ok (.iconst (-1), 1) := by decide +kernel
theorem dL_answers_190 : decode cL_answers 190 = .ok (.if_icmp .ne 7, 3) := by decide +kernel
theorem dL_answers_193 : decode cL_answers 193 = .ok (.iconst 1, 1) := by decide +kernel
theorem dL_answers_194 : decode cL_answers 194 = .ok (.goto 4, 3) := by decide +kernel
theorem dL_answers_197 : decode cL_answers 197 = .ok (.iconst 0, 1) := by decide +kernel
theorem dL_answers_198 : decode cL_answers 198 = .ok (.ireturn, 1) := by decide +kernel
theorem dL_answers_199 : decode cL_answers 199 = .ok (.iload 12, 2) := by decide +kernel
theorem dL_answers_201 : decode cL_answers 201 = .ok (.ifCond .eq 56, 3) := by decide +kernel
theorem dL_answers_204 : decode cL_answers 204 = .ok (.iload 11, 2) := by decide +kernel
theorem dL_answers_206 : decode cL_answers 206 = .ok (.ifCond .eq 23, 3) := by decide +kernel
theorem dL_answers_209 : decode cL_answers 209 = .ok (.iload 10, 2) := by decide +kernel
theorem dL_answers_211 : decode cL_answers 211 = .ok (.iload 4, 2) := by decide +kernel
theorem dL_answers_213 : decode cL_answers 213 = .ok (.if_icmp .ne 44, 3) := by decide +kernel
theorem dL_answers_216 : decode cL_answers 216 = .ok (.aload_n 0, 1) := by decide +kernel
theorem dL_answers_217 : decode cL_answers 217 = .ok (.iload_n 2, 1) := by decide +kernel
theorem dL_answers_218 : decode cL_answers 218 = .ok (.invokevirtual 50, 3) := by decide +kernel
theorem dL_answers_221 : decode cL_answers 221 = .ok (.iload 6, 2) := by decide +kernel
theorem dL_answers_223 : decode cL_answers 223 = .ok (.if_icmp .ne 34, 3) := by decide +kernel
theorem dL_answers_226 : decode cL_answers 226 = .ok (.goto 12, 3) := by decide +kernel
theorem dL_answers_229 : decode cL_answers 229 = .ok (.aload_n 0, 1) := by decide +kernel
theorem dL_answers_230 : decode cL_answers 230 = .ok (.iload_n 2, 1) := by decide +kernel
theorem dL_answers_231 : decode cL_answers 231 = .ok (.invokevirtual 50, 3) := by decide +kernel
theorem dL_answers_234 : decode cL_answers 234 = .ok (.iconst (-1), 1) := by decide +kernel
theorem dL_answers_235 : decode cL_answers 235 = .ok (.if_icmp .ne 22, 3) := by decide +kernel
theorem dL_answers_238 : decode cL_answers 238 = .ok (.iload 4, 2) := by decide +kernel
theorem dL_answers_240 : decode cL_answers 240 = .ok (.sipush 600, 3) := by decide +kernel
theorem dL_answers_243 : decode cL_answers 243 = .ok (.if_icmp .lt 10, 3) := by decide +kernel
theorem dL_answers_246 : decode cL_answers 246 = .ok (.iload 10, 2) := by decide +kernel
theorem dL_answers_248 : decode cL_answers 248 = .ok (.iload 4, 2) := by decide +kernel
theorem dL_answers_250 : decode cL_answers 250 = .ok (.if_icmp .ne 7, 3) := by decide +kernel
theorem dL_answers_253 : decode cL_answers 253 = .ok (.iconst 1, 1) := by decide +kernel
theorem dL_answers_254 : decode cL_answers 254 = .ok (.goto 4, 3) := by decide +kernel
theorem dL_answers_257 : decode cL_answers 257 = .ok (.iconst 0, 1) := by decide +kernel
theorem dL_answers_258 : decode cL_answers 258 = .ok (.istore 12, 2) := by decide +kernel
theorem dL_answers_260 : decode cL_answers 260 = .ok (.iconst 0, 1) := by decide +kernel
theorem dL_answers_261 : decode cL_answers 261 = .ok (.istore 13, 2) := by decide +kernel
theorem dL_answers_263 : decode cL_answers 263 = .ok (.iconst 0, 1) := by decide +kernel
theorem dL_answers_264 : decode cL_answers 264 = .ok (.istore 14, 2) := by decide +kernel
theorem dL_answers_266 : decode cL_answers 266 = .ok (.iload 14, 2) := by decide +kernel
theorem dL_answers_268 : decode cL_answers 268 = .ok (.iload 5, 2) := by decide +kernel
theorem dL_answers_270 : decode cL_answers 270 = .ok (.if_icmp .ge 69, 3) := by decide +kernel
theorem dL_answers_273 : decode cL_answers 273 = .ok (.iload 12, 2) := by decide +kernel
theorem dL_answers_275 : decode cL_answers 275 = .ok (.ifCond .eq 64, 3) := by decide +kernel
theorem dL_answers_278 : decode cL_answers 278 = .ok (.iload 11, 2) := by decide +kernel
theorem dL_answers_280 : decode cL_answers 280 = .ok (.ifCond .ne 11, 3) := by decide +kernel
theorem dL_answers_283 : decode cL_answers 283 = .ok (.iload 4, 2) := by decide +kernel
theorem dL_answers_285 : decode cL_answers 285 = .ok (.sipush 600, 3) := by decide +kernel
theorem dL_answers_288 : decode cL_answers 288 = .ok (.if_icmp .lt 51, 3) := by decide +kernel
theorem dL_answers_291 : decode cL_answers 291 = .ok (.aload_n 0, 1) := by decide +kernel
theorem dL_answers_292 : decode cL_answers 292 = .ok (.iload_n 2, 1) := by decide +kernel
theorem dL_answers_293 : decode cL_answers 293 = .ok (.iload 14, 2) := by decide +kernel
theorem dL_answers_295 : decode cL_answers 295 = .ok (.invokevirtual 62, 3) := by decide +kernel
theorem dL_answers_298 : decode cL_answers 298 = .ok (.istore 15, 2) := by decide +kernel
theorem dL_answers_300 : decode cL_answers 300 = .ok (.iload 15, 2) := by decide +kernel
theorem dL_answers_302 : decode cL_answers 302 = .ok (.sipush 200, 3) := by decide +kernel
theorem dL_answers_305 : decode cL_answers 305 = .ok (.if_icmp .lt 7, 3) := by decide +kernel
theorem dL_answers_308 : decode cL_answers 308 = .ok (.iconst 1, 1) := by decide +kernel
theorem dL_answers_309 : decode cL_answers 309 = .ok (.goto 4, 3) := by decide +kernel
theorem dL_answers_312 : decode cL_answers 312 = .ok (.iconst 0, 1) := by decide +kernel
theorem dL_answers_313 : decode cL_answers 313 = .ok (.istore 12, 2) := by decide +kernel
theorem dL_answers_315 : decode cL_answers 315 = .ok (.iload 13, 2) := by decide +kernel
theorem dL_answers_317 : decode cL_answers 317 = .ok (.iload 15, 2) := by decide +kernel
theorem dL_answers_319 : decode cL_answers 319 = .ok (.sipush 487, 3) := by decide +kernel
theorem dL_answers_322 : decode cL_answers 322 = .ok (.if_icmp .ne 7, 3) := by decide +kernel
theorem dL_answers_325 : decode cL_answers 325 = .ok (.iconst 1, 1) := by decide +kernel
theorem dL_answers_326 : decode cL_answers 326 = .ok (.goto 4, 3) := by decide +kernel
theorem dL_answers_329 : decode cL_answers 329 = .ok (.iconst 0, 1) := by decide +kernel
theorem dL_answers_330 : decode cL_answers 330 = .ok (.iadd, 1) := by decide +kernel
theorem dL_answers_331 : decode cL_answers 331 = .ok (.istore 13, 2) := by decide +kernel
theorem dL_answers_333 : decode cL_answers 333 = .ok (.iinc 14 1, 3) := by decide +kernel
theorem dL_answers_336 : decode cL_answers 336 = .ok (.goto (-70), 3) := by decide +kernel
theorem dL_answers_339 : decode cL_answers 339 = .ok (.iload 12, 2) := by decide +kernel
theorem dL_answers_341 : decode cL_answers 341 = .ok (.ifCond .eq 26, 3) := by decide +kernel
theorem dL_answers_344 : decode cL_answers 344 = .ok (.iload 13, 2) := by decide +kernel
theorem dL_answers_346 : decode cL_answers 346 = .ok (.iload 5, 2) := by decide +kernel
theorem dL_answers_348 : decode cL_answers 348 = .ok (.if_icmp .gt 19, 3) := by decide +kernel
theorem dL_answers_351 : decode cL_answers 351 = .ok (.aload_n 0, 1) := by decide +kernel
theorem dL_answers_352 : decode cL_answers 352 = .ok (.iload_n 2, 1) := by decide +kernel
theorem dL_answers_353 : decode cL_answers 353 = .ok (.iload 7, 2) := by decide +kernel
theorem dL_answers_355 : decode cL_answers 355 = .ok (.invokestatic 69, 3) := by decide +kernel
theorem dL_answers_358 : decode cL_answers 358 = .ok (.iload 6, 2) := by decide +kernel
theorem dL_answers_360 : decode cL_answers 360 = .ok (.if_icmp .ne 7, 3) := by decide +kernel
theorem dL_answers_363 : decode cL_answers 363 = .ok (.iconst 1, 1) := by decide +kernel
theorem dL_answers_364 : decode cL_answers 364 = .ok (.goto 4, 3) := by decide +kernel
theorem dL_answers_367 : decode cL_answers 367 = .ok (.iconst 0, 1) := by decide +kernel
theorem dL_answers_368 : decode cL_answers 368 = .ok (.ireturn, 1) := by decide +kernel
theorem dL_cancels_0 : decode cL_cancels 0 = .ok (.aload_n 0, 1) := by decide +kernel
theorem dL_cancels_1 : decode cL_cancels 1 = .ok (.iload_n 2, 1) := by decide +kernel
theorem dL_cancels_2 : decode cL_cancels 2 = .ok (.invokevirtual 56, 3) := by decide +kernel
theorem dL_cancels_5 : decode cL_cancels 5 = .ok (.iconst (-1), 1) := by decide +kernel
theorem dL_cancels_6 : decode cL_cancels 6 = .ok (.if_icmp .eq 22, 3) := by decide +kernel
theorem dL_cancels_9 : decode cL_cancels 9 = .ok (.aload_n 0, 1) := by decide +kernel
theorem dL_cancels_10 : decode cL_cancels 10 = .ok (.iload_n 2, 1) := by decide +kernel
theorem dL_cancels_11 : decode cL_cancels 11 = .ok (.invokevirtual 73, 3) := by decide +kernel
theorem dL_cancels_14 : decode cL_cancels 14 = .ok (.aload_n 0, 1) := by decide +kernel
theorem dL_cancels_15 : decode cL_cancels 15 = .ok (.iload_n 2, 1) := by decide +kernel
theorem dL_cancels_16 : decode cL_cancels 16 = .ok (.invokevirtual 56, 3) := by decide +kernel
theorem dL_cancels_19 : decode cL_cancels 19 = .ok (.if_icmp .ne 7, 3) := by decide +kernel
theorem dL_cancels_22 : decode cL_cancels 22 = .ok (.iconst 1, 1) := by decide +kernel
theorem dL_cancels_23 : decode cL_cancels 23 = .ok (.goto 4, 3) := by decide +kernel
theorem dL_cancels_26 : decode cL_cancels 26 = .ok (.iconst 0, 1) := by decide +kernel
theorem dL_cancels_27 : decode cL_cancels 27 = .ok (.ireturn, 1) := by decide +kernel
theorem dL_cancels_28 : decode cL_cancels 28 = .ok (.iconst 0, 1) := by decide +kernel
theorem dL_cancels_29 : decode cL_cancels 29 = .ok (.istore_n 3, 1) := by decide +kernel
theorem dL_cancels_30 : decode cL_cancels 30 = .ok (.iconst (-1), 1) := by decide +kernel
theorem dL_cancels_31 : decode cL_cancels 31 = .ok (.istore 4, 2) := by decide +kernel
theorem dL_cancels_33 : decode cL_cancels 33 = .ok (.iconst 0, 1) := by decide +kernel
theorem dL_cancels_34 : decode cL_cancels 34 = .ok (.istore 5, 2) := by decide +kernel
theorem dL_cancels_36 : decode cL_cancels 36 = .ok (.iload 5, 2) := by decide +kernel
theorem dL_cancels_38 : decode cL_cancels 38 = .ok (.aload_n 0, 1) := by decide +kernel
theorem dL_cancels_39 : decode cL_cancels 39 = .ok (.iload_n 2, 1) := by decide +kernel
theorem dL_cancels_40 : decode cL_cancels 40 = .ok (.invokevirtual 53, 3) := by decide +kernel
theorem dL_cancels_43 : decode cL_cancels 43 = .ok (.if_icmp .ge 58, 3) := by decide +kernel
theorem dL_cancels_46 : decode cL_cancels 46 = .ok (.aload_n 0, 1) := by decide +kernel
theorem dL_cancels_47 : decode cL_cancels 47 = .ok (.iload_n 2, 1) := by decide +kernel
theorem dL_cancels_48 : decode cL_cancels 48 = .ok (.iload 5, 2) := by decide +kernel
theorem dL_cancels_50 : decode cL_cancels 50 = .ok (.invokevirtual 62, 3) := by decide +kernel
theorem dL_cancels_53 : decode cL_cancels 53 = .ok (.istore 6, 2) := by decide +kernel
theorem dL_cancels_55 : decode cL_cancels 55 = .ok (.iload_n 3, 1) := by decide +kernel
theorem dL_cancels_56 : decode cL_cancels 56 = .ok (.iload 6, 2) := by decide +kernel
theorem dL_cancels_58 : decode cL_cancels 58 = .ok (.sipush 200, 3) := by decide +kernel
theorem dL_cancels_61 : decode cL_cancels 61 = .ok (.if_icmp .ge 7, 3) := by decide +kernel
theorem dL_cancels_64 : decode cL_cancels 64 = .ok (.iconst 1, 1) := by decide +kernel
theorem dL_cancels_65 : decode cL_cancels 65 = .ok (.goto 4, 3) := by decide +kernel
theorem dL_cancels_68 : decode cL_cancels 68 = .ok (.iconst 0, 1) := by decide +kernel
theorem dL_cancels_69 : decode cL_cancels 69 = .ok (.iadd, 1) := by decide +kernel
theorem dL_cancels_70 : decode cL_cancels 70 = .ok (.istore_n 3, 1) := by decide +kernel
theorem dL_cancels_71 : decode cL_cancels 71 = .ok (.iload 6, 2) := by decide +kernel
theorem dL_cancels_73 : decode cL_cancels 73 = .ok (.bipush 100, 2) := by decide +kernel
theorem dL_cancels_75 : decode cL_cancels 75 = .ok (.if_icmp .eq 11, 3) := by decide +kernel
theorem dL_cancels_78 : decode cL_cancels 78 = .ok (.iload 6, 2) := by decide +kernel
theorem dL_cancels_80 : decode cL_cancels 80 = .ok (.sipush 180, 3) := by decide +kernel
theorem dL_cancels_83 : decode cL_cancels 83 = .ok (.if_icmp .ne 8, 3) := by decide +kernel
theorem dL_cancels_86 : decode cL_cancels 86 = .ok (.iload 5, 2) := by decide +kernel
theorem dL_cancels_88 : decode cL_cancels 88 = .ok (.goto 5, 3) := by decide +kernel
theorem dL_cancels_91 : decode cL_cancels 91 = .ok (.iload 4, 2) := by decide +kernel
theorem dL_cancels_93 : decode cL_cancels 93 = .ok (.istore 4, 2) := by decide +kernel
theorem dL_cancels_95 : decode cL_cancels 95 = .ok (.iinc 5 1, 3) := by decide +kernel
theorem dL_cancels_98 : decode cL_cancels 98 = .ok (.goto (-62), 3) := by decide +kernel
theorem dL_cancels_101 : decode cL_cancels 101 = .ok (.aload_n 0, 1) := by decide +kernel
theorem dL_cancels_102 : decode cL_cancels 102 = .ok (.iload_n 2, 1) := by decide +kernel
theorem dL_cancels_103 : decode cL_cancels 103 = .ok (.invokevirtual 76, 3) := by decide +kernel
theorem dL_cancels_106 : decode cL_cancels 106 = .ok (.iload_n 3, 1) := by decide +kernel
theorem dL_cancels_107 : decode cL_cancels 107 = .ok (.if_icmp .ne 33, 3) := by decide +kernel
theorem dL_cancels_110 : decode cL_cancels 110 = .ok (.aload_n 0, 1) := by decide +kernel
theorem dL_cancels_111 : decode cL_cancels 111 = .ok (.iload_n 2, 1) := by decide +kernel
theorem dL_cancels_112 : decode cL_cancels 112 = .ok (.invokevirtual 56, 3) := by decide +kernel
theorem dL_cancels_115 : decode cL_cancels 115 = .ok (.sipush 487, 3) := by decide +kernel
theorem dL_cancels_118 : decode cL_cancels 118 = .ok (.if_icmp .ne 22, 3) := by decide +kernel
theorem dL_cancels_121 : decode cL_cancels 121 = .ok (.aload_n 0, 1) := by decide +kernel
theorem dL_cancels_122 : decode cL_cancels 122 = .ok (.iload_n 2, 1) := by decide +kernel
theorem dL_cancels_123 : decode cL_cancels 123 = .ok (.invokevirtual 50, 3) := by decide +kernel
theorem dL_cancels_126 : decode cL_cancels 126 = .ok (.iconst (-1), 1) := by decide +kernel
theorem dL_cancels_127 : decode cL_cancels 127 = .ok (.if_icmp .ne 13, 3) := by decide +kernel
theorem dL_cancels_130 : decode cL_cancels 130 = .ok (.iload 4, 2) := by decide +kernel
theorem dL_cancels_132 : decode cL_cancels 132 = .ok (.iconst (-1), 1) := by decide +kernel
theorem dL_cancels_133 : decode cL_cancels 133 = .ok (.if_icmp .eq 7, 3) := by decide +kernel
theorem dL_cancels_136 : decode cL_cancels 136 = .ok (.iconst 1, 1) := by decide +kernel
theorem dL_cancels_137 : decode cL_cancels 137 = .ok (.goto 4, 3) := by decide +kernel
theorem dL_cancels_140 : decode cL_cancels 140 = .ok (.iconst 0, 1) := by decide +kernel
theorem dL_cancels_141 : decode cL_cancels 141 = .ok (.istore 5, 2) := by decide +kernel
theorem dL_cancels_143 : decode cL_cancels 143 = .ok (.aload_n 1, 1) := by decide +kernel
theorem dL_cancels_144 : decode cL_cancels 144 = .ok (.iconst 3, 1) := by decide +kernel
theorem dL_cancels_145 : decode cL_cancels 145 = .ok (.dup2, 1) := by decide +kernel
theorem dL_cancels_146 : decode cL_cancels 146 = .ok (.iaload, 1) := by decide +kernel
theorem dL_cancels_147 : decode cL_cancels 147 = .ok (.iconst 1, 1) := by decide +kernel
theorem dL_cancels_148 : decode cL_cancels 148 = .ok (.iload_n 2, 1) := by decide +kernel
theorem dL_cancels_149 : decode cL_cancels 149 = .ok (.ishl, 1) := by decide +kernel
theorem dL_cancels_150 : decode cL_cancels 150 = .ok (.ior, 1) := by decide +kernel
theorem dL_cancels_151 : decode cL_cancels 151 = .ok (.iastore, 1) := by decide +kernel
theorem dL_cancels_152 : decode cL_cancels 152 = .ok (.iload 5, 2) := by decide +kernel
theorem dL_cancels_154 : decode cL_cancels 154 = .ok (.ifCond .eq 13, 3) := by decide +kernel
theorem dL_cancels_157 : decode cL_cancels 157 = .ok (.aload_n 0, 1) := by decide +kernel
theorem dL_cancels_158 : decode cL_cancels 158 = .ok (.iload_n 2, 1) := by decide +kernel
theorem dL_cancels_159 : decode cL_cancels 159 = .ok (.iload 4, 2) := by decide +kernel
theorem dL_cancels_161 : decode cL_cancels 161 = .ok (.invokevirtual 59, 3) := by decide +kernel
theorem dL_cancels_164 : decode cL_cancels 164 = .ok (.goto 4, 3) := by decide +kernel
theorem dL_cancels_167 : decode cL_cancels 167 = .ok (.iconst 0, 1) := by decide +kernel
theorem dL_cancels_168 : decode cL_cancels 168 = .ok (.istore 6, 2) := by decide +kernel
theorem dL_cancels_170 : decode cL_cancels 170 = .ok (.aload_n 1, 1) := by decide +kernel
theorem dL_cancels_171 : decode cL_cancels 171 = .ok (.iconst 4, 1) := by decide +kernel
theorem dL_cancels_172 : decode cL_cancels 172 = .ok (.iload 6, 2) := by decide +kernel
theorem dL_cancels_174 : decode cL_cancels 174 = .ok (.iadd, 1) := by decide +kernel
theorem dL_cancels_175 : decode cL_cancels 175 = .ok (.dup2, 1) := by decide +kernel
theorem dL_cancels_176 : decode cL_cancels 176 = .ok (.iaload, 1) := by decide +kernel
theorem dL_cancels_177 : decode cL_cancels 177 = .ok (.iconst 1, 1) := by decide +kernel
theorem dL_cancels_178 : decode cL_cancels 178 = .ok (.iadd, 1) := by decide +kernel
theorem dL_cancels_179 : decode cL_cancels 179 = .ok (.iastore, 1) := by decide +kernel
theorem dL_cancels_180 : decode cL_cancels 180 = .ok (.iload 5, 2) := by decide +kernel
theorem dL_cancels_182 : decode cL_cancels 182 = .ok (.ifCond .eq 51, 3) := by decide +kernel
theorem dL_cancels_185 : decode cL_cancels 185 = .ok (.aload_n 0, 1) := by decide +kernel
theorem dL_cancels_186 : decode cL_cancels 186 = .ok (.iload_n 2, 1) := by decide +kernel
theorem dL_cancels_187 : decode cL_cancels 187 = .ok (.iload 6, 2) := by decide +kernel
theorem dL_cancels_189 : decode cL_cancels 189 = .ok (.sipush 200, 3) := by decide +kernel
theorem dL_cancels_192 : decode cL_cancels 192 = .ok (.invokevirtual 65, 3) := by decide +kernel
theorem dL_cancels_195 : decode cL_cancels 195 = .ok (.sipush 487, 3) := by decide +kernel
theorem dL_cancels_198 : decode cL_cancels 198 = .ok (.if_icmp .ne 35, 3) := by decide +kernel
theorem dL_cancels_201 : decode cL_cancels 201 = .ok (.aload_n 0, 1) := by decide +kernel
theorem dL_cancels_202 : decode cL_cancels 202 = .ok (.iload 6, 2) := by decide +kernel
theorem dL_cancels_204 : decode cL_cancels 204 = .ok (.invokevirtual 79, 3) := by decide +kernel
theorem dL_cancels_207 : decode cL_cancels 207 = .ok (.aload_n 1, 1) := by decide +kernel
theorem dL_cancels_208 : decode cL_cancels 208 = .ok (.iconst 4, 1) := by decide +kernel
theorem dL_cancels_209 : decode cL_cancels 209 = .ok (.iload 6, 2) := by decide +kernel
theorem dL_cancels_211 : decode cL_cancels 211 = .ok (.iadd, 1) := by decide +kernel
theorem dL_cancels_212 : decode cL_cancels 212 = .ok (.iaload, 1) := by decide +kernel
theorem dL_cancels_213 : decode cL_cancels 213 = .ok (.if_icmp .ne 20, 3) := by decide +kernel
theorem dL_cancels_216 : decode cL_cancels 216 = .ok (.aload_n 0, 1) := by decide +kernel
theorem dL_cancels_217 : decode cL_cancels 217 = .ok (.iload_n 2, 1) := by decide +kernel
theorem dL_cancels_218 : decode cL_cancels 218 = .ok (.iload 4, 2) := by decide +kernel
theorem dL_cancels_220 : decode cL_cancels 220 = .ok (.invokevirtual 62, 3) := by decide +kernel
theorem dL_cancels_223 : decode cL_cancels 223 = .ok (.sipush 487, 3) := by decide +kernel
theorem dL_cancels_226 : decode cL_cancels 226 = .ok (.if_icmp .ne 7, 3) := by decide +kernel
theorem dL_cancels_229 : decode cL_cancels 229 = .ok (.iconst 1, 1) := by decide +kernel
theorem dL_cancels_230 : decode cL_cancels 230 = .ok (.goto 4, 3) := by decide +kernel
theorem dL_cancels_233 : decode cL_cancels 233 = .ok (.iconst 0, 1) := by decide +kernel
theorem dL_cancels_234 : decode cL_cancels 234 = .ok (.ireturn, 1) := by decide +kernel
theorem dL_passes_0 : decode cL_passes 0 = .ok (.iconst 0, 1) := by decide +kernel
theorem dL_passes_1 : decode cL_passes 1 = .ok (.istore_n 3, 1) := by decide +kernel
theorem dL_passes_2 : decode cL_passes 2 = .ok (.iconst 0, 1) := by decide +kernel
theorem dL_passes_3 : decode cL_passes 3 = .ok (.istore 4, 2) := by decide +kernel
theorem dL_passes_5 : decode cL_passes 5 = .ok (.iload 4, 2) := by decide +kernel
theorem dL_passes_7 : decode cL_passes 7 = .ok (.aload_n 1, 1) := by decide +kernel
theorem dL_passes_8 : decode cL_passes 8 = .ok (.iconst 1, 1) := by decide +kernel
theorem dL_passes_9 : decode cL_passes 9 = .ok (.iaload, 1) := by decide +kernel
theorem dL_passes_10 : decode cL_passes 10 = .ok (.if_icmp .ge 27, 3) := by decide +kernel
theorem dL_passes_13 : decode cL_passes 13 = .ok (.iload_n 3, 1) := by decide +kernel
theorem dL_passes_14 : decode cL_passes 14 = .ok (.aload_n 0, 1) := by decide +kernel
theorem dL_passes_15 : decode cL_passes 15 = .ok (.iload 4, 2) := by decide +kernel
theorem dL_passes_17 : decode cL_passes 17 = .ok (.invokevirtual 56, 3) := by decide +kernel
theorem dL_passes_20 : decode cL_passes 20 = .ok (.iconst (-1), 1) := by decide +kernel
theorem dL_passes_21 : decode cL_passes 21 = .ok (.if_icmp .eq 7, 3) := by decide +kernel
theorem dL_passes_24 : decode cL_passes 24 = .ok (.iconst 1, 1) := by decide +kernel
theorem dL_passes_25 : decode cL_passes 25 = .ok (.goto 4, 3) := by decide +kernel
theorem dL_passes_28 : decode cL_passes 28 = .ok (.iconst 0, 1) := by decide +kernel
theorem dL_passes_29 : decode cL_passes 29 = .ok (.iadd, 1) := by decide +kernel
theorem dL_passes_30 : decode cL_passes 30 = .ok (.istore_n 3, 1) := by decide +kernel
theorem dL_passes_31 : decode cL_passes 31 = .ok (.iinc 4 1, 3) := by decide +kernel
theorem dL_passes_34 : decode cL_passes 34 = .ok (.goto (-29), 3) := by decide +kernel
theorem dL_passes_37 : decode cL_passes 37 = .ok (.aload_n 0, 1) := by decide +kernel
theorem dL_passes_38 : decode cL_passes 38 = .ok (.iload_n 2, 1) := by decide +kernel
theorem dL_passes_39 : decode cL_passes 39 = .ok (.invokevirtual 82, 3) := by decide +kernel
theorem dL_passes_42 : decode cL_passes 42 = .ok (.istore 4, 2) := by decide +kernel
theorem dL_passes_44 : decode cL_passes 44 = .ok (.aload_n 1, 1) := by decide +kernel
theorem dL_passes_45 : decode cL_passes 45 = .ok (.iconst 0, 1) := by decide +kernel
theorem dL_passes_46 : decode cL_passes 46 = .ok (.dup2, 1) := by decide +kernel
theorem dL_passes_47 : decode cL_passes 47 = .ok (.iaload, 1) := by decide +kernel
theorem dL_passes_48 : decode cL_passes 48 = .ok (.iload_n 2, 1) := by decide +kernel
theorem dL_passes_49 : decode cL_passes 49 = .ok (.iadd, 1) := by decide +kernel
theorem dL_passes_50 : decode cL_passes 50 = .ok (.iastore, 1) := by decide +kernel
theorem dL_passes_51 : decode cL_passes 51 = .ok (.iconst 0, 1) := by decide +kernel
theorem dL_passes_52 : decode cL_passes 52 = .ok (.istore 5, 2) := by decide +kernel
theorem dL_passes_54 : decode cL_passes 54 = .ok (.aload_n 0, 1) := by decide +kernel
theorem dL_passes_55 : decode cL_passes 55 = .ok (.invokevirtual 85, 3) := by decide +kernel
theorem dL_passes_58 : decode cL_passes 58 = .ok (.aload_n 1, 1) := by decide +kernel
theorem dL_passes_59 : decode cL_passes 59 = .ok (.iconst 0, 1) := by decide +kernel
theorem dL_passes_60 : decode cL_passes 60 = .ok (.iaload, 1) := by decide +kernel
theorem dL_passes_61 : decode cL_passes 61 = .ok (.if_icmp .ne 7, 3) := by decide +kernel
theorem dL_passes_64 : decode cL_passes 64 = .ok (.iconst 1, 1) := by decide +kernel
theorem dL_passes_65 : decode cL_passes 65 = .ok (.goto 4, 3) := by decide +kernel
theorem dL_passes_68 : decode cL_passes 68 = .ok (.iconst 0, 1) := by decide +kernel
theorem dL_passes_69 : decode cL_passes 69 = .ok (.istore 6, 2) := by decide +kernel
theorem dL_passes_71 : decode cL_passes 71 = .ok (.iconst 0, 1) := by decide +kernel
theorem dL_passes_72 : decode cL_passes 72 = .ok (.istore 7, 2) := by decide +kernel
theorem dL_passes_74 : decode cL_passes 74 = .ok (.iload 7, 2) := by decide +kernel
theorem dL_passes_76 : decode cL_passes 76 = .ok (.aload_n 1, 1) := by decide +kernel
theorem dL_passes_77 : decode cL_passes 77 = .ok (.iconst 1, 1) := by decide +kernel
theorem dL_passes_78 : decode cL_passes 78 = .ok (.iaload, 1) := by decide +kernel
theorem dL_passes_79 : decode cL_passes 79 = .ok (.if_icmp .ge 57, 3) := by decide +kernel
theorem dL_passes_82 : decode cL_passes 82 = .ok (.iload 6, 2) := by decide +kernel
theorem dL_passes_84 : decode cL_passes 84 = .ok (.ifCond .eq 52, 3) := by decide +kernel
theorem dL_passes_87 : decode cL_passes 87 = .ok (.iload 5, 2) := by decide +kernel
theorem dL_passes_89 : decode cL_passes 89 = .ok (.aload_n 0, 1) := by decide +kernel
theorem dL_passes_90 : decode cL_passes 90 = .ok (.iload 7, 2) := by decide +kernel
theorem dL_passes_92 : decode cL_passes 92 = .ok (.invokevirtual 56, 3) := by decide +kernel
theorem dL_passes_95 : decode cL_passes 95 = .ok (.iconst (-1), 1) := by decide +kernel
theorem dL_passes_96 : decode cL_passes 96 = .ok (.if_icmp .eq 7, 3) := by decide +kernel
theorem dL_passes_99 : decode cL_passes 99 = .ok (.iconst 1, 1) := by decide +kernel
theorem dL_passes_100 : decode cL_passes 100 = .ok (.goto 4, 3) := by decide +kernel
theorem dL_passes_103 : decode cL_passes 103 = .ok (.iconst 0, 1) := by decide +kernel
theorem dL_passes_104 : decode cL_passes 104 = .ok (.iadd, 1) := by decide +kernel
theorem dL_passes_105 : decode cL_passes 105 = .ok (.istore 5, 2) := by decide +kernel
theorem dL_passes_107 : decode cL_passes 107 = .ok (.iload_n 2, 1) := by decide +kernel
theorem dL_passes_108 : decode cL_passes 108 = .ok (.bipush 120, 2) := by decide +kernel
theorem dL_passes_110 : decode cL_passes 110 = .ok (.if_icmp .lt 13, 3) := by decide +kernel
theorem dL_passes_113 : decode cL_passes 113 = .ok (.aload_n 0, 1) := by decide +kernel
theorem dL_passes_114 : decode cL_passes 114 = .ok (.iload 7, 2) := by decide +kernel
theorem dL_passes_116 : decode cL_passes 116 = .ok (.invokevirtual 56, 3) := by decide +kernel
theorem dL_passes_119 : decode cL_passes 119 = .ok (.iconst (-1), 1) := by decide +kernel
theorem dL_passes_120 : decode cL_passes 120 = .ok (.if_icmp .eq 7, 3) := by decide +kernel
theorem dL_passes_123 : decode cL_passes 123 = .ok (.iconst 1, 1) := by decide +kernel
theorem dL_passes_124 : decode cL_passes 124 = .ok (.goto 4, 3) := by decide +kernel
theorem dL_passes_127 : decode cL_passes 127 = .ok (.iconst 0, 1) := by decide +kernel
theorem dL_passes_128 : decode cL_passes 128 = .ok (.istore 6, 2) := by decide +kernel
theorem dL_passes_130 : decode cL_passes 130 = .ok (.iinc 7 1, 3) := by decide +kernel
theorem dL_passes_133 : decode cL_passes 133 = .ok (.goto (-59), 3) := by decide +kernel
theorem dL_passes_136 : decode cL_passes 136 = .ok (.iload 6, 2) := by decide +kernel
theorem dL_passes_138 : decode cL_passes 138 = .ok (.ifCond .eq 16, 3) := by decide +kernel
theorem dL_passes_141 : decode cL_passes 141 = .ok (.iload 5, 2) := by decide +kernel
theorem dL_passes_143 : decode cL_passes 143 = .ok (.iload_n 3, 1) := by decide +kernel
theorem dL_passes_144 : decode cL_passes 144 = .ok (.iload 4, 2) := by decide +kernel
theorem dL_passes_146 : decode cL_passes 146 = .ok (.iadd, 1) := by decide +kernel
theorem dL_passes_147 : decode cL_passes 147 = .ok (.if_icmp .ne 7, 3) := by decide +kernel
theorem dL_passes_150 : decode cL_passes 150 = .ok (.iconst 1, 1) := by decide +kernel
theorem dL_passes_151 : decode cL_passes 151 = .ok (.goto 4, 3) := by decide +kernel
theorem dL_passes_154 : decode cL_passes 154 = .ok (.iconst 0, 1) := by decide +kernel
theorem dL_passes_155 : decode cL_passes 155 = .ok (.ireturn, 1) := by decide +kernel
theorem dL_isCall_0 : decode cL_isCall 0 = .ok (.iconst (-1), 1) := by decide +kernel
theorem dL_isCall_1 : decode cL_isCall 1 = .ok (.istore_n 3, 1) := by decide +kernel
theorem dL_isCall_2 : decode cL_isCall 2 = .ok (.iconst (-1), 1) := by decide +kernel
theorem dL_isCall_3 : decode cL_isCall 3 = .ok (.istore 4, 2) := by decide +kernel
theorem dL_isCall_5 : decode cL_isCall 5 = .ok (.iconst 0, 1) := by decide +kernel
theorem dL_isCall_6 : decode cL_isCall 6 = .ok (.istore 5, 2) := by decide +kernel
theorem dL_isCall_8 : decode cL_isCall 8 = .ok (.iconst (-1), 1) := by decide +kernel
theorem dL_isCall_9 : decode cL_isCall 9 = .ok (.istore 6, 2) := by decide +kernel
theorem dL_isCall_11 : decode cL_isCall 11 = .ok (.iconst 0, 1) := by decide +kernel
theorem dL_isCall_12 : decode cL_isCall 12 = .ok (.istore 7, 2) := by decide +kernel
theorem dL_isCall_14 : decode cL_isCall 14 = .ok (.iload 7, 2) := by decide +kernel
theorem dL_isCall_16 : decode cL_isCall 16 = .ok (.aload_n 0, 1) := by decide +kernel
theorem dL_isCall_17 : decode cL_isCall 17 = .ok (.iload_n 2, 1) := by decide +kernel
theorem dL_isCall_18 : decode cL_isCall 18 = .ok (.invokevirtual 53, 3) := by decide +kernel
theorem dL_isCall_21 : decode cL_isCall 21 = .ok (.if_icmp .ge 110, 3) := by decide +kernel
theorem dL_isCall_24 : decode cL_isCall 24 = .ok (.aload_n 0, 1) := by decide +kernel
theorem dL_isCall_25 : decode cL_isCall 25 = .ok (.iload_n 2, 1) := by decide +kernel
theorem dL_isCall_26 : decode cL_isCall 26 = .ok (.iload 7, 2) := by decide +kernel
theorem dL_isCall_28 : decode cL_isCall 28 = .ok (.invokevirtual 62, 3) := by decide +kernel
theorem dL_isCall_31 : decode cL_isCall 31 = .ok (.istore 8, 2) := by decide +kernel
theorem dL_isCall_33 : decode cL_isCall 33 = .ok (.iload 5, 2) := by decide +kernel
theorem dL_isCall_35 : decode cL_isCall 35 = .ok (.iload 8, 2) := by decide +kernel
theorem dL_isCall_37 : decode cL_isCall 37 = .ok (.bipush 100, 2) := by decide +kernel
theorem dL_isCall_39 : decode cL_isCall 39 = .ok (.if_icmp .eq 11, 3) := by decide +kernel
theorem dL_isCall_42 : decode cL_isCall 42 = .ok (.iload 8, 2) := by decide +kernel
theorem dL_isCall_44 : decode cL_isCall 44 = .ok (.sipush 180, 3) := by decide +kernel
theorem dL_isCall_47 : decode cL_isCall 47 = .ok (.if_icmp .ne 7, 3) := by decide +kernel
theorem dL_isCall_50 : decode cL_isCall 50 = .ok (.iconst 1, 1) := by decide +kernel
theorem dL_isCall_51 : decode cL_isCall 51 = .ok (.goto 4, 3) := by decide +kernel
theorem dL_isCall_54 : decode cL_isCall 54 = .ok (.iconst 0, 1) := by decide +kernel
theorem dL_isCall_55 : decode cL_isCall 55 = .ok (.iadd, 1) := by decide +kernel
theorem dL_isCall_56 : decode cL_isCall 56 = .ok (.istore 5, 2) := by decide +kernel
theorem dL_isCall_58 : decode cL_isCall 58 = .ok (.iload 8, 2) := by decide +kernel
theorem dL_isCall_60 : decode cL_isCall 60 = .ok (.sipush 200, 3) := by decide +kernel
theorem dL_isCall_63 : decode cL_isCall 63 = .ok (.if_icmp .lt 16, 3) := by decide +kernel
theorem dL_isCall_66 : decode cL_isCall 66 = .ok (.iload 8, 2) := by decide +kernel
theorem dL_isCall_68 : decode cL_isCall 68 = .ok (.sipush 300, 3) := by decide +kernel
theorem dL_isCall_71 : decode cL_isCall 71 = .ok (.if_icmp .ge 8, 3) := by decide +kernel
theorem dL_isCall_74 : decode cL_isCall 74 = .ok (.iload 7, 2) := by decide +kernel
theorem dL_isCall_76 : decode cL_isCall 76 = .ok (.goto 5, 3) := by decide +kernel
theorem dL_isCall_79 : decode cL_isCall 79 = .ok (.iload 6, 2) := by decide +kernel
theorem dL_isCall_81 : decode cL_isCall 81 = .ok (.istore 6, 2) := by decide +kernel
theorem dL_isCall_83 : decode cL_isCall 83 = .ok (.iload 8, 2) := by decide +kernel
theorem dL_isCall_85 : decode cL_isCall 85 = .ok (.iload 4, 2) := by decide +kernel
theorem dL_isCall_87 : decode cL_isCall 87 = .ok (.if_icmp .le 8, 3) := by decide +kernel
theorem dL_isCall_90 : decode cL_isCall 90 = .ok (.iload 8, 2) := by decide +kernel
theorem dL_isCall_92 : decode cL_isCall 92 = .ok (.goto 5, 3) := by decide +kernel
theorem dL_isCall_95 : decode cL_isCall 95 = .ok (.iload 4, 2) := by decide +kernel
theorem dL_isCall_97 : decode cL_isCall 97 = .ok (.istore 4, 2) := by decide +kernel
theorem dL_isCall_99 : decode cL_isCall 99 = .ok (.iload 8, 2) := by decide +kernel
theorem dL_isCall_101 : decode cL_isCall 101 = .ok (.sipush 487, 3) := by decide +kernel
theorem dL_isCall_104 : decode cL_isCall 104 = .ok (.if_icmp .eq 19, 3) := by decide +kernel
theorem dL_isCall_107 : decode cL_isCall 107 = .ok (.iload_n 3, 1) := by decide +kernel
theorem dL_isCall_108 : decode cL_isCall 108 = .ok (.iconst (-1), 1) := by decide +kernel
theorem dL_isCall_109 : decode cL_isCall 109 = .ok (.if_icmp .eq 9, 3) := by decide +kernel
theorem dL_isCall_112 : decode cL_isCall 112 = .ok (.iload 8, 2) := by decide +kernel
theorem dL_isCall_114 : decode cL_isCall 114 = .ok (.iload_n 3, 1) := by decide +kernel
theorem dL_isCall_115 : decode cL_isCall 115 = .ok (.if_icmp .ge 8, 3) := by decide +kernel
theorem dL_isCall_118 : decode cL_isCall 118 = .ok (.iload 8, 2) := by decide +kernel
theorem dL_isCall_120 : decode cL_isCall 120 = .ok (.goto 4, 3) := by decide +kernel
theorem dL_isCall_123 : decode cL_isCall 123 = .ok (.iload_n 3, 1) := by decide +kernel
theorem dL_isCall_124 : decode cL_isCall 124 = .ok (.istore_n 3, 1) := by decide +kernel
theorem dL_isCall_125 : decode cL_isCall 125 = .ok (.iinc 7 1, 3) := by decide +kernel
theorem dL_isCall_128 : decode cL_isCall 128 = .ok (.goto (-114), 3) := by decide +kernel
theorem dL_isCall_131 : decode cL_isCall 131 = .ok (.aload_n 0, 1) := by decide +kernel
theorem dL_isCall_132 : decode cL_isCall 132 = .ok (.iload_n 2, 1) := by decide +kernel
theorem dL_isCall_133 : decode cL_isCall 133 = .ok (.invokevirtual 56, 3) := by decide +kernel
theorem dL_isCall_136 : decode cL_isCall 136 = .ok (.istore 7, 2) := by decide +kernel
theorem dL_isCall_138 : decode cL_isCall 138 = .ok (.iload 7, 2) := by decide +kernel
theorem dL_isCall_140 : decode cL_isCall 140 = .ok (.iconst (-1), 1) := by decide +kernel
theorem dL_isCall_141 : decode cL_isCall 141 = .ok (.if_icmp .ne 37, 3) := by decide +kernel
theorem dL_isCall_144 : decode cL_isCall 144 = .ok (.iload 5, 2) := by decide +kernel
theorem dL_isCall_146 : decode cL_isCall 146 = .ok (.ifCond .le 30, 3) := by decide +kernel
theorem dL_isCall_149 : decode cL_isCall 149 = .ok (.iload 6, 2) := by decide +kernel
theorem dL_isCall_151 : decode cL_isCall 151 = .ok (.iconst (-1), 1) := by decide +kernel
theorem dL_isCall_152 : decode cL_isCall 152 = .ok (.if_icmp .ne 24, 3) := by decide +kernel
theorem dL_isCall_155 : decode cL_isCall 155 = .ok (.aload_n 0, 1) := by decide +kernel
theorem dL_isCall_156 : decode cL_isCall 156 = .ok (.iload_n 2, 1) := by decide +kernel
theorem dL_isCall_157 : decode cL_isCall 157 = .ok (.invokevirtual 50, 3) := by decide +kernel
theorem dL_isCall_160 : decode cL_isCall 160 = .ok (.iconst (-1), 1) := by decide +kernel
theorem dL_isCall_161 : decode cL_isCall 161 = .ok (.if_icmp .ne 15, 3) := by decide +kernel
theorem dL_isCall_164 : decode cL_isCall 164 = .ok (.iload 4, 2) := by decide +kernel
theorem dL_isCall_166 : decode cL_isCall 166 = .ok (.sipush 600, 3) := by decide +kernel
theorem dL_isCall_169 : decode cL_isCall 169 = .ok (.if_icmp .ge 7, 3) := by decide +kernel
theorem dL_isCall_172 : decode cL_isCall 172 = .ok (.iconst 1, 1) := by decide +kernel
theorem dL_isCall_173 : decode cL_isCall 173 = .ok (.goto 4, 3) := by decide +kernel
theorem dL_isCall_176 : decode cL_isCall 176 = .ok (.iconst 0, 1) := by decide +kernel
theorem dL_isCall_177 : decode cL_isCall 177 = .ok (.ireturn, 1) := by decide +kernel
theorem dL_isCall_178 : decode cL_isCall 178 = .ok (.aload_n 1, 1) := by decide +kernel
theorem dL_isCall_179 : decode cL_isCall 179 = .ok (.iconst 3, 1) := by decide +kernel
theorem dL_isCall_180 : decode cL_isCall 180 = .ok (.iaload, 1) := by decide +kernel
theorem dL_isCall_181 : decode cL_isCall 181 = .ok (.iload_n 2, 1) := by decide +kernel
theorem dL_isCall_182 : decode cL_isCall 182 = .ok (.ishr, 1) := by decide +kernel
theorem dL_isCall_183 : decode cL_isCall 183 = .ok (.iconst 1, 1) := by decide +kernel
theorem dL_isCall_184 : decode cL_isCall 184 = .ok (.iand, 1) := by decide +kernel
theorem dL_isCall_185 : decode cL_isCall 185 = .ok (.iconst 1, 1) := by decide +kernel
theorem dL_isCall_186 : decode cL_isCall 186 = .ok (.if_icmp .ne 9, 3) := by decide +kernel
theorem dL_isCall_189 : decode cL_isCall 189 = .ok (.sipush 487, 3) := by decide +kernel
theorem dL_isCall_192 : decode cL_isCall 192 = .ok (.goto 58, 3) := by decide +kernel
theorem dL_isCall_195 : decode cL_isCall 195 = .ok (.aload_n 0, 1) := by decide +kernel
theorem dL_isCall_196 : decode cL_isCall 196 = .ok (.iload_n 2, 1) := by decide +kernel
theorem dL_isCall_197 : decode cL_isCall 197 = .ok (.invokevirtual 53, 3) := by decide +kernel
theorem dL_isCall_200 : decode cL_isCall 200 = .ok (.ifCond .ne 9, 3) := by decide +kernel
theorem dL_isCall_203 : decode cL_isCall 203 = .ok (.sipush 480, 3) := by decide +kernel
theorem dL_isCall_206 : decode cL_isCall 206 = .ok (.goto 44, 3) := by decide +kernel
theorem dL_isCall_209 : decode cL_isCall 209 = .ok (.iload 6, 2) := by decide +kernel
theorem dL_isCall_211 : decode cL_isCall 211 = .ok (.iconst (-1), 1) := by decide +kernel
theorem dL_isCall_212 : decode cL_isCall 212 = .ok (.if_icmp .eq 13, 3) := by decide +kernel
theorem dL_isCall_215 : decode cL_isCall 215 = .ok (.aload_n 0, 1) := by decide +kernel
theorem dL_isCall_216 : decode cL_isCall 216 = .ok (.iload_n 2, 1) := by decide +kernel
theorem dL_isCall_217 : decode cL_isCall 217 = .ok (.iload 6, 2) := by decide +kernel
theorem dL_isCall_219 : decode cL_isCall 219 = .ok (.invokevirtual 62, 3) := by decide +kernel
theorem dL_isCall_222 : decode cL_isCall 222 = .ok (.goto 28, 3) := by decide +kernel
theorem dL_isCall_225 : decode cL_isCall 225 = .ok (.iload 4, 2) := by decide +kernel
theorem dL_isCall_227 : decode cL_isCall 227 = .ok (.sipush 600, 3) := by decide +kernel
theorem dL_isCall_230 : decode cL_isCall 230 = .ok (.if_icmp .lt 8, 3) := by decide +kernel
theorem dL_isCall_233 : decode cL_isCall 233 = .ok (.iload 4, 2) := by decide +kernel
theorem dL_isCall_235 : decode cL_isCall 235 = .ok (.goto 15, 3) := by decide +kernel
theorem dL_isCall_238 : decode cL_isCall 238 = .ok (.iload_n 3, 1) := by decide +kernel
theorem dL_isCall_239 : decode cL_isCall 239 = .ok (.iconst (-1), 1) := by decide +kernel
theorem dL_isCall_240 : decode cL_isCall 240 = .ok (.if_icmp .ne 9, 3) := by decide +kernel
theorem dL_isCall_243 : decode cL_isCall 243 = .ok (.sipush 487, 3) := by decide +kernel
theorem dL_isCall_246 : decode cL_isCall 246 = .ok (.goto 4, 3) := by decide +kernel
theorem dL_isCall_249 : decode cL_isCall 249 = .ok (.iload_n 3, 1) := by decide +kernel
theorem dL_isCall_250 : decode cL_isCall 250 = .ok (.istore 8, 2) := by decide +kernel
theorem dL_isCall_252 : decode cL_isCall 252 = .ok (.iload 5, 2) := by decide +kernel
theorem dL_isCall_254 : decode cL_isCall 254 = .ok (.ifCond .ne 34, 3) := by decide +kernel
theorem dL_isCall_257 : decode cL_isCall 257 = .ok (.iload 7, 2) := by decide +kernel
theorem dL_isCall_259 : decode cL_isCall 259 = .ok (.iload 8, 2) := by decide +kernel
theorem dL_isCall_261 : decode cL_isCall 261 = .ok (.if_icmp .ne 27, 3) := by decide +kernel
theorem dL_isCall_264 : decode cL_isCall 264 = .ok (.aload_n 0, 1) := by decide +kernel
theorem dL_isCall_265 : decode cL_isCall 265 = .ok (.iload_n 2, 1) := by decide +kernel
theorem dL_isCall_266 : decode cL_isCall 266 = .ok (.invokevirtual 50, 3) := by decide +kernel
theorem dL_isCall_269 : decode cL_isCall 269 = .ok (.iload 6, 2) := by decide +kernel
theorem dL_isCall_271 : decode cL_isCall 271 = .ok (.if_icmp .ne 17, 3) := by decide +kernel
theorem dL_isCall_274 : decode cL_isCall 274 = .ok (.aload_n 0, 1) := by decide +kernel
theorem dL_isCall_275 : decode cL_isCall 275 = .ok (.iload_n 2, 1) := by decide +kernel
theorem dL_isCall_276 : decode cL_isCall 276 = .ok (.invokevirtual 73, 3) := by decide +kernel
theorem dL_isCall_279 : decode cL_isCall 279 = .ok (.iload 7, 2) := by decide +kernel
theorem dL_isCall_281 : decode cL_isCall 281 = .ok (.if_icmp .ne 7, 3) := by decide +kernel
theorem dL_isCall_284 : decode cL_isCall 284 = .ok (.iconst 1, 1) := by decide +kernel
theorem dL_isCall_285 : decode cL_isCall 285 = .ok (.goto 4, 3) := by decide +kernel
theorem dL_isCall_288 : decode cL_isCall 288 = .ok (.iconst 0, 1) := by decide +kernel
theorem dL_isCall_289 : decode cL_isCall 289 = .ok (.ireturn, 1) := by decide +kernel
theorem dL_law_0 : decode cL_law 0 = .ok (.new 31, 3) := by decide +kernel
theorem dL_law_3 : decode cL_law 3 = .ok (.dup, 1) := by decide +kernel
theorem dL_law_4 : decode cL_law 4 = .ok (.invokespecial 88, 3) := by decide +kernel
theorem dL_law_7 : decode cL_law 7 = .ok (.astore_n 1, 1) := by decide +kernel
theorem dL_law_8 : decode cL_law 8 = .ok (.bipush 14, 2) := by decide +kernel
theorem dL_law_10 : decode cL_law 10 = .ok (.newarray .int, 2) := by decide +kernel
theorem dL_law_12 : decode cL_law 12 = .ok (.astore_n 2, 1) := by decide +kernel
theorem dL_law_13 : decode cL_law 13 = .ok (.aload_n 1, 1) := by decide +kernel
theorem dL_law_14 : decode cL_law 14 = .ok (.invokevirtual 85, 3) := by decide +kernel
theorem dL_law_17 : decode cL_law 17 = .ok (.ifCond .ne 31, 3) := by decide +kernel
theorem dL_law_20 : decode cL_law 20 = .ok (.aload_n 1, 1) := by decide +kernel
theorem dL_law_21 : decode cL_law 21 = .ok (.invokevirtual 47, 3) := by decide +kernel
theorem dL_law_24 : decode cL_law 24 = .ok (.ifCond .ne 24, 3) := by decide +kernel
theorem dL_law_27 : decode cL_law 27 = .ok (.aload_n 1, 1) := by decide +kernel
theorem dL_law_28 : decode cL_law 28 = .ok (.iconst 5, 1) := by decide +kernel
theorem dL_law_29 : decode cL_law 29 = .ok (.invokevirtual 30, 3) := by decide +kernel
theorem dL_law_32 : decode cL_law 32 = .ok (.ifCond .ne 16, 3) := by decide +kernel
theorem dL_law_35 : decode cL_law 35 = .ok (.aload_n 1, 1) := by decide +kernel
theorem dL_law_36 : decode cL_law 36 = .ok (.bipush 9, 2) := by decide +kernel
theorem dL_law_38 : decode cL_law 38 = .ok (.invokevirtual 79, 3) := by decide +kernel
theorem dL_law_41 : decode cL_law 41 = .ok (.ifCond .ne 7, 3) := by decide +kernel
theorem dL_law_44 : decode cL_law 44 = .ok (.iconst 1, 1) := by decide +kernel
theorem dL_law_45 : decode cL_law 45 = .ok (.goto 4, 3) := by decide +kernel
theorem dL_law_48 : decode cL_law 48 = .ok (.iconst 0, 1) := by decide +kernel
theorem dL_law_49 : decode cL_law 49 = .ok (.istore_n 3, 1) := by decide +kernel
theorem dL_law_50 : decode cL_law 50 = .ok (.aload_n 0, 1) := by decide +kernel
theorem dL_law_51 : decode cL_law 51 = .ok (.arraylength, 1) := by decide +kernel
theorem dL_law_52 : decode cL_law 52 = .ok (.iconst 3, 1) := by decide +kernel
theorem dL_law_53 : decode cL_law 53 = .ok (.idiv, 1) := by decide +kernel
theorem dL_law_54 : decode cL_law 54 = .ok (.bipush 80, 2) := by decide +kernel
theorem dL_law_56 : decode cL_law 56 = .ok (.if_icmp .le 8, 3) := by decide +kernel
theorem dL_law_59 : decode cL_law 59 = .ok (.bipush 80, 2) := by decide +kernel
theorem dL_law_61 : decode cL_law 61 = .ok (.goto 7, 3) := by decide +kernel
theorem dL_law_64 : decode cL_law 64 = .ok (.aload_n 0, 1) := by decide +kernel
theorem dL_law_65 : decode cL_law 65 = .ok (.arraylength, 1) := by decide +kernel
theorem dL_law_66 : decode cL_law 66 = .ok (.iconst 3, 1) := by decide +kernel
theorem dL_law_67 : decode cL_law 67 = .ok (.idiv, 1) := by decide +kernel
theorem dL_law_68 : decode cL_law 68 = .ok (.istore 4, 2) := by decide +kernel
theorem dL_law_70 : decode cL_law 70 = .ok (.iconst 0, 1) := by decide +kernel
theorem dL_law_71 : decode cL_law 71 = .ok (.istore 5, 2) := by decide +kernel
theorem dL_law_73 : decode cL_law 73 = .ok (.iload 5, 2) := by decide +kernel
theorem dL_law_75 : decode cL_law 75 = .ok (.iload 4, 2) := by decide +kernel
theorem dL_law_77 : decode cL_law 77 = .ok (.if_icmp .ge 113, 3) := by decide +kernel
theorem dL_law_80 : decode cL_law 80 = .ok (.iload_n 3, 1) := by decide +kernel
theorem dL_law_81 : decode cL_law 81 = .ok (.ifCond .eq 109, 3) := by decide +kernel
theorem dL_law_84 : decode cL_law 84 = .ok (.aload_n 0, 1) := by decide +kernel
theorem dL_law_85 : decode cL_law 85 = .ok (.iconst 3, 1) := by decide +kernel
theorem dL_law_86 : decode cL_law 86 = .ok (.iload 5, 2) := by decide +kernel
theorem dL_law_88 : decode cL_law 88 = .ok (.imul, 1) := by decide +kernel
theorem dL_law_89 : decode cL_law 89 = .ok (.iconst 1, 1) := by decide +kernel
theorem dL_law_90 : decode cL_law 90 = .ok (.iadd, 1) := by decide +kernel
theorem dL_law_91 : decode cL_law 91 = .ok (.invokestatic 89, 3) := by decide +kernel
theorem dL_law_94 : decode cL_law 94 = .ok (.istore 6, 2) := by decide +kernel
theorem dL_law_96 : decode cL_law 96 = .ok (.aload_n 0, 1) := by decide +kernel
theorem dL_law_97 : decode cL_law 97 = .ok (.iconst 3, 1) := by decide +kernel
theorem dL_law_98 : decode cL_law 98 = .ok (.iload 5, 2) := by decide +kernel
theorem dL_law_100 : decode cL_law 100 = .ok (.imul, 1) := by decide +kernel
theorem dL_law_101 : decode cL_law 101 = .ok (.iconst 2, 1) := by decide +kernel
theorem dL_law_102 : decode cL_law 102 = .ok (.iadd, 1) := by decide +kernel
theorem dL_law_103 : decode cL_law 103 = .ok (.invokestatic 89, 3) := by decide +kernel
theorem dL_law_106 : decode cL_law 106 = .ok (.istore 7, 2) := by decide +kernel
theorem dL_law_108 : decode cL_law 108 = .ok (.aload_n 1, 1) := by decide +kernel
theorem dL_law_109 : decode cL_law 109 = .ok (.aload_n 2, 1) := by decide +kernel
theorem dL_law_110 : decode cL_law 110 = .ok (.aload_n 0, 1) := by decide +kernel
theorem dL_law_111 : decode cL_law 111 = .ok (.iconst 3, 1) := by decide +kernel
theorem dL_law_112 : decode cL_law 112 = .ok (.iload 5, 2) := by decide +kernel
theorem dL_law_114 : decode cL_law 114 = .ok (.imul, 1) := by decide +kernel
theorem dL_law_115 : decode cL_law 115 = .ok (.invokestatic 89, 3) := by decide +kernel
theorem dL_law_118 : decode cL_law 118 = .ok (.iload 6, 2) := by decide +kernel
theorem dL_law_120 : decode cL_law 120 = .ok (.iload 7, 2) := by decide +kernel
theorem dL_law_122 : decode cL_law 122 = .ok (.invokestatic 93, 3) := by decide +kernel
theorem dL_law_125 : decode cL_law 125 = .ok (.ifCond .eq 28, 3) := by decide +kernel
theorem dL_law_128 : decode cL_law 128 = .ok (.aload_n 1, 1) := by decide +kernel
theorem dL_law_129 : decode cL_law 129 = .ok (.iload 7, 2) := by decide +kernel
theorem dL_law_131 : decode cL_law 131 = .ok (.bipush 10, 2) := by decide +kernel
theorem dL_law_133 : decode cL_law 133 = .ok (.irem, 1) := by decide +kernel
theorem dL_law_134 : decode cL_law 134 = .ok (.invokevirtual 79, 3) := by decide +kernel
theorem dL_law_137 : decode cL_law 137 = .ok (.aload_n 2, 1) := by decide +kernel
theorem dL_law_138 : decode cL_law 138 = .ok (.iconst 4, 1) := by decide +kernel
theorem dL_law_139 : decode cL_law 139 = .ok (.iload 7, 2) := by decide +kernel
theorem dL_law_141 : decode cL_law 141 = .ok (.bipush 10, 2) := by decide +kernel
theorem dL_law_143 : decode cL_law 143 = .ok (.irem, 1) := by decide +kernel
theorem dL_law_144 : decode cL_law 144 = .ok (.iadd, 1) := by decide +kernel
theorem dL_law_145 : decode cL_law 145 = .ok (.iaload, 1) := by decide +kernel
theorem dL_law_146 : decode cL_law 146 = .ok (.if_icmp .ne 7, 3) := by decide +kernel
theorem dL_law_149 : decode cL_law 149 = .ok (.iconst 1, 1) := by decide +kernel
theorem dL_law_150 : decode cL_law 150 = .ok (.goto 4, 3) := by decide +kernel
theorem dL_law_153 : decode cL_law 153 = .ok (.iconst 0, 1) := by decide +kernel
theorem dL_law_154 : decode cL_law 154 = .ok (.istore_n 3, 1) := by decide +kernel
theorem dL_law_155 : decode cL_law 155 = .ok (.iconst 0, 1) := by decide +kernel
theorem dL_law_156 : decode cL_law 156 = .ok (.istore 8, 2) := by decide +kernel
theorem dL_law_158 : decode cL_law 158 = .ok (.iload 8, 2) := by decide +kernel
theorem dL_law_160 : decode cL_law 160 = .ok (.aload_n 2, 1) := by decide +kernel
theorem dL_law_161 : decode cL_law 161 = .ok (.iconst 1, 1) := by decide +kernel
theorem dL_law_162 : decode cL_law 162 = .ok (.iaload, 1) := by decide +kernel
theorem dL_law_163 : decode cL_law 163 = .ok (.if_icmp .ge 21, 3) := by decide +kernel
theorem dL_law_166 : decode cL_law 166 = .ok (.iload_n 3, 1) := by decide +kernel
theorem dL_law_167 : decode cL_law 167 = .ok (.ifCond .eq 17, 3) := by decide +kernel
theorem dL_law_170 : decode cL_law 170 = .ok (.aload_n 1, 1) := by decide +kernel
theorem dL_law_171 : decode cL_law 171 = .ok (.aload_n 2, 1) := by decide +kernel
theorem dL_law_172 : decode cL_law 172 = .ok (.iload 8, 2) := by decide +kernel
theorem dL_law_174 : decode cL_law 174 = .ok (.invokestatic 96, 3) := by decide +kernel
theorem dL_law_177 : decode cL_law 177 = .ok (.istore_n 3, 1) := by decide +kernel
theorem dL_law_178 : decode cL_law 178 = .ok (.iinc 8 1, 3) := by decide +kernel
theorem dL_law_181 : decode cL_law 181 = .ok (.goto (-23), 3) := by decide +kernel
theorem dL_law_184 : decode cL_law 184 = .ok (.iinc 5 1, 3) := by decide +kernel
theorem dL_law_187 : decode cL_law 187 = .ok (.goto (-114), 3) := by decide +kernel
theorem dL_law_190 : decode cL_law 190 = .ok (.iload_n 3, 1) := by decide +kernel
theorem dL_law_191 : decode cL_law 191 = .ok (.ireturn, 1) := by decide +kernel
abbrev vwCl : List vw_C := [(RX0, TX0, 5), (RX1, TX1, 10), (RX2, TX2, 7)]

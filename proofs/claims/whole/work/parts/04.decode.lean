theorem dX0_init_0 : decode cX0_init 0 = .ok (.aload_n 0, 1) := by decide +kernel
theorem dX0_init_1 : decode cX0_init 1 = .ok (.invokespecial 3, 3) := by decide +kernel
theorem dX0_init_4 : decode cX0_init 4 = .ok (.aload_n 0, 1) := by decide +kernel
theorem dX0_init_5 : decode cX0_init 5 = .ok (.bipush 16, 2) := by decide +kernel
theorem dX0_init_7 : decode cX0_init 7 = .ok (.newarray .int, 2) := by decide +kernel
theorem dX0_init_9 : decode cX0_init 9 = .ok (.putfield 9, 3) := by decide +kernel
theorem dX0_init_12 : decode cX0_init 12 = .ok (.aload_n 0, 1) := by decide +kernel
theorem dX0_init_13 : decode cX0_init 13 = .ok (.bipush 16, 2) := by decide +kernel
theorem dX0_init_15 : decode cX0_init 15 = .ok (.newarray .int, 2) := by decide +kernel
theorem dX0_init_17 : decode cX0_init 17 = .ok (.putfield 15, 3) := by decide +kernel
theorem dX0_init_20 : decode cX0_init 20 = .ok (.aload_n 0, 1) := by decide +kernel
theorem dX0_init_21 : decode cX0_init 21 = .ok (.bipush 16, 2) := by decide +kernel
theorem dX0_init_23 : decode cX0_init 23 = .ok (.newarray .int, 2) := by decide +kernel
theorem dX0_init_25 : decode cX0_init 25 = .ok (.putfield 18, 3) := by decide +kernel
theorem dX0_init_28 : decode cX0_init 28 = .ok (.aload_n 0, 1) := by decide +kernel
theorem dX0_init_29 : decode cX0_init 29 = .ok (.bipush 16, 2) := by decide +kernel
theorem dX0_init_31 : decode cX0_init 31 = .ok (.newarray .int, 2) := by decide +kernel
theorem dX0_init_33 : decode cX0_init 33 = .ok (.putfield 21, 3) := by decide +kernel
theorem dX0_init_36 : decode cX0_init 36 = .ok (.aload_n 0, 1) := by decide +kernel
theorem dX0_init_37 : decode cX0_init 37 = .ok (.iconst 0, 1) := by decide +kernel
theorem dX0_init_38 : decode cX0_init 38 = .ok (.putfield 24, 3) := by decide +kernel
theorem dX0_init_41 : decode cX0_init 41 = .ok (.iconst 0, 1) := by decide +kernel
theorem dX0_init_42 : decode cX0_init 42 = .ok (.istore_n 1, 1) := by decide +kernel
theorem dX0_init_43 : decode cX0_init 43 = .ok (.iload_n 1, 1) := by decide +kernel
theorem dX0_init_44 : decode cX0_init 44 = .ok (.bipush 16, 2) := by decide +kernel
theorem dX0_init_46 : decode cX0_init 46 = .ok (.if_icmp .ge 16, 3) := by decide +kernel
theorem dX0_init_49 : decode cX0_init 49 = .ok (.aload_n 0, 1) := by decide +kernel
theorem dX0_init_50 : decode cX0_init 50 = .ok (.getfield 18, 3) := by decide +kernel
theorem dX0_init_53 : decode cX0_init 53 = .ok (.iload_n 1, 1) := by decide +kernel
theorem dX0_init_54 : decode cX0_init 54 = .ok (.iconst (-1), 1) := by decide +kernel
theorem dX0_init_55 : decode cX0_init 55 = .ok (.iastore, 1) := by decide +kernel
theorem dX0_init_56 : decode cX0_init 56 = .ok (.iinc 1 1, 3) := by decide +kernel
theorem dX0_init_59 : decode cX0_init 59 = .ok (.goto (-16), 3) := by decide +kernel
theorem dX0_init_62 : decode cX0_init 62 = .ok (.return_, 1) := by decide +kernel
theorem dX0_put_0 : decode cX0_put 0 = .ok (.aload_n 0, 1) := by decide +kernel
theorem dX0_put_1 : decode cX0_put 1 = .ok (.getfield 18, 3) := by decide +kernel
theorem dX0_put_4 : decode cX0_put 4 = .ok (.iload_n 1, 1) := by decide +kernel
theorem dX0_put_5 : decode cX0_put 5 = .ok (.iaload, 1) := by decide +kernel
theorem dX0_put_6 : decode cX0_put 6 = .ok (.iconst (-1), 1) := by decide +kernel
theorem dX0_put_7 : decode cX0_put 7 = .ok (.if_icmp .ne 32, 3) := by decide +kernel
theorem dX0_put_10 : decode cX0_put 10 = .ok (.aload_n 0, 1) := by decide +kernel
theorem dX0_put_11 : decode cX0_put 11 = .ok (.getfield 24, 3) := by decide +kernel
theorem dX0_put_14 : decode cX0_put 14 = .ok (.bipush 16, 2) := by decide +kernel
theorem dX0_put_16 : decode cX0_put 16 = .ok (.if_icmp .ge 23, 3) := by decide +kernel
theorem dX0_put_19 : decode cX0_put 19 = .ok (.aload_n 0, 1) := by decide +kernel
theorem dX0_put_20 : decode cX0_put 20 = .ok (.getfield 21, 3) := by decide +kernel
theorem dX0_put_23 : decode cX0_put 23 = .ok (.aload_n 0, 1) := by decide +kernel
theorem dX0_put_24 : decode cX0_put 24 = .ok (.getfield 24, 3) := by decide +kernel
theorem dX0_put_27 : decode cX0_put 27 = .ok (.iload_n 1, 1) := by decide +kernel
theorem dX0_put_28 : decode cX0_put 28 = .ok (.iastore, 1) := by decide +kernel
theorem dX0_put_29 : decode cX0_put 29 = .ok (.aload_n 0, 1) := by decide +kernel
theorem dX0_put_30 : decode cX0_put 30 = .ok (.dup, 1) := by decide +kernel
theorem dX0_put_31 : decode cX0_put 31 = .ok (.getfield 24, 3) := by decide +kernel
theorem dX0_put_34 : decode cX0_put 34 = .ok (.iconst 1, 1) := by decide +kernel
theorem dX0_put_35 : decode cX0_put 35 = .ok (.iadd, 1) := by decide +kernel
theorem dX0_put_36 : decode cX0_put 36 = .ok (.putfield 24, 3) := by decide +kernel
theorem dX0_put_39 : decode cX0_put 39 = .ok (.aload_n 0, 1) := by decide +kernel
theorem dX0_put_40 : decode cX0_put 40 = .ok (.getfield 9, 3) := by decide +kernel
theorem dX0_put_43 : decode cX0_put 43 = .ok (.iload_n 1, 1) := by decide +kernel
theorem dX0_put_44 : decode cX0_put 44 = .ok (.iload_n 2, 1) := by decide +kernel
theorem dX0_put_45 : decode cX0_put 45 = .ok (.iastore, 1) := by decide +kernel
theorem dX0_put_46 : decode cX0_put 46 = .ok (.aload_n 0, 1) := by decide +kernel
theorem dX0_put_47 : decode cX0_put 47 = .ok (.getfield 15, 3) := by decide +kernel
theorem dX0_put_50 : decode cX0_put 50 = .ok (.iload_n 1, 1) := by decide +kernel
theorem dX0_put_51 : decode cX0_put 51 = .ok (.iload_n 3, 1) := by decide +kernel
theorem dX0_put_52 : decode cX0_put 52 = .ok (.iastore, 1) := by decide +kernel
theorem dX0_put_53 : decode cX0_put 53 = .ok (.aload_n 0, 1) := by decide +kernel
theorem dX0_put_54 : decode cX0_put 54 = .ok (.getfield 18, 3) := by decide +kernel
theorem dX0_put_57 : decode cX0_put 57 = .ok (.iload_n 1, 1) := by decide +kernel
theorem dX0_put_58 : decode cX0_put 58 = .ok (.iload 4, 2) := by decide +kernel
theorem dX0_put_60 : decode cX0_put 60 = .ok (.iastore, 1) := by decide +kernel
theorem dX0_put_61 : decode cX0_put 61 = .ok (.return_, 1) := by decide +kernel
theorem dX0_isThere_0 : decode cX0_isThere 0 = .ok (.aload_n 0, 1) := by decide +kernel
theorem dX0_isThere_1 : decode cX0_isThere 1 = .ok (.getfield 18, 3) := by decide +kernel
theorem dX0_isThere_4 : decode cX0_isThere 4 = .ok (.iload_n 1, 1) := by decide +kernel
theorem dX0_isThere_5 : decode cX0_isThere 5 = .ok (.iaload, 1) := by decide +kernel
theorem dX0_isThere_6 : decode cX0_isThere 6 = .ok (.iconst (-1), 1) := by decide +kernel
theorem dX0_isThere_7 : decode cX0_isThere 7 = .ok (.if_icmp .eq 17, 3) := by decide +kernel
theorem dX0_isThere_10 : decode cX0_isThere 10 = .ok (.iload_n 2, 1) := by decide +kernel
theorem dX0_isThere_11 : decode cX0_isThere 11 = .ok (.aload_n 0, 1) := by decide +kernel
theorem dX0_isThere_12 : decode cX0_isThere 12 = .ok (.getfield 15, 3) := by decide +kernel
theorem dX0_isThere_15 : decode cX0_isThere 15 = .ok (.iload_n 1, 1) := by decide +kernel
theorem dX0_isThere_16 : decode cX0_isThere 16 = .ok (.iaload, 1) := by decide +kernel
theorem dX0_isThere_17 : decode cX0_isThere 17 = .ok (.if_icmp .ge 7, 3) := by decide +kernel
theorem dX0_isThere_20 : decode cX0_isThere 20 = .ok (.iconst 1, 1) := by decide +kernel
theorem dX0_isThere_21 : decode cX0_isThere 21 = .ok (.goto 4, 3) := by decide +kernel
theorem dX0_isThere_24 : decode cX0_isThere 24 = .ok (.iconst 0, 1) := by decide +kernel
theorem dX0_isThere_25 : decode cX0_isThere 25 = .ok (.ireturn, 1) := by decide +kernel
theorem dX0_count_0 : decode cX0_count 0 = .ok (.aload_n 0, 1) := by decide +kernel
theorem dX0_count_1 : decode cX0_count 1 = .ok (.iconst (-1), 1) := by decide +kernel
theorem dX0_count_2 : decode cX0_count 2 = .ok (.iload_n 1, 1) := by decide +kernel
theorem dX0_count_3 : decode cX0_count 3 = .ok (.invokevirtual 28, 3) := by decide +kernel
theorem dX0_count_6 : decode cX0_count 6 = .ok (.ireturn, 1) := by decide +kernel
theorem dX0_countOthers_0 : decode cX0_countOthers 0 = .ok (.iconst 0, 1) := by decide +kernel
theorem dX0_countOthers_1 : decode cX0_countOthers 1 = .ok (.istore_n 3, 1) := by decide +kernel
theorem dX0_countOthers_2 : decode cX0_countOthers 2 = .ok (.iconst 0, 1) := by decide +kernel
theorem dX0_countOthers_3 : decode cX0_countOthers 3 = .ok (.istore 4, 2) := by decide +kernel
theorem dX0_countOthers_5 : decode cX0_countOthers 5 = .ok (.iload 4, 2) := by decide +kernel
theorem dX0_countOthers_7 : decode cX0_countOthers 7 = .ok (.bipush 16, 2) := by decide +kernel
theorem dX0_countOthers_9 : decode cX0_countOthers 9 = .ok (.if_icmp .ge 28, 3) := by decide +kernel
theorem dX0_countOthers_12 : decode cX0_countOthers 12 = .ok (.iload 4, 2) := by decide +kernel
theorem dX0_countOthers_14 : decode cX0_countOthers 14 = .ok (.iload_n 1, 1) := by decide +kernel
theorem dX0_countOthers_15 : decode cX0_countOthers 15 = .ok (.if_icmp .eq 16, 3) := by decide +kernel
theorem dX0_countOthers_18 : decode cX0_countOthers 18 = .ok (.aload_n 0, 1) := by decide +kernel
theorem dX0_countOthers_19 : decode cX0_countOthers 19 = .ok (.iload 4, 2) := by decide +kernel
theorem dX0_countOthers_21 : decode cX0_countOthers 21 = .ok (.iload_n 2, 1) := by decide +kernel
theorem dX0_countOthers_22 : decode cX0_countOthers 22 = .ok (.invokevirtual 32, 3) := by decide +kernel
theorem dX0_countOthers_25 : decode cX0_countOthers 25 = .ok (.ifCond .eq 6, 3) := by decide +kernel
theorem dX0_countOthers_28 : decode cX0_countOthers 28 = .ok (.iinc 3 1, 3) := by decide +kernel
theorem dX0_countOthers_31 : decode cX0_countOthers 31 = .ok (.iinc 4 1, 3) := by decide +kernel
theorem dX0_countOthers_34 : decode cX0_countOthers 34 = .ok (.goto (-29), 3) := by decide +kernel
theorem dX0_countOthers_37 : decode cX0_countOthers 37 = .ok (.iload_n 3, 1) := by decide +kernel
theorem dX0_countOthers_38 : decode cX0_countOthers 38 = .ok (.ireturn, 1) := by decide +kernel
theorem dX0_targetAt_0 : decode cX0_targetAt 0 = .ok (.iconst 0, 1) := by decide +kernel
theorem dX0_targetAt_1 : decode cX0_targetAt 1 = .ok (.istore_n 3, 1) := by decide +kernel
theorem dX0_targetAt_2 : decode cX0_targetAt 2 = .ok (.iconst 0, 1) := by decide +kernel
theorem dX0_targetAt_3 : decode cX0_targetAt 3 = .ok (.istore 4, 2) := by decide +kernel
theorem dX0_targetAt_5 : decode cX0_targetAt 5 = .ok (.iload 4, 2) := by decide +kernel
theorem dX0_targetAt_7 : decode cX0_targetAt 7 = .ok (.aload_n 0, 1) := by decide +kernel
theorem dX0_targetAt_8 : decode cX0_targetAt 8 = .ok (.getfield 24, 3) := by decide +kernel
theorem dX0_targetAt_11 : decode cX0_targetAt 11 = .ok (.if_icmp .ge 39, 3) := by decide +kernel
theorem dX0_targetAt_14 : decode cX0_targetAt 14 = .ok (.aload_n 0, 1) := by decide +kernel
theorem dX0_targetAt_15 : decode cX0_targetAt 15 = .ok (.getfield 21, 3) := by decide +kernel
theorem dX0_targetAt_18 : decode cX0_targetAt 18 = .ok (.iload 4, 2) := by decide +kernel
theorem dX0_targetAt_20 : decode cX0_targetAt 20 = .ok (.iaload, 1) := by decide +kernel
theorem dX0_targetAt_21 : decode cX0_targetAt 21 = .ok (.istore 5, 2) := by decide +kernel
theorem dX0_targetAt_23 : decode cX0_targetAt 23 = .ok (.aload_n 0, 1) := by decide +kernel
theorem dX0_targetAt_24 : decode cX0_targetAt 24 = .ok (.iload 5, 2) := by decide +kernel
theorem dX0_targetAt_26 : decode cX0_targetAt 26 = .ok (.iload_n 2, 1) := by decide +kernel
theorem dX0_targetAt_27 : decode cX0_targetAt 27 = .ok (.invokevirtual 32, 3) := by decide +kernel
theorem dX0_targetAt_30 : decode cX0_targetAt 30 = .ok (.ifCond .eq 14, 3) := by decide +kernel
theorem dX0_targetAt_33 : decode cX0_targetAt 33 = .ok (.iload_n 3, 1) := by decide +kernel
theorem dX0_targetAt_34 : decode cX0_targetAt 34 = .ok (.iload_n 1, 1) := by decide +kernel
theorem dX0_targetAt_35 : decode cX0_targetAt 35 = .ok (.if_icmp .ne 6, 3) := by decide +kernel
theorem dX0_targetAt_38 : decode cX0_targetAt 38 = .ok (.iload 5, 2) := by decide +kernel
theorem dX0_targetAt_40 : decode cX0_targetAt 40 = .ok (.ireturn, 1) := by decide +kernel
theorem dX0_targetAt_41 : decode cX0_targetAt 41 = .ok (.iinc 3 1, 3) := by decide +kernel
theorem dX0_targetAt_44 : decode cX0_targetAt 44 = .ok (.iinc 4 1, 3) := by decide +kernel
theorem dX0_targetAt_47 : decode cX0_targetAt 47 = .ok (.goto (-42), 3) := by decide +kernel
theorem dX0_targetAt_50 : decode cX0_targetAt 50 = .ok (.iconst (-1), 1) := by decide +kernel
theorem dX0_targetAt_51 : decode cX0_targetAt 51 = .ok (.ireturn, 1) := by decide +kernel
theorem dX1_init_0 : decode cX1_init 0 = .ok (.aload_n 0, 1) := by decide +kernel
theorem dX1_init_1 : decode cX1_init 1 = .ok (.invokespecial 3, 3) := by decide +kernel
theorem dX1_init_4 : decode cX1_init 4 = .ok (.aload_n 0, 1) := by decide +kernel
theorem dX1_init_5 : decode cX1_init 5 = .ok (.bipush 12, 2) := by decide +kernel
theorem dX1_init_7 : decode cX1_init 7 = .ok (.newarray .int, 2) := by decide +kernel
theorem dX1_init_9 : decode cX1_init 9 = .ok (.putfield 9, 3) := by decide +kernel
theorem dX1_init_12 : decode cX1_init 12 = .ok (.aload_n 0, 1) := by decide +kernel
theorem dX1_init_13 : decode cX1_init 13 = .ok (.bipush 12, 2) := by decide +kernel
theorem dX1_init_15 : decode cX1_init 15 = .ok (.newarray .int, 2) := by decide +kernel
theorem dX1_init_17 : decode cX1_init 17 = .ok (.putfield 15, 3) := by decide +kernel
theorem dX1_init_20 : decode cX1_init 20 = .ok (.aload_n 0, 1) := by decide +kernel
theorem dX1_init_21 : decode cX1_init 21 = .ok (.bipush 12, 2) := by decide +kernel
theorem dX1_init_23 : decode cX1_init 23 = .ok (.newarray .int, 2) := by decide +kernel
theorem dX1_init_25 : decode cX1_init 25 = .ok (.putfield 18, 3) := by decide +kernel
theorem dX1_init_28 : decode cX1_init 28 = .ok (.aload_n 0, 1) := by decide +kernel
theorem dX1_init_29 : decode cX1_init 29 = .ok (.bipush 12, 2) := by decide +kernel
theorem dX1_init_31 : decode cX1_init 31 = .ok (.newarray .boolean, 2) := by decide +kernel
theorem dX1_init_33 : decode cX1_init 33 = .ok (.putfield 21, 3) := by decide +kernel
theorem dX1_init_36 : decode cX1_init 36 = .ok (.aload_n 0, 1) := by decide +kernel
theorem dX1_init_37 : decode cX1_init 37 = .ok (.iconst 0, 1) := by decide +kernel
theorem dX1_init_38 : decode cX1_init 38 = .ok (.putfield 25, 3) := by decide +kernel
theorem dX1_init_41 : decode cX1_init 41 = .ok (.aload_n 0, 1) := by decide +kernel
theorem dX1_init_42 : decode cX1_init 42 = .ok (.bipush 11, 2) := by decide +kernel
theorem dX1_init_44 : decode cX1_init 44 = .ok (.putfield 29, 3) := by decide +kernel
theorem dX1_init_47 : decode cX1_init 47 = .ok (.aload_n 0, 1) := by decide +kernel
theorem dX1_init_48 : decode cX1_init 48 = .ok (.iconst 0, 1) := by decide +kernel
theorem dX1_init_49 : decode cX1_init 49 = .ok (.putfield 32, 3) := by decide +kernel
theorem dX1_init_52 : decode cX1_init 52 = .ok (.aload_n 0, 1) := by decide +kernel
theorem dX1_init_53 : decode cX1_init 53 = .ok (.iconst (-1), 1) := by decide +kernel
theorem dX1_init_54 : decode cX1_init 54 = .ok (.putfield 35, 3) := by decide +kernel
theorem dX1_init_57 : decode cX1_init 57 = .ok (.aload_n 0, 1) := by decide +kernel
theorem dX1_init_58 : decode cX1_init 58 = .ok (.iconst (-1), 1) := by decide +kernel
theorem dX1_init_59 : decode cX1_init 59 = .ok (.putfield 38, 3) := by decide +kernel
theorem dX1_init_62 : decode cX1_init 62 = .ok (.aload_n 0, 1) := by decide +kernel
theorem dX1_init_63 : decode cX1_init 63 = .ok (.iconst 0, 1) := by decide +kernel
theorem dX1_init_64 : decode cX1_init 64 = .ok (.putfield 41, 3) := by decide +kernel
theorem dX1_init_67 : decode cX1_init 67 = .ok (.return_, 1) := by decide +kernel
theorem dX1_addDevice_0 : decode cX1_addDevice 0 = .ok (.aload_n 0, 1) := by decide +kernel
theorem dX1_addDevice_1 : decode cX1_addDevice 1 = .ok (.iload_n 1, 1) := by decide +kernel
theorem dX1_addDevice_2 : decode cX1_addDevice 2 = .ok (.invokevirtual 45, 3) := by decide +kernel
theorem dX1_addDevice_5 : decode cX1_addDevice 5 = .ok (.iconst (-1), 1) := by decide +kernel
theorem dX1_addDevice_6 : decode cX1_addDevice 6 = .ok (.if_icmp .ne 10, 3) := by decide +kernel
theorem dX1_addDevice_9 : decode cX1_addDevice 9 = .ok (.aload_n 0, 1) := by decide +kernel
theorem dX1_addDevice_10 : decode cX1_addDevice 10 = .ok (.iload_n 1, 1) := by decide +kernel
theorem dX1_addDevice_11 : decode cX1_addDevice 11 = .ok (.iload_n 2, 1) := by decide +kernel
theorem dX1_addDevice_12 : decode cX1_addDevice 12 = .ok (.iconst 0, 1) := by decide +kernel
theorem dX1_addDevice_13 : decode cX1_addDevice 13 = .ok (.invokevirtual 49, 3) := by decide +kernel
theorem dX1_addDevice_16 : decode cX1_addDevice 16 = .ok (.return_, 1) := by decide +kernel
theorem dX1_addEnded_0 : decode cX1_addEnded 0 = .ok (.aload_n 0, 1) := by decide +kernel
theorem dX1_addEnded_1 : decode cX1_addEnded 1 = .ok (.iconst (-1), 1) := by decide +kernel
theorem dX1_addEnded_2 : decode cX1_addEnded 2 = .ok (.iload_n 1, 1) := by decide +kernel
theorem dX1_addEnded_3 : decode cX1_addEnded 3 = .ok (.iload_n 2, 1) := by decide +kernel
theorem dX1_addEnded_4 : decode cX1_addEnded 4 = .ok (.invokevirtual 49, 3) := by decide +kernel
theorem dX1_addEnded_7 : decode cX1_addEnded 7 = .ok (.return_, 1) := by decide +kernel
theorem dX1_add_0 : decode cX1_add 0 = .ok (.aload_n 0, 1) := by decide +kernel
theorem dX1_add_1 : decode cX1_add 1 = .ok (.getfield 25, 3) := by decide +kernel
theorem dX1_add_4 : decode cX1_add 4 = .ok (.bipush 12, 2) := by decide +kernel
theorem dX1_add_6 : decode cX1_add 6 = .ok (.if_icmp .ge 43, 3) := by decide +kernel
theorem dX1_add_9 : decode cX1_add 9 = .ok (.aload_n 0, 1) := by decide +kernel
theorem dX1_add_10 : decode cX1_add 10 = .ok (.getfield 9, 3) := by decide +kernel
theorem dX1_add_13 : decode cX1_add 13 = .ok (.aload_n 0, 1) := by decide +kernel
theorem dX1_add_14 : decode cX1_add 14 = .ok (.getfield 25, 3) := by decide +kernel
theorem dX1_add_17 : decode cX1_add 17 = .ok (.iload_n 1, 1) := by decide +kernel
theorem dX1_add_18 : decode cX1_add 18 = .ok (.iastore, 1) := by decide +kernel
theorem dX1_add_19 : decode cX1_add 19 = .ok (.aload_n 0, 1) := by decide +kernel
theorem dX1_add_20 : decode cX1_add 20 = .ok (.getfield 15, 3) := by decide +kernel
theorem dX1_add_23 : decode cX1_add 23 = .ok (.aload_n 0, 1) := by decide +kernel
theorem dX1_add_24 : decode cX1_add 24 = .ok (.getfield 25, 3) := by decide +kernel
theorem dX1_add_27 : decode cX1_add 27 = .ok (.iload_n 2, 1) := by decide +kernel
theorem dX1_add_28 : decode cX1_add 28 = .ok (.iastore, 1) := by decide +kernel
theorem dX1_add_29 : decode cX1_add 29 = .ok (.aload_n 0, 1) := by decide +kernel
theorem dX1_add_30 : decode cX1_add 30 = .ok (.getfield 18, 3) := by decide +kernel
theorem dX1_add_33 : decode cX1_add 33 = .ok (.aload_n 0, 1) := by decide +kernel
theorem dX1_add_34 : decode cX1_add 34 = .ok (.getfield 25, 3) := by decide +kernel
theorem dX1_add_37 : decode cX1_add 37 = .ok (.iload_n 3, 1) := by decide +kernel
theorem dX1_add_38 : decode cX1_add 38 = .ok (.iastore, 1) := by decide +kernel
theorem dX1_add_39 : decode cX1_add 39 = .ok (.aload_n 0, 1) := by decide +kernel
theorem dX1_add_40 : decode cX1_add 40 = .ok (.dup, 1) := by decide +kernel
theorem dX1_add_41 : decode cX1_add 41 = .ok (.getfield 25, 3) := by decide +kernel
theorem dX1_add_44 : decode cX1_add 44 = .ok (.iconst 1, 1) := by decide +kernel
theorem dX1_add_45 : decode cX1_add 45 = .ok (.iadd, 1) := by decide +kernel
theorem dX1_add_46 : decode cX1_add 46 = .ok (.putfield 25, 3) := by decide +kernel
theorem dX1_add_49 : decode cX1_add 49 = .ok (.return_, 1) := by decide +kernel
theorem dX1_branchOf_0 : decode cX1_branchOf 0 = .ok (.iconst 0, 1) := by decide +kernel
theorem dX1_branchOf_1 : decode cX1_branchOf 1 = .ok (.istore_n 2, 1) := by decide +kernel
theorem dX1_branchOf_2 : decode cX1_branchOf 2 = .ok (.iload_n 2, 1) := by decide +kernel
theorem dX1_branchOf_3 : decode cX1_branchOf 3 = .ok (.aload_n 0, 1) := by decide +kernel
theorem dX1_branchOf_4 : decode cX1_branchOf 4 = .ok (.getfield 25, 3) := by decide +kernel
theorem dX1_branchOf_7 : decode cX1_branchOf 7 = .ok (.if_icmp .ge 21, 3) := by decide +kernel
theorem dX1_branchOf_10 : decode cX1_branchOf 10 = .ok (.aload_n 0, 1) := by decide +kernel
theorem dX1_branchOf_11 : decode cX1_branchOf 11 = .ok (.getfield 9, 3) := by decide +kernel
theorem dX1_branchOf_14 : decode cX1_branchOf 14 = .ok (.iload_n 2, 1) := by decide +kernel
theorem dX1_branchOf_15 : decode cX1_branchOf 15 = .ok (.iaload, 1) := by decide +kernel
theorem dX1_branchOf_16 : decode cX1_branchOf 16 = .ok (.iload_n 1, 1) := by decide +kernel
theorem dX1_branchOf_17 : decode cX1_branchOf 17 = .ok (.if_icmp .ne 5, 3) := by decide +kernel
theorem dX1_branchOf_20 : decode cX1_branchOf 20 = .ok (.iload_n 2, 1) := by decide +kernel
theorem dX1_branchOf_21 : decode cX1_branchOf 21 = .ok (.ireturn, 1) := by decide +kernel
theorem dX1_branchOf_22 : decode cX1_branchOf 22 = .ok (.iinc 2 1, 3) := by decide +kernel
theorem dX1_branchOf_25 : decode cX1_branchOf 25 = .ok (.goto (-23), 3) := by decide +kernel
theorem dX1_branchOf_28 : decode cX1_branchOf 28 = .ok (.iconst (-1), 1) := by decide +kernel
theorem dX1_branchOf_29 : decode cX1_branchOf 29 = .ok (.ireturn, 1) := by decide +kernel
theorem dX1_isStarted_0 : decode cX1_isStarted 0 = .ok (.aload_n 0, 1) := by decide +kernel
theorem dX1_isStarted_1 : decode cX1_isStarted 1 = .ok (.getfield 15, 3) := by decide +kernel
theorem dX1_isStarted_4 : decode cX1_isStarted 4 = .ok (.iload_n 1, 1) := by decide +kernel
theorem dX1_isStarted_5 : decode cX1_isStarted 5 = .ok (.iaload, 1) := by decide +kernel
theorem dX1_isStarted_6 : decode cX1_isStarted 6 = .ok (.aload_n 0, 1) := by decide +kernel
theorem dX1_isStarted_7 : decode cX1_isStarted 7 = .ok (.getfield 29, 3) := by decide +kernel
theorem dX1_isStarted_10 : decode cX1_isStarted 10 = .ok (.if_icmp .lt 7, 3) := by decide +kernel
theorem dX1_isStarted_13 : decode cX1_isStarted 13 = .ok (.iconst 1, 1) := by decide +kernel
theorem dX1_isStarted_14 : decode cX1_isStarted 14 = .ok (.goto 4, 3) := by decide +kernel
theorem dX1_isStarted_17 : decode cX1_isStarted 17 = .ok (.iconst 0, 1) := by decide +kernel
theorem dX1_isStarted_18 : decode cX1_isStarted 18 = .ok (.ireturn, 1) := by decide +kernel
theorem dX1_isEnded_0 : decode cX1_isEnded 0 = .ok (.aload_n 0, 1) := by decide +kernel
theorem dX1_isEnded_1 : decode cX1_isEnded 1 = .ok (.getfield 18, 3) := by decide +kernel
theorem dX1_isEnded_4 : decode cX1_isEnded 4 = .ok (.iload_n 1, 1) := by decide +kernel
theorem dX1_isEnded_5 : decode cX1_isEnded 5 = .ok (.iaload, 1) := by decide +kernel
theorem dX1_isEnded_6 : decode cX1_isEnded 6 = .ok (.sipush 200, 3) := by decide +kernel
theorem dX1_isEnded_9 : decode cX1_isEnded 9 = .ok (.if_icmp .lt 7, 3) := by decide +kernel
theorem dX1_isEnded_12 : decode cX1_isEnded 12 = .ok (.iconst 1, 1) := by decide +kernel
theorem dX1_isEnded_13 : decode cX1_isEnded 13 = .ok (.goto 4, 3) := by decide +kernel
theorem dX1_isEnded_16 : decode cX1_isEnded 16 = .ok (.iconst 0, 1) := by decide +kernel
theorem dX1_isEnded_17 : decode cX1_isEnded 17 = .ok (.ireturn, 1) := by decide +kernel
theorem dX1_isTooMuch_0 : decode cX1_isTooMuch 0 = .ok (.iload_n 2, 1) := by decide +kernel
theorem dX1_isTooMuch_1 : decode cX1_isTooMuch 1 = .ok (.sipush 200, 3) := by decide +kernel
theorem dX1_isTooMuch_4 : decode cX1_isTooMuch 4 = .ok (.if_icmp .lt 14, 3) := by decide +kernel
theorem dX1_isTooMuch_7 : decode cX1_isTooMuch 7 = .ok (.iload_n 2, 1) := by decide +kernel
theorem dX1_isTooMuch_8 : decode cX1_isTooMuch 8 = .ok (.sipush 300, 3) := by decide +kernel
theorem dX1_isTooMuch_11 : decode cX1_isTooMuch 11 = .ok (.if_icmp .ge 7, 3) := by decide +kernel
theorem dX1_isTooMuch_14 : decode cX1_isTooMuch 14 = .ok (.iconst 1, 1) := by decide +kernel
theorem dX1_isTooMuch_15 : decode cX1_isTooMuch 15 = .ok (.goto 4, 3) := by decide +kernel
theorem dX1_isTooMuch_18 : decode cX1_isTooMuch 18 = .ok (.iconst 0, 1) := by decide +kernel
theorem dX1_isTooMuch_19 : decode cX1_isTooMuch 19 = .ok (.istore_n 3, 1) := by decide +kernel
theorem dX1_isTooMuch_20 : decode cX1_isTooMuch 20 = .ok (.aload_n 0, 1) := by decide +kernel
theorem dX1_isTooMuch_21 : decode cX1_isTooMuch 21 = .ok (.getfield 18, 3) := by decide +kernel
theorem dX1_isTooMuch_24 : decode cX1_isTooMuch 24 = .ok (.iload_n 1, 1) := by decide +kernel
theorem dX1_isTooMuch_25 : decode cX1_isTooMuch 25 = .ok (.iaload, 1) := by decide +kernel
theorem dX1_isTooMuch_26 : decode cX1_isTooMuch 26 = .ok (.sipush 487, 3) := by decide +kernel
theorem dX1_isTooMuch_29 : decode cX1_isTooMuch 29 = .ok (.if_icmp .eq 15, 3) := by decide +kernel
theorem dX1_isTooMuch_32 : decode cX1_isTooMuch 32 = .ok (.aload_n 0, 1) := by decide +kernel
theorem dX1_isTooMuch_33 : decode cX1_isTooMuch 33 = .ok (.getfield 18, 3) := by decide +kernel
theorem dX1_isTooMuch_36 : decode cX1_isTooMuch 36 = .ok (.iload_n 1, 1) := by decide +kernel
theorem dX1_isTooMuch_37 : decode cX1_isTooMuch 37 = .ok (.iaload, 1) := by decide +kernel
theorem dX1_isTooMuch_38 : decode cX1_isTooMuch 38 = .ok (.sipush 408, 3) := by decide +kernel
theorem dX1_isTooMuch_41 : decode cX1_isTooMuch 41 = .ok (.if_icmp .ne 7, 3) := by decide +kernel
theorem dX1_isTooMuch_44 : decode cX1_isTooMuch 44 = .ok (.iconst 1, 1) := by decide +kernel
theorem dX1_isTooMuch_45 : decode cX1_isTooMuch 45 = .ok (.goto 4, 3) := by decide +kernel
theorem dX1_isTooMuch_48 : decode cX1_isTooMuch 48 = .ok (.iconst 0, 1) := by decide +kernel
theorem dX1_isTooMuch_49 : decode cX1_isTooMuch 49 = .ok (.istore 4, 2) := by decide +kernel
theorem dX1_isTooMuch_51 : decode cX1_isTooMuch 51 = .ok (.iload_n 3, 1) := by decide +kernel
theorem dX1_isTooMuch_52 : decode cX1_isTooMuch 52 = .ok (.ifCond .eq 21, 3) := by decide +kernel
theorem dX1_isTooMuch_55 : decode cX1_isTooMuch 55 = .ok (.iload 4, 2) := by decide +kernel
theorem dX1_isTooMuch_57 : decode cX1_isTooMuch 57 = .ok (.ifCond .eq 16, 3) := by decide +kernel
theorem dX1_isTooMuch_60 : decode cX1_isTooMuch 60 = .ok (.aload_n 0, 1) := by decide +kernel
theorem dX1_isTooMuch_61 : decode cX1_isTooMuch 61 = .ok (.getfield 21, 3) := by decide +kernel
theorem dX1_isTooMuch_64 : decode cX1_isTooMuch 64 = .ok (.iload_n 1, 1) := by decide +kernel
theorem dX1_isTooMuch_65 : decode cX1_isTooMuch 65 = .ok (.baload, 1) := by decide +kernel
theorem dX1_isTooMuch_66 : decode cX1_isTooMuch 66 = .ok (.ifCond .ne 7, 3) := by decide +kernel
theorem dX1_isTooMuch_69 : decode cX1_isTooMuch 69 = .ok (.iconst 1, 1) := by decide +kernel
theorem dX1_isTooMuch_70 : decode cX1_isTooMuch 70 = .ok (.goto 4, 3) := by decide +kernel
theorem dX1_isTooMuch_73 : decode cX1_isTooMuch 73 = .ok (.iconst 0, 1) := by decide +kernel
theorem dX1_isTooMuch_74 : decode cX1_isTooMuch 74 = .ok (.ireturn, 1) := by decide +kernel
theorem dX1_begin_0 : decode cX1_begin 0 = .ok (.aload_n 0, 1) := by decide +kernel
theorem dX1_begin_1 : decode cX1_begin 1 = .ok (.getfield 25, 3) := by decide +kernel
theorem dX1_begin_4 : decode cX1_begin 4 = .ok (.ifCond .ne 13, 3) := by decide +kernel
theorem dX1_begin_7 : decode cX1_begin 7 = .ok (.aload_n 0, 1) := by decide +kernel
theorem dX1_begin_8 : decode cX1_begin 8 = .ok (.sipush 480, 3) := by decide +kernel
theorem dX1_begin_11 : decode cX1_begin 11 = .ok (.putfield 38, 3) := by decide +kernel
theorem dX1_begin_14 : decode cX1_begin 14 = .ok (.goto 8, 3) := by decide +kernel
theorem dX1_begin_17 : decode cX1_begin 17 = .ok (.aload_n 0, 1) := by decide +kernel
theorem dX1_begin_18 : decode cX1_begin 18 = .ok (.iload_n 1, 1) := by decide +kernel
theorem dX1_begin_19 : decode cX1_begin 19 = .ok (.invokevirtual 53, 3) := by decide +kernel
theorem dX1_begin_22 : decode cX1_begin 22 = .ok (.return_, 1) := by decide +kernel
theorem dX1_goOn_0 : decode cX1_goOn 0 = .ok (.aload_n 0, 1) := by decide +kernel
theorem dX1_goOn_1 : decode cX1_goOn 1 = .ok (.getfield 29, 3) := by decide +kernel
theorem dX1_goOn_4 : decode cX1_goOn 4 = .ok (.iconst 1, 1) := by decide +kernel
theorem dX1_goOn_5 : decode cX1_goOn 5 = .ok (.isub, 1) := by decide +kernel
theorem dX1_goOn_6 : decode cX1_goOn 6 = .ok (.istore_n 2, 1) := by decide +kernel
theorem dX1_goOn_7 : decode cX1_goOn 7 = .ok (.iload_n 2, 1) := by decide +kernel
theorem dX1_goOn_8 : decode cX1_goOn 8 = .ok (.ifCond .lt 22, 3) := by decide +kernel
theorem dX1_goOn_11 : decode cX1_goOn 11 = .ok (.aload_n 0, 1) := by decide +kernel
theorem dX1_goOn_12 : decode cX1_goOn 12 = .ok (.invokevirtual 57, 3) := by decide +kernel
theorem dX1_goOn_15 : decode cX1_goOn 15 = .ok (.ifCond .ne 15, 3) := by decide +kernel
theorem dX1_goOn_18 : decode cX1_goOn 18 = .ok (.aload_n 0, 1) := by decide +kernel
theorem dX1_goOn_19 : decode cX1_goOn 19 = .ok (.iload_n 2, 1) := by decide +kernel
theorem dX1_goOn_20 : decode cX1_goOn 20 = .ok (.iload_n 1, 1) := by decide +kernel
theorem dX1_goOn_21 : decode cX1_goOn 21 = .ok (.invokevirtual 61, 3) := by decide +kernel
theorem dX1_goOn_24 : decode cX1_goOn 24 = .ok (.iinc 2 (-1), 3) := by decide +kernel
theorem dX1_goOn_27 : decode cX1_goOn 27 = .ok (.goto (-20), 3) := by decide +kernel
theorem dX1_goOn_30 : decode cX1_goOn 30 = .ok (.aload_n 0, 1) := by decide +kernel
theorem dX1_goOn_31 : decode cX1_goOn 31 = .ok (.invokevirtual 57, 3) := by decide +kernel
theorem dX1_goOn_34 : decode cX1_goOn 34 = .ok (.ifCond .ne 11, 3) := by decide +kernel
theorem dX1_goOn_37 : decode cX1_goOn 37 = .ok (.aload_n 0, 1) := by decide +kernel
theorem dX1_goOn_38 : decode cX1_goOn 38 = .ok (.aload_n 0, 1) := by decide +kernel
theorem dX1_goOn_39 : decode cX1_goOn 39 = .ok (.invokevirtual 65, 3) := by decide +kernel
theorem dX1_goOn_42 : decode cX1_goOn 42 = .ok (.putfield 38, 3) := by decide +kernel
theorem dX1_goOn_45 : decode cX1_goOn 45 = .ok (.return_, 1) := by decide +kernel
theorem dX1_isWaiting_0 : decode cX1_isWaiting 0 = .ok (.iconst 0, 1) := by decide +kernel
theorem dX1_isWaiting_1 : decode cX1_isWaiting 1 = .ok (.istore_n 1, 1) := by decide +kernel
theorem dX1_isWaiting_2 : decode cX1_isWaiting 2 = .ok (.iload_n 1, 1) := by decide +kernel
theorem dX1_isWaiting_3 : decode cX1_isWaiting 3 = .ok (.aload_n 0, 1) := by decide +kernel
theorem dX1_isWaiting_4 : decode cX1_isWaiting 4 = .ok (.getfield 25, 3) := by decide +kernel
theorem dX1_isWaiting_7 : decode cX1_isWaiting 7 = .ok (.if_icmp .ge 27, 3) := by decide +kernel
theorem dX1_isWaiting_10 : decode cX1_isWaiting 10 = .ok (.aload_n 0, 1) := by decide +kernel
theorem dX1_isWaiting_11 : decode cX1_isWaiting 11 = .ok (.iload_n 1, 1) := by decide +kernel
theorem dX1_isWaiting_12 : decode cX1_isWaiting 12 = .ok (.invokevirtual 69, 3) := by decide +kernel
theorem dX1_isWaiting_15 : decode cX1_isWaiting 15 = .ok (.ifCond .eq 13, 3) := by decide +kernel
theorem dX1_isWaiting_18 : decode cX1_isWaiting 18 = .ok (.aload_n 0, 1) := by decide +kernel
theorem dX1_isWaiting_19 : decode cX1_isWaiting 19 = .ok (.iload_n 1, 1) := by decide +kernel
theorem dX1_isWaiting_20 : decode cX1_isWaiting 20 = .ok (.invokevirtual 73, 3) := by decide +kernel
theorem dX1_isWaiting_23 : decode cX1_isWaiting 23 = .ok (.ifCond .ne 5, 3) := by decide +kernel
theorem dX1_isWaiting_26 : decode cX1_isWaiting 26 = .ok (.iconst 1, 1) := by decide +kernel
theorem dX1_isWaiting_27 : decode cX1_isWaiting 27 = .ok (.ireturn, 1) := by decide +kernel
theorem dX1_isWaiting_28 : decode cX1_isWaiting 28 = .ok (.iinc 1 1, 3) := by decide +kernel
theorem dX1_isWaiting_31 : decode cX1_isWaiting 31 = .ok (.goto (-29), 3) := by decide +kernel
theorem dX1_isWaiting_34 : decode cX1_isWaiting 34 = .ok (.iconst 0, 1) := by decide +kernel
theorem dX1_isWaiting_35 : decode cX1_isWaiting 35 = .ok (.ireturn, 1) := by decide +kernel
theorem dX1_startGroup_0 : decode cX1_startGroup 0 = .ok (.aload_n 0, 1) := by decide +kernel
theorem dX1_startGroup_1 : decode cX1_startGroup 1 = .ok (.iload_n 1, 1) := by decide +kernel
theorem dX1_startGroup_2 : decode cX1_startGroup 2 = .ok (.putfield 29, 3) := by decide +kernel
theorem dX1_startGroup_5 : decode cX1_startGroup 5 = .ok (.aload_n 0, 1) := by decide +kernel
theorem dX1_startGroup_6 : decode cX1_startGroup 6 = .ok (.iload_n 2, 1) := by decide +kernel
theorem dX1_startGroup_7 : decode cX1_startGroup 7 = .ok (.putfield 32, 3) := by decide +kernel
theorem dX1_startGroup_10 : decode cX1_startGroup 10 = .ok (.iconst 0, 1) := by decide +kernel
theorem dX1_startGroup_11 : decode cX1_startGroup 11 = .ok (.istore_n 3, 1) := by decide +kernel
theorem dX1_startGroup_12 : decode cX1_startGroup 12 = .ok (.iload_n 3, 1) := by decide +kernel
theorem dX1_startGroup_13 : decode cX1_startGroup 13 = .ok (.aload_n 0, 1) := by decide +kernel
theorem dX1_startGroup_14 : decode cX1_startGroup 14 = .ok (.getfield 25, 3) := by decide +kernel
theorem dX1_startGroup_17 : decode cX1_startGroup 17 = .ok (.if_icmp .ge 35, 3) := by decide +kernel
theorem dX1_startGroup_20 : decode cX1_startGroup 20 = .ok (.aload_n 0, 1) := by decide +kernel
theorem dX1_startGroup_21 : decode cX1_startGroup 21 = .ok (.getfield 15, 3) := by decide +kernel
theorem dX1_startGroup_24 : decode cX1_startGroup 24 = .ok (.iload_n 3, 1) := by decide +kernel
theorem dX1_startGroup_25 : decode cX1_startGroup 25 = .ok (.iaload, 1) := by decide +kernel
theorem dX1_startGroup_26 : decode cX1_startGroup 26 = .ok (.iload_n 1, 1) := by decide +kernel
theorem dX1_startGroup_27 : decode cX1_startGroup 27 = .ok (.if_icmp .ne 19, 3) := by decide +kernel
theorem dX1_startGroup_30 : decode cX1_startGroup 30 = .ok (.aload_n 0, 1) := by decide +kernel
theorem dX1_startGroup_31 : decode cX1_startGroup 31 = .ok (.iload_n 3, 1) := by decide +kernel
theorem dX1_startGroup_32 : decode cX1_startGroup 32 = .ok (.invokevirtual 73, 3) := by decide +kernel
theorem dX1_startGroup_35 : decode cX1_startGroup 35 = .ok (.ifCond .ne 11, 3) := by decide +kernel
theorem dX1_startGroup_38 : decode cX1_startGroup 38 = .ok (.aload_n 0, 1) := by decide +kernel
theorem dX1_startGroup_39 : decode cX1_startGroup 39 = .ok (.getfield 18, 3) := by decide +kernel
theorem dX1_startGroup_42 : decode cX1_startGroup 42 = .ok (.iload_n 3, 1) := by decide +kernel
theorem dX1_startGroup_43 : decode cX1_startGroup 43 = .ok (.bipush 100, 2) := by decide +kernel
theorem dX1_startGroup_45 : decode cX1_startGroup 45 = .ok (.iastore, 1) := by decide +kernel
theorem dX1_startGroup_46 : decode cX1_startGroup 46 = .ok (.iinc 3 1, 3) := by decide +kernel
theorem dX1_startGroup_49 : decode cX1_startGroup 49 = .ok (.goto (-37), 3) := by decide +kernel
theorem dX1_startGroup_52 : decode cX1_startGroup 52 = .ok (.return_, 1) := by decide +kernel
theorem dX1_takeAnswer_0 : decode cX1_takeAnswer 0 = .ok (.aload_n 0, 1) := by decide +kernel
theorem dX1_takeAnswer_1 : decode cX1_takeAnswer 1 = .ok (.getfield 18, 3) := by decide +kernel
theorem dX1_takeAnswer_4 : decode cX1_takeAnswer 4 = .ok (.iload_n 1, 1) := by decide +kernel
theorem dX1_takeAnswer_5 : decode cX1_takeAnswer 5 = .ok (.iload_n 2, 1) := by decide +kernel
theorem dX1_takeAnswer_6 : decode cX1_takeAnswer 6 = .ok (.iastore, 1) := by decide +kernel
theorem dX1_takeAnswer_7 : decode cX1_takeAnswer 7 = .ok (.iload_n 2, 1) := by decide +kernel
theorem dX1_takeAnswer_8 : decode cX1_takeAnswer 8 = .ok (.sipush 180, 3) := by decide +kernel
theorem dX1_takeAnswer_11 : decode cX1_takeAnswer 11 = .ok (.if_icmp .ne 4, 3) := by decide +kernel
theorem dX1_takeAnswer_14 : decode cX1_takeAnswer 14 = .ok (.return_, 1) := by decide +kernel
theorem dX1_takeAnswer_15 : decode cX1_takeAnswer 15 = .ok (.iload_n 2, 1) := by decide +kernel
theorem dX1_takeAnswer_16 : decode cX1_takeAnswer 16 = .ok (.sipush 300, 3) := by decide +kernel
theorem dX1_takeAnswer_19 : decode cX1_takeAnswer 19 = .ok (.if_icmp .ge 21, 3) := by decide +kernel
theorem dX1_takeAnswer_22 : decode cX1_takeAnswer 22 = .ok (.aload_n 0, 1) := by decide +kernel
theorem dX1_takeAnswer_23 : decode cX1_takeAnswer 23 = .ok (.iload_n 1, 1) := by decide +kernel
theorem dX1_takeAnswer_24 : decode cX1_takeAnswer 24 = .ok (.putfield 35, 3) := by decide +kernel
theorem dX1_takeAnswer_27 : decode cX1_takeAnswer 27 = .ok (.aload_n 0, 1) := by decide +kernel
theorem dX1_takeAnswer_28 : decode cX1_takeAnswer 28 = .ok (.invokevirtual 76, 3) := by decide +kernel
theorem dX1_takeAnswer_31 : decode cX1_takeAnswer 31 = .ok (.pop, 1) := by decide +kernel
theorem dX1_takeAnswer_32 : decode cX1_takeAnswer 32 = .ok (.aload_n 0, 1) := by decide +kernel
theorem dX1_takeAnswer_33 : decode cX1_takeAnswer 33 = .ok (.iload_n 2, 1) := by decide +kernel
theorem dX1_takeAnswer_34 : decode cX1_takeAnswer 34 = .ok (.putfield 38, 3) := by decide +kernel
theorem dX1_takeAnswer_37 : decode cX1_takeAnswer 37 = .ok (.goto 31, 3) := by decide +kernel
theorem dX1_takeAnswer_40 : decode cX1_takeAnswer 40 = .ok (.iload_n 2, 1) := by decide +kernel
theorem dX1_takeAnswer_41 : decode cX1_takeAnswer 41 = .ok (.sipush 600, 3) := by decide +kernel
theorem dX1_takeAnswer_44 : decode cX1_takeAnswer 44 = .ok (.if_icmp .lt 19, 3) := by decide +kernel
theorem dX1_takeAnswer_47 : decode cX1_takeAnswer 47 = .ok (.aload_n 0, 1) := by decide +kernel
theorem dX1_takeAnswer_48 : decode cX1_takeAnswer 48 = .ok (.invokevirtual 76, 3) := by decide +kernel
theorem dX1_takeAnswer_51 : decode cX1_takeAnswer 51 = .ok (.pop, 1) := by decide +kernel
theorem dX1_takeAnswer_52 : decode cX1_takeAnswer 52 = .ok (.aload_n 0, 1) := by decide +kernel
theorem dX1_takeAnswer_53 : decode cX1_takeAnswer 53 = .ok (.aload_n 0, 1) := by decide +kernel
theorem dX1_takeAnswer_54 : decode cX1_takeAnswer 54 = .ok (.invokevirtual 65, 3) := by decide +kernel
theorem dX1_takeAnswer_57 : decode cX1_takeAnswer 57 = .ok (.putfield 38, 3) := by decide +kernel
theorem dX1_takeAnswer_60 : decode cX1_takeAnswer 60 = .ok (.goto 8, 3) := by decide +kernel
theorem dX1_takeAnswer_63 : decode cX1_takeAnswer 63 = .ok (.aload_n 0, 1) := by decide +kernel
theorem dX1_takeAnswer_64 : decode cX1_takeAnswer 64 = .ok (.iload_n 3, 1) := by decide +kernel
theorem dX1_takeAnswer_65 : decode cX1_takeAnswer 65 = .ok (.invokevirtual 53, 3) := by decide +kernel
theorem dX1_takeAnswer_68 : decode cX1_takeAnswer 68 = .ok (.return_, 1) := by decide +kernel
theorem dX1_cancelAll_0 : decode cX1_cancelAll 0 = .ok (.aload_n 0, 1) := by decide +kernel
theorem dX1_cancelAll_1 : decode cX1_cancelAll 1 = .ok (.invokevirtual 76, 3) := by decide +kernel
theorem dX1_cancelAll_4 : decode cX1_cancelAll 4 = .ok (.istore_n 1, 1) := by decide +kernel
theorem dX1_cancelAll_5 : decode cX1_cancelAll 5 = .ok (.aload_n 0, 1) := by decide +kernel
theorem dX1_cancelAll_6 : decode cX1_cancelAll 6 = .ok (.iconst 1, 1) := by decide +kernel
theorem dX1_cancelAll_7 : decode cX1_cancelAll 7 = .ok (.putfield 41, 3) := by decide +kernel
theorem dX1_cancelAll_10 : decode cX1_cancelAll 10 = .ok (.aload_n 0, 1) := by decide +kernel
theorem dX1_cancelAll_11 : decode cX1_cancelAll 11 = .ok (.sipush 487, 3) := by decide +kernel
theorem dX1_cancelAll_14 : decode cX1_cancelAll 14 = .ok (.putfield 38, 3) := by decide +kernel
theorem dX1_cancelAll_17 : decode cX1_cancelAll 17 = .ok (.iload_n 1, 1) := by decide +kernel
theorem dX1_cancelAll_18 : decode cX1_cancelAll 18 = .ok (.ireturn, 1) := by decide +kernel
theorem dX1_endOpen_0 : decode cX1_endOpen 0 = .ok (.iconst 0, 1) := by decide +kernel
theorem dX1_endOpen_1 : decode cX1_endOpen 1 = .ok (.istore_n 1, 1) := by decide +kernel
theorem dX1_endOpen_2 : decode cX1_endOpen 2 = .ok (.iconst 0, 1) := by decide +kernel
theorem dX1_endOpen_3 : decode cX1_endOpen 3 = .ok (.istore_n 2, 1) := by decide +kernel
theorem dX1_endOpen_4 : decode cX1_endOpen 4 = .ok (.iload_n 2, 1) := by decide +kernel
theorem dX1_endOpen_5 : decode cX1_endOpen 5 = .ok (.aload_n 0, 1) := by decide +kernel
theorem dX1_endOpen_6 : decode cX1_endOpen 6 = .ok (.getfield 25, 3) := by decide +kernel
theorem dX1_endOpen_9 : decode cX1_endOpen 9 = .ok (.if_icmp .ge 29, 3) := by decide +kernel
theorem dX1_endOpen_12 : decode cX1_endOpen 12 = .ok (.aload_n 0, 1) := by decide +kernel
theorem dX1_endOpen_13 : decode cX1_endOpen 13 = .ok (.iload_n 2, 1) := by decide +kernel
theorem dX1_endOpen_14 : decode cX1_endOpen 14 = .ok (.invokevirtual 73, 3) := by decide +kernel
theorem dX1_endOpen_17 : decode cX1_endOpen 17 = .ok (.ifCond .ne 15, 3) := by decide +kernel
theorem dX1_endOpen_20 : decode cX1_endOpen 20 = .ok (.aload_n 0, 1) := by decide +kernel
theorem dX1_endOpen_21 : decode cX1_endOpen 21 = .ok (.getfield 18, 3) := by decide +kernel
theorem dX1_endOpen_24 : decode cX1_endOpen 24 = .ok (.iload_n 2, 1) := by decide +kernel
theorem dX1_endOpen_25 : decode cX1_endOpen 25 = .ok (.sipush 487, 3) := by decide +kernel
theorem dX1_endOpen_28 : decode cX1_endOpen 28 = .ok (.iastore, 1) := by decide +kernel
theorem dX1_endOpen_29 : decode cX1_endOpen 29 = .ok (.iinc 1 1, 3) := by decide +kernel
theorem dX1_endOpen_32 : decode cX1_endOpen 32 = .ok (.iinc 2 1, 3) := by decide +kernel
theorem dX1_endOpen_35 : decode cX1_endOpen 35 = .ok (.goto (-31), 3) := by decide +kernel
theorem dX1_endOpen_38 : decode cX1_endOpen 38 = .ok (.iload_n 1, 1) := by decide +kernel
theorem dX1_endOpen_39 : decode cX1_endOpen 39 = .ok (.ireturn, 1) := by decide +kernel
theorem dX1_endsWithTick_0 : decode cX1_endsWithTick 0 = .ok (.aload_n 0, 1) := by decide +kernel
theorem dX1_endsWithTick_1 : decode cX1_endsWithTick 1 = .ok (.getfield 38, 3) := by decide +kernel
theorem dX1_endsWithTick_4 : decode cX1_endsWithTick 4 = .ok (.iconst (-1), 1) := by decide +kernel
theorem dX1_endsWithTick_5 : decode cX1_endsWithTick 5 = .ok (.if_icmp .ne 14, 3) := by decide +kernel
theorem dX1_endsWithTick_8 : decode cX1_endsWithTick 8 = .ok (.iload_n 1, 1) := by decide +kernel
theorem dX1_endsWithTick_9 : decode cX1_endsWithTick 9 = .ok (.aload_n 0, 1) := by decide +kernel
theorem dX1_endsWithTick_10 : decode cX1_endsWithTick 10 = .ok (.getfield 32, 3) := by decide +kernel
theorem dX1_endsWithTick_13 : decode cX1_endsWithTick 13 = .ok (.isub, 1) := by decide +kernel
theorem dX1_endsWithTick_14 : decode cX1_endsWithTick 14 = .ok (.bipush 10, 2) := by decide +kernel
theorem dX1_endsWithTick_16 : decode cX1_endsWithTick 16 = .ok (.if_icmp .ge 5, 3) := by decide +kernel
theorem dX1_endsWithTick_19 : decode cX1_endsWithTick 19 = .ok (.iconst 0, 1) := by decide +kernel
theorem dX1_endsWithTick_20 : decode cX1_endsWithTick 20 = .ok (.ireturn, 1) := by decide +kernel
theorem dX1_endsWithTick_21 : decode cX1_endsWithTick 21 = .ok (.iconst 0, 1) := by decide +kernel
theorem dX1_endsWithTick_22 : decode cX1_endsWithTick 22 = .ok (.istore_n 2, 1) := by decide +kernel
theorem dX1_endsWithTick_23 : decode cX1_endsWithTick 23 = .ok (.iload_n 2, 1) := by decide +kernel
theorem dX1_endsWithTick_24 : decode cX1_endsWithTick 24 = .ok (.aload_n 0, 1) := by decide +kernel
theorem dX1_endsWithTick_25 : decode cX1_endsWithTick 25 = .ok (.getfield 25, 3) := by decide +kernel
theorem dX1_endsWithTick_28 : decode cX1_endsWithTick 28 = .ok (.if_icmp .ge 34, 3) := by decide +kernel
theorem dX1_endsWithTick_31 : decode cX1_endsWithTick 31 = .ok (.aload_n 0, 1) := by decide +kernel
theorem dX1_endsWithTick_32 : decode cX1_endsWithTick 32 = .ok (.iload_n 2, 1) := by decide +kernel
theorem dX1_endsWithTick_33 : decode cX1_endsWithTick 33 = .ok (.invokevirtual 69, 3) := by decide +kernel
theorem dX1_endsWithTick_36 : decode cX1_endsWithTick 36 = .ok (.ifCond .eq 20, 3) := by decide +kernel
theorem dX1_endsWithTick_39 : decode cX1_endsWithTick 39 = .ok (.aload_n 0, 1) := by decide +kernel
theorem dX1_endsWithTick_40 : decode cX1_endsWithTick 40 = .ok (.iload_n 2, 1) := by decide +kernel
theorem dX1_endsWithTick_41 : decode cX1_endsWithTick 41 = .ok (.invokevirtual 73, 3) := by decide +kernel
theorem dX1_endsWithTick_44 : decode cX1_endsWithTick 44 = .ok (.ifCond .ne 12, 3) := by decide +kernel
theorem dX1_endsWithTick_47 : decode cX1_endsWithTick 47 = .ok (.aload_n 0, 1) := by decide +kernel
theorem dX1_endsWithTick_48 : decode cX1_endsWithTick 48 = .ok (.getfield 18, 3) := by decide +kernel
theorem dX1_endsWithTick_51 : decode cX1_endsWithTick 51 = .ok (.iload_n 2, 1) := by decide +kernel
theorem dX1_endsWithTick_52 : decode cX1_endsWithTick 52 = .ok (.sipush 408, 3) := by decide +kernel
theorem dX1_endsWithTick_55 : decode cX1_endsWithTick 55 = .ok (.iastore, 1) := by decide +kernel
theorem dX1_endsWithTick_56 : decode cX1_endsWithTick 56 = .ok (.iinc 2 1, 3) := by decide +kernel
theorem dX1_endsWithTick_59 : decode cX1_endsWithTick 59 = .ok (.goto (-36), 3) := by decide +kernel
theorem dX1_endsWithTick_62 : decode cX1_endsWithTick 62 = .ok (.aload_n 0, 1) := by decide +kernel
theorem dX1_endsWithTick_63 : decode cX1_endsWithTick 63 = .ok (.iload_n 1, 1) := by decide +kernel
theorem dX1_endsWithTick_64 : decode cX1_endsWithTick 64 = .ok (.invokevirtual 53, 3) := by decide +kernel
theorem dX1_endsWithTick_67 : decode cX1_endsWithTick 67 = .ok (.aload_n 0, 1) := by decide +kernel
theorem dX1_endsWithTick_68 : decode cX1_endsWithTick 68 = .ok (.getfield 38, 3) := by decide +kernel
theorem dX1_endsWithTick_71 : decode cX1_endsWithTick 71 = .ok (.iconst (-1), 1) := by decide +kernel
theorem dX1_endsWithTick_72 : decode cX1_endsWithTick 72 = .ok (.if_icmp .eq 7, 3) := by decide +kernel
theorem dX1_endsWithTick_75 : decode cX1_endsWithTick 75 = .ok (.iconst 1, 1) := by decide +kernel
theorem dX1_endsWithTick_76 : decode cX1_endsWithTick 76 = .ok (.goto 4, 3) := by decide +kernel
theorem dX1_endsWithTick_79 : decode cX1_endsWithTick 79 = .ok (.iconst 0, 1) := by decide +kernel
theorem dX1_endsWithTick_80 : decode cX1_endsWithTick 80 = .ok (.ireturn, 1) := by decide +kernel
theorem dX1_bestEnd_0 : decode cX1_bestEnd 0 = .ok (.iconst (-1), 1) := by decide +kernel
theorem dX1_bestEnd_1 : decode cX1_bestEnd 1 = .ok (.istore_n 1, 1) := by decide +kernel
theorem dX1_bestEnd_2 : decode cX1_bestEnd 2 = .ok (.iconst (-1), 1) := by decide +kernel
theorem dX1_bestEnd_3 : decode cX1_bestEnd 3 = .ok (.istore_n 2, 1) := by decide +kernel
theorem dX1_bestEnd_4 : decode cX1_bestEnd 4 = .ok (.iconst 0, 1) := by decide +kernel
theorem dX1_bestEnd_5 : decode cX1_bestEnd 5 = .ok (.istore_n 3, 1) := by decide +kernel
theorem dX1_bestEnd_6 : decode cX1_bestEnd 6 = .ok (.iload_n 3, 1) := by decide +kernel
theorem dX1_bestEnd_7 : decode cX1_bestEnd 7 = .ok (.aload_n 0, 1) := by decide +kernel
theorem dX1_bestEnd_8 : decode cX1_bestEnd 8 = .ok (.getfield 25, 3) := by decide +kernel
theorem dX1_bestEnd_11 : decode cX1_bestEnd 11 = .ok (.if_icmp .ge 49, 3) := by decide +kernel
theorem dX1_bestEnd_14 : decode cX1_bestEnd 14 = .ok (.aload_n 0, 1) := by decide +kernel
theorem dX1_bestEnd_15 : decode cX1_bestEnd 15 = .ok (.getfield 18, 3) := by decide +kernel
theorem dX1_bestEnd_18 : decode cX1_bestEnd 18 = .ok (.iload_n 3, 1) := by decide +kernel
theorem dX1_bestEnd_19 : decode cX1_bestEnd 19 = .ok (.iaload, 1) := by decide +kernel
theorem dX1_bestEnd_20 : decode cX1_bestEnd 20 = .ok (.istore 4, 2) := by decide +kernel
theorem dX1_bestEnd_22 : decode cX1_bestEnd 22 = .ok (.iload 4, 2) := by decide +kernel
theorem dX1_bestEnd_24 : decode cX1_bestEnd 24 = .ok (.sipush 487, 3) := by decide +kernel
theorem dX1_bestEnd_27 : decode cX1_bestEnd 27 = .ok (.if_icmp .eq 27, 3) := by decide +kernel
theorem dX1_bestEnd_30 : decode cX1_bestEnd 30 = .ok (.iload_n 1, 1) := by decide +kernel
theorem dX1_bestEnd_31 : decode cX1_bestEnd 31 = .ok (.iconst (-1), 1) := by decide +kernel
theorem dX1_bestEnd_32 : decode cX1_bestEnd 32 = .ok (.if_icmp .ne 8, 3) := by decide +kernel
theorem dX1_bestEnd_35 : decode cX1_bestEnd 35 = .ok (.iload 4, 2) := by decide +kernel
theorem dX1_bestEnd_37 : decode cX1_bestEnd 37 = .ok (.goto 9, 3) := by decide +kernel
theorem dX1_bestEnd_40 : decode cX1_bestEnd 40 = .ok (.iload_n 1, 1) := by decide +kernel
theorem dX1_bestEnd_41 : decode cX1_bestEnd 41 = .ok (.iload 4, 2) := by decide +kernel
theorem dX1_bestEnd_43 : decode cX1_bestEnd 43 = .ok (.invokestatic 79, 3) := by decide +kernel
theorem dX1_bestEnd_46 : decode cX1_bestEnd 46 = .ok (.istore_n 1, 1) := by decide +kernel
theorem dX1_bestEnd_47 : decode cX1_bestEnd 47 = .ok (.iload_n 2, 1) := by decide +kernel
theorem dX1_bestEnd_48 : decode cX1_bestEnd 48 = .ok (.iload 4, 2) := by decide +kernel
theorem dX1_bestEnd_50 : decode cX1_bestEnd 50 = .ok (.invokestatic 85, 3) := by decide +kernel
theorem dX1_bestEnd_53 : decode cX1_bestEnd 53 = .ok (.istore_n 2, 1) := by decide +kernel
theorem dX1_bestEnd_54 : decode cX1_bestEnd 54 = .ok (.iinc 3 1, 3) := by decide +kernel
theorem dX1_bestEnd_57 : decode cX1_bestEnd 57 = .ok (.goto (-51), 3) := by decide +kernel
theorem dX1_bestEnd_60 : decode cX1_bestEnd 60 = .ok (.iload_n 2, 1) := by decide +kernel
theorem dX1_bestEnd_61 : decode cX1_bestEnd 61 = .ok (.sipush 600, 3) := by decide +kernel
theorem dX1_bestEnd_64 : decode cX1_bestEnd 64 = .ok (.if_icmp .lt 5, 3) := by decide +kernel
theorem dX1_bestEnd_67 : decode cX1_bestEnd 67 = .ok (.iload_n 2, 1) := by decide +kernel
theorem dX1_bestEnd_68 : decode cX1_bestEnd 68 = .ok (.ireturn, 1) := by decide +kernel
theorem dX1_bestEnd_69 : decode cX1_bestEnd 69 = .ok (.iload_n 1, 1) := by decide +kernel
theorem dX1_bestEnd_70 : decode cX1_bestEnd 70 = .ok (.iconst (-1), 1) := by decide +kernel
theorem dX1_bestEnd_71 : decode cX1_bestEnd 71 = .ok (.if_icmp .ne 9, 3) := by decide +kernel
theorem dX1_bestEnd_74 : decode cX1_bestEnd 74 = .ok (.sipush 487, 3) := by decide +kernel
theorem dX1_bestEnd_77 : decode cX1_bestEnd 77 = .ok (.goto 4, 3) := by decide +kernel
theorem dX1_bestEnd_80 : decode cX1_bestEnd 80 = .ok (.iload_n 1, 1) := by decide +kernel
theorem dX1_bestEnd_81 : decode cX1_bestEnd 81 = .ok (.ireturn, 1) := by decide +kernel
theorem dX1_finalFromSorted_0 : decode cX1_finalFromSorted 0 = .ok (.aload_n 0, 1) := by decide +kernel
theorem dX1_finalFromSorted_1 : decode cX1_finalFromSorted 1 = .ok (.getfield 25, 3) := by decide +kernel
theorem dX1_finalFromSorted_4 : decode cX1_finalFromSorted 4 = .ok (.ifCond .ne 7, 3) := by decide +kernel
theorem dX1_finalFromSorted_7 : decode cX1_finalFromSorted 7 = .ok (.sipush 480, 3) := by decide +kernel
theorem dX1_finalFromSorted_10 : decode cX1_finalFromSorted 10 = .ok (.ireturn, 1) := by decide +kernel
theorem dX1_finalFromSorted_11 : decode cX1_finalFromSorted 11 = .ok (.aload_n 0, 1) := by decide +kernel
theorem dX1_finalFromSorted_12 : decode cX1_finalFromSorted 12 = .ok (.aload_n 1, 1) := by decide +kernel
theorem dX1_finalFromSorted_13 : decode cX1_finalFromSorted 13 = .ok (.invokevirtual 88, 3) := by decide +kernel
theorem dX1_finalFromSorted_16 : decode cX1_finalFromSorted 16 = .ok (.istore_n 2, 1) := by decide +kernel
theorem dX1_finalFromSorted_17 : decode cX1_finalFromSorted 17 = .ok (.aload_n 0, 1) := by decide +kernel
theorem dX1_finalFromSorted_18 : decode cX1_finalFromSorted 18 = .ok (.getfield 41, 3) := by decide +kernel
theorem dX1_finalFromSorted_21 : decode cX1_finalFromSorted 21 = .ok (.ifCond .ne 7, 3) := by decide +kernel
theorem dX1_finalFromSorted_24 : decode cX1_finalFromSorted 24 = .ok (.iload_n 2, 1) := by decide +kernel
theorem dX1_finalFromSorted_25 : decode cX1_finalFromSorted 25 = .ok (.ifCond .ne 7, 3) := by decide +kernel
theorem dX1_finalFromSorted_28 : decode cX1_finalFromSorted 28 = .ok (.sipush 487, 3) := by decide +kernel
theorem dX1_finalFromSorted_31 : decode cX1_finalFromSorted 31 = .ok (.ireturn, 1) := by decide +kernel
theorem dX1_finalFromSorted_32 : decode cX1_finalFromSorted 32 = .ok (.aload_n 1, 1) := by decide +kernel
theorem dX1_finalFromSorted_33 : decode cX1_finalFromSorted 33 = .ok (.iload_n 2, 1) := by decide +kernel
theorem dX1_finalFromSorted_34 : decode cX1_finalFromSorted 34 = .ok (.iconst 1, 1) := by decide +kernel
theorem dX1_finalFromSorted_35 : decode cX1_finalFromSorted 35 = .ok (.isub, 1) := by decide +kernel
theorem dX1_finalFromSorted_36 : decode cX1_finalFromSorted 36 = .ok (.iaload, 1) := by decide +kernel
theorem dX1_finalFromSorted_37 : decode cX1_finalFromSorted 37 = .ok (.sipush 600, 3) := by decide +kernel
theorem dX1_finalFromSorted_40 : decode cX1_finalFromSorted 40 = .ok (.if_icmp .lt 11, 3) := by decide +kernel
theorem dX1_finalFromSorted_43 : decode cX1_finalFromSorted 43 = .ok (.aload_n 1, 1) := by decide +kernel
theorem dX1_finalFromSorted_44 : decode cX1_finalFromSorted 44 = .ok (.iload_n 2, 1) := by decide +kernel
theorem dX1_finalFromSorted_45 : decode cX1_finalFromSorted 45 = .ok (.iconst 1, 1) := by decide +kernel
theorem dX1_finalFromSorted_46 : decode cX1_finalFromSorted 46 = .ok (.isub, 1) := by decide +kernel
theorem dX1_finalFromSorted_47 : decode cX1_finalFromSorted 47 = .ok (.iaload, 1) := by decide +kernel
theorem dX1_finalFromSorted_48 : decode cX1_finalFromSorted 48 = .ok (.goto 6, 3) := by decide +kernel
theorem dX1_finalFromSorted_51 : decode cX1_finalFromSorted 51 = .ok (.aload_n 1, 1) := by decide +kernel
theorem dX1_finalFromSorted_52 : decode cX1_finalFromSorted 52 = .ok (.iconst 0, 1) := by decide +kernel
theorem dX1_finalFromSorted_53 : decode cX1_finalFromSorted 53 = .ok (.iaload, 1) := by decide +kernel
theorem dX1_finalFromSorted_54 : decode cX1_finalFromSorted 54 = .ok (.ireturn, 1) := by decide +kernel
theorem dX1_sortEnds_0 : decode cX1_sortEnds 0 = .ok (.iconst 0, 1) := by decide +kernel
theorem dX1_sortEnds_1 : decode cX1_sortEnds 1 = .ok (.istore_n 2, 1) := by decide +kernel
theorem dX1_sortEnds_2 : decode cX1_sortEnds 2 = .ok (.iconst 0, 1) := by decide +kernel
theorem dX1_sortEnds_3 : decode cX1_sortEnds 3 = .ok (.istore_n 3, 1) := by decide +kernel
theorem dX1_sortEnds_4 : decode cX1_sortEnds 4 = .ok (.iload_n 3, 1) := by decide +kernel
theorem dX1_sortEnds_5 : decode cX1_sortEnds 5 = .ok (.aload_n 0, 1) := by decide +kernel
theorem dX1_sortEnds_6 : decode cX1_sortEnds 6 = .ok (.getfield 25, 3) := by decide +kernel
theorem dX1_sortEnds_9 : decode cX1_sortEnds 9 = .ok (.if_icmp .ge 41, 3) := by decide +kernel
theorem dX1_sortEnds_12 : decode cX1_sortEnds 12 = .ok (.iload_n 2, 1) := by decide +kernel
theorem dX1_sortEnds_13 : decode cX1_sortEnds 13 = .ok (.aload_n 1, 1) := by decide +kernel
theorem dX1_sortEnds_14 : decode cX1_sortEnds 14 = .ok (.arraylength, 1) := by decide +kernel
theorem dX1_sortEnds_15 : decode cX1_sortEnds 15 = .ok (.if_icmp .ge 35, 3) := by decide +kernel
theorem dX1_sortEnds_18 : decode cX1_sortEnds 18 = .ok (.aload_n 0, 1) := by decide +kernel
theorem dX1_sortEnds_19 : decode cX1_sortEnds 19 = .ok (.getfield 18, 3) := by decide +kernel
theorem dX1_sortEnds_22 : decode cX1_sortEnds 22 = .ok (.iload_n 3, 1) := by decide +kernel
theorem dX1_sortEnds_23 : decode cX1_sortEnds 23 = .ok (.iaload, 1) := by decide +kernel
theorem dX1_sortEnds_24 : decode cX1_sortEnds 24 = .ok (.sipush 487, 3) := by decide +kernel
theorem dX1_sortEnds_27 : decode cX1_sortEnds 27 = .ok (.if_icmp .eq 17, 3) := by decide +kernel
theorem dX1_sortEnds_30 : decode cX1_sortEnds 30 = .ok (.aload_n 1, 1) := by decide +kernel
theorem dX1_sortEnds_31 : decode cX1_sortEnds 31 = .ok (.iload_n 2, 1) := by decide +kernel
theorem dX1_sortEnds_32 : decode cX1_sortEnds 32 = .ok (.aload_n 0, 1) := by decide +kernel
theorem dX1_sortEnds_33 : decode cX1_sortEnds 33 = .ok (.getfield 18, 3) := by decide +kernel
theorem dX1_sortEnds_36 : decode cX1_sortEnds 36 = .ok (.iload_n 3, 1) := by decide +kernel
theorem dX1_sortEnds_37 : decode cX1_sortEnds 37 = .ok (.iaload, 1) := by decide +kernel
theorem dX1_sortEnds_38 : decode cX1_sortEnds 38 = .ok (.invokestatic 92, 3) := by decide +kernel
theorem dX1_sortEnds_41 : decode cX1_sortEnds 41 = .ok (.iinc 2 1, 3) := by decide +kernel
theorem dX1_sortEnds_44 : decode cX1_sortEnds 44 = .ok (.iinc 3 1, 3) := by decide +kernel
theorem dX1_sortEnds_47 : decode cX1_sortEnds 47 = .ok (.goto (-43), 3) := by decide +kernel
theorem dX1_sortEnds_50 : decode cX1_sortEnds 50 = .ok (.iload_n 2, 1) := by decide +kernel
theorem dX1_sortEnds_51 : decode cX1_sortEnds 51 = .ok (.ireturn, 1) := by decide +kernel
theorem dX1_insert_0 : decode cX1_insert 0 = .ok (.iload_n 1, 1) := by decide +kernel
theorem dX1_insert_1 : decode cX1_insert 1 = .ok (.istore_n 3, 1) := by decide +kernel
theorem dX1_insert_2 : decode cX1_insert 2 = .ok (.iload_n 3, 1) := by decide +kernel
theorem dX1_insert_3 : decode cX1_insert 3 = .ok (.ifCond .le 26, 3) := by decide +kernel
theorem dX1_insert_6 : decode cX1_insert 6 = .ok (.aload_n 0, 1) := by decide +kernel
theorem dX1_insert_7 : decode cX1_insert 7 = .ok (.iload_n 3, 1) := by decide +kernel
theorem dX1_insert_8 : decode cX1_insert 8 = .ok (.iconst 1, 1) := by decide +kernel
theorem dX1_insert_9 : decode cX1_insert 9 = .ok (.isub, 1) := by decide +kernel
theorem dX1_insert_10 : decode cX1_insert 10 = .ok (.iaload, 1) := by decide +kernel
theorem dX1_insert_11 : decode cX1_insert 11 = .ok (.iload_n 2, 1) := by decide +kernel
theorem dX1_insert_12 : decode cX1_insert 12 = .ok (.if_icmp .le 17, 3) := by decide +kernel
theorem dX1_insert_15 : decode cX1_insert 15 = .ok (.aload_n 0, 1) := by decide +kernel
theorem dX1_insert_16 : decode cX1_insert 16 = .ok (.iload_n 3, 1) := by decide +kernel
theorem dX1_insert_17 : decode cX1_insert 17 = .ok (.aload_n 0, 1) := by decide +kernel
theorem dX1_insert_18 : decode cX1_insert 18 = .ok (.iload_n 3, 1) := by decide +kernel
theorem dX1_insert_19 : decode cX1_insert 19 = .ok (.iconst 1, 1) := by decide +kernel
theorem dX1_insert_20 : decode cX1_insert 20 = .ok (.isub, 1) := by decide +kernel
theorem dX1_insert_21 : decode cX1_insert 21 = .ok (.iaload, 1) := by decide +kernel
theorem dX1_insert_22 : decode cX1_insert 22 = .ok (.iastore, 1) := by decide +kernel
theorem dX1_insert_23 : decode cX1_insert 23 = .ok (.iinc 3 (-1), 3) := by decide +kernel
theorem dX1_insert_26 : decode cX1_insert 26 = .ok (.goto (-24), 3) := by decide +kernel
theorem dX1_insert_29 : decode cX1_insert 29 = .ok (.aload_n 0, 1) := by decide +kernel
theorem dX1_insert_30 : decode cX1_insert 30 = .ok (.iload_n 3, 1) := by decide +kernel
theorem dX1_insert_31 : decode cX1_insert 31 = .ok (.iload_n 2, 1) := by decide +kernel
theorem dX1_insert_32 : decode cX1_insert 32 = .ok (.iastore, 1) := by decide +kernel
theorem dX1_insert_33 : decode cX1_insert 33 = .ok (.return_, 1) := by decide +kernel
theorem dX2_init_0 : decode cX2_init 0 = .ok (.aload_n 0, 1) := by decide +kernel
theorem dX2_init_1 : decode cX2_init 1 = .ok (.invokespecial 3, 3) := by decide +kernel
theorem dX2_init_4 : decode cX2_init 4 = .ok (.aload_n 0, 1) := by decide +kernel
theorem dX2_init_5 : decode cX2_init 5 = .ok (.bipush 6, 2) := by decide +kernel
theorem dX2_init_7 : decode cX2_init 7 = .ok (.anewarray 9, 3) := by decide +kernel
theorem dX2_init_10 : decode cX2_init 10 = .ok (.putfield 11, 3) := by decide +kernel
theorem dX2_init_13 : decode cX2_init 13 = .ok (.aload_n 0, 1) := by decide +kernel
theorem dX2_init_14 : decode cX2_init 14 = .ok (.bipush 20, 2) := by decide +kernel
theorem dX2_init_16 : decode cX2_init 16 = .ok (.anewarray 15, 3) := by decide +kernel
theorem dX2_init_19 : decode cX2_init 19 = .ok (.putfield 17, 3) := by decide +kernel
theorem dX2_init_22 : decode cX2_init 22 = .ok (.aload_n 0, 1) := by decide +kernel
theorem dX2_init_23 : decode cX2_init 23 = .ok (.bipush 10, 2) := by decide +kernel
theorem dX2_init_25 : decode cX2_init 25 = .ok (.newarray .int, 2) := by decide +kernel
theorem dX2_init_27 : decode cX2_init 27 = .ok (.putfield 21, 3) := by decide +kernel
theorem dX2_init_30 : decode cX2_init 30 = .ok (.aload_n 0, 1) := by decide +kernel
theorem dX2_init_31 : decode cX2_init 31 = .ok (.iconst 3, 1) := by decide +kernel
theorem dX2_init_32 : decode cX2_init 32 = .ok (.newarray .int, 2) := by decide +kernel
theorem dX2_init_34 : decode cX2_init 34 = .ok (.putfield 25, 3) := by decide +kernel
theorem dX2_init_37 : decode cX2_init 37 = .ok (.aload_n 0, 1) := by decide +kernel
theorem dX2_init_38 : decode cX2_init 38 = .ok (.bipush 12, 2) := by decide +kernel
theorem dX2_init_40 : decode cX2_init 40 = .ok (.newarray .int, 2) := by decide +kernel
theorem dX2_init_42 : decode cX2_init 42 = .ok (.putfield 28, 3) := by decide +kernel
theorem dX2_init_45 : decode cX2_init 45 = .ok (.aload_n 0, 1) := by decide +kernel
theorem dX2_init_46 : decode cX2_init 46 = .ok (.iconst 0, 1) := by decide +kernel
theorem dX2_init_47 : decode cX2_init 47 = .ok (.putfield 31, 3) := by decide +kernel
theorem dX2_init_50 : decode cX2_init 50 = .ok (.aload_n 0, 1) := by decide +kernel
theorem dX2_init_51 : decode cX2_init 51 = .ok (.iconst 0, 1) := by decide +kernel
theorem dX2_init_52 : decode cX2_init 52 = .ok (.putfield 35, 3) := by decide +kernel
theorem dX2_init_55 : decode cX2_init 55 = .ok (.iconst 0, 1) := by decide +kernel
theorem dX2_init_56 : decode cX2_init 56 = .ok (.istore_n 1, 1) := by decide +kernel
theorem dX2_init_57 : decode cX2_init 57 = .ok (.iload_n 1, 1) := by decide +kernel
theorem dX2_init_58 : decode cX2_init 58 = .ok (.bipush 6, 2) := by decide +kernel
theorem dX2_init_60 : decode cX2_init 60 = .ok (.if_icmp .ge 22, 3) := by decide +kernel
theorem dX2_init_63 : decode cX2_init 63 = .ok (.aload_n 0, 1) := by decide +kernel
theorem dX2_init_64 : decode cX2_init 64 = .ok (.getfield 11, 3) := by decide +kernel
theorem dX2_init_67 : decode cX2_init 67 = .ok (.iload_n 1, 1) := by decide +kernel
theorem dX2_init_68 : decode cX2_init 68 = .ok (.new 9, 3) := by decide +kernel
theorem dX2_init_71 : decode cX2_init 71 = .ok (.dup, 1) := by decide +kernel
theorem dX2_init_72 : decode cX2_init 72 = .ok (.invokespecial 38, 3) := by decide +kernel
theorem dX2_init_75 : decode cX2_init 75 = .ok (.aastore, 1) := by decide +kernel
theorem dX2_init_76 : decode cX2_init 76 = .ok (.iinc 1 1, 3) := by decide +kernel
theorem dX2_init_79 : decode cX2_init 79 = .ok (.goto (-22), 3) := by decide +kernel
theorem dX2_init_82 : decode cX2_init 82 = .ok (.iconst 0, 1) := by decide +kernel
theorem dX2_init_83 : decode cX2_init 83 = .ok (.istore_n 1, 1) := by decide +kernel
theorem dX2_init_84 : decode cX2_init 84 = .ok (.iload_n 1, 1) := by decide +kernel
theorem dX2_init_85 : decode cX2_init 85 = .ok (.bipush 20, 2) := by decide +kernel
theorem dX2_init_87 : decode cX2_init 87 = .ok (.if_icmp .ge 22, 3) := by decide +kernel
theorem dX2_init_90 : decode cX2_init 90 = .ok (.aload_n 0, 1) := by decide +kernel
theorem dX2_init_91 : decode cX2_init 91 = .ok (.getfield 17, 3) := by decide +kernel
theorem dX2_init_94 : decode cX2_init 94 = .ok (.iload_n 1, 1) := by decide +kernel
theorem dX2_init_95 : decode cX2_init 95 = .ok (.new 15, 3) := by decide +kernel
theorem dX2_init_98 : decode cX2_init 98 = .ok (.dup, 1) := by decide +kernel
theorem dX2_init_99 : decode cX2_init 99 = .ok (.invokespecial 39, 3) := by decide +kernel
theorem dX2_init_102 : decode cX2_init 102 = .ok (.aastore, 1) := by decide +kernel
theorem dX2_init_103 : decode cX2_init 103 = .ok (.iinc 1 1, 3) := by decide +kernel
theorem dX2_init_106 : decode cX2_init 106 = .ok (.goto (-22), 3) := by decide +kernel
theorem dX2_init_109 : decode cX2_init 109 = .ok (.return_, 1) := by decide +kernel
theorem dX2_register_0 : decode cX2_register 0 = .ok (.aload_n 0, 1) := by decide +kernel
theorem dX2_register_1 : decode cX2_register 1 = .ok (.iload_n 1, 1) := by decide +kernel
theorem dX2_register_2 : decode cX2_register 2 = .ok (.invokevirtual 40, 3) := by decide +kernel
theorem dX2_register_5 : decode cX2_register 5 = .ok (.astore 6, 2) := by decide +kernel
theorem dX2_register_7 : decode cX2_register 7 = .ok (.iload_n 2, 1) := by decide +kernel
theorem dX2_register_8 : decode cX2_register 8 = .ok (.bipush 15, 2) := by decide +kernel
theorem dX2_register_10 : decode cX2_register 10 = .ok (.invokestatic 44, 3) := by decide +kernel
theorem dX2_register_13 : decode cX2_register 13 = .ok (.ifCond .ne 12, 3) := by decide +kernel
theorem dX2_register_16 : decode cX2_register 16 = .ok (.iload_n 3, 1) := by decide +kernel
theorem dX2_register_17 : decode cX2_register 17 = .ok (.bipush 10, 2) := by decide +kernel
theorem dX2_register_19 : decode cX2_register 19 = .ok (.invokestatic 44, 3) := by decide +kernel
theorem dX2_register_22 : decode cX2_register 22 = .ok (.ifCond .eq 13, 3) := by decide +kernel
theorem dX2_register_25 : decode cX2_register 25 = .ok (.new 48, 3) := by decide +kernel
theorem dX2_register_28 : decode cX2_register 28 = .ok (.dup, 1) := by decide +kernel
theorem dX2_register_29 : decode cX2_register 29 = .ok (.ldc 50, 2) := by decide +kernel
theorem dX2_register_31 : decode cX2_register 31 = .ok (.invokespecial 52, 3) := by decide +kernel
theorem dX2_register_34 : decode cX2_register 34 = .ok (.athrow, 1) := by decide +kernel
theorem dX2_register_35 : decode cX2_register 35 = .ok (.iload 4, 2) := by decide +kernel
theorem dX2_register_37 : decode cX2_register 37 = .ok (.sipush 1000, 3) := by decide +kernel
theorem dX2_register_40 : decode cX2_register 40 = .ok (.invokestatic 44, 3) := by decide +kernel
theorem dX2_register_43 : decode cX2_register 43 = .ok (.ifCond .ne 14, 3) := by decide +kernel
theorem dX2_register_46 : decode cX2_register 46 = .ok (.iload 5, 2) := by decide +kernel
theorem dX2_register_48 : decode cX2_register 48 = .ok (.sipush 10000, 3) := by decide +kernel
theorem dX2_register_51 : decode cX2_register 51 = .ok (.invokestatic 44, 3) := by decide +kernel
theorem dX2_register_54 : decode cX2_register 54 = .ok (.ifCond .eq 13, 3) := by decide +kernel
theorem dX2_register_57 : decode cX2_register 57 = .ok (.new 48, 3) := by decide +kernel
theorem dX2_register_60 : decode cX2_register 60 = .ok (.dup, 1) := by decide +kernel
theorem dX2_register_61 : decode cX2_register 61 = .ok (.ldc 55, 2) := by decide +kernel
theorem dX2_register_63 : decode cX2_register 63 = .ok (.invokespecial 52, 3) := by decide +kernel
theorem dX2_register_66 : decode cX2_register 66 = .ok (.athrow, 1) := by decide +kernel
theorem dX2_register_67 : decode cX2_register 67 = .ok (.iload 5, 2) := by decide +kernel
theorem dX2_register_69 : decode cX2_register 69 = .ok (.aload 6, 2) := by decide +kernel
theorem dX2_register_71 : decode cX2_register 71 = .ok (.getfield 57, 3) := by decide +kernel
theorem dX2_register_74 : decode cX2_register 74 = .ok (.iload_n 2, 1) := by decide +kernel
theorem dX2_register_75 : decode cX2_register 75 = .ok (.iaload, 1) := by decide +kernel
theorem dX2_register_76 : decode cX2_register 76 = .ok (.if_icmp .gt 13, 3) := by decide +kernel
theorem dX2_register_79 : decode cX2_register 79 = .ok (.new 60, 3) := by decide +kernel
theorem dX2_register_82 : decode cX2_register 82 = .ok (.dup, 1) := by decide +kernel
theorem dX2_register_83 : decode cX2_register 83 = .ok (.ldc 62, 2) := by decide +kernel
theorem dX2_register_85 : decode cX2_register 85 = .ok (.invokespecial 64, 3) := by decide +kernel
theorem dX2_register_88 : decode cX2_register 88 = .ok (.athrow, 1) := by decide +kernel
theorem dX2_register_89 : decode cX2_register 89 = .ok (.iload 4, 2) := by decide +kernel
theorem dX2_register_91 : decode cX2_register 91 = .ok (.ifCond .eq 28, 3) := by decide +kernel
theorem dX2_register_94 : decode cX2_register 94 = .ok (.aload 6, 2) := by decide +kernel
theorem dX2_register_96 : decode cX2_register 96 = .ok (.iload_n 2, 1) := by decide +kernel
theorem dX2_register_97 : decode cX2_register 97 = .ok (.aload_n 0, 1) := by decide +kernel
theorem dX2_register_98 : decode cX2_register 98 = .ok (.getfield 35, 3) := by decide +kernel
theorem dX2_register_101 : decode cX2_register 101 = .ok (.invokevirtual 65, 3) := by decide +kernel
theorem dX2_register_104 : decode cX2_register 104 = .ok (.bipush 6, 2) := by decide +kernel
theorem dX2_register_106 : decode cX2_register 106 = .ok (.if_icmp .lt 13, 3) := by decide +kernel
theorem dX2_register_109 : decode cX2_register 109 = .ok (.new 60, 3) := by decide +kernel
theorem dX2_register_112 : decode cX2_register 112 = .ok (.dup, 1) := by decide +kernel
theorem dX2_register_113 : decode cX2_register 113 = .ok (.ldc 69, 2) := by decide +kernel
theorem dX2_register_115 : decode cX2_register 115 = .ok (.invokespecial 64, 3) := by decide +kernel
theorem dX2_register_118 : decode cX2_register 118 = .ok (.athrow, 1) := by decide +kernel
theorem dX2_register_119 : decode cX2_register 119 = .ok (.aload 6, 2) := by decide +kernel
theorem dX2_register_121 : decode cX2_register 121 = .ok (.iload_n 2, 1) := by decide +kernel
theorem dX2_register_122 : decode cX2_register 122 = .ok (.iload_n 3, 1) := by decide +kernel
theorem dX2_register_123 : decode cX2_register 123 = .ok (.aload_n 0, 1) := by decide +kernel
theorem dX2_register_124 : decode cX2_register 124 = .ok (.getfield 35, 3) := by decide +kernel
theorem dX2_register_127 : decode cX2_register 127 = .ok (.iload 4, 2) := by decide +kernel
theorem dX2_register_129 : decode cX2_register 129 = .ok (.iadd, 1) := by decide +kernel
theorem dX2_register_130 : decode cX2_register 130 = .ok (.iload 5, 2) := by decide +kernel
theorem dX2_register_132 : decode cX2_register 132 = .ok (.invokevirtual 71, 3) := by decide +kernel
theorem dX2_register_135 : decode cX2_register 135 = .ok (.aload 6, 2) := by decide +kernel
theorem dX2_register_137 : decode cX2_register 137 = .ok (.aload_n 0, 1) := by decide +kernel
theorem dX2_register_138 : decode cX2_register 138 = .ok (.getfield 35, 3) := by decide +kernel
theorem dX2_register_141 : decode cX2_register 141 = .ok (.invokevirtual 75, 3) := by decide +kernel
theorem dX2_register_144 : decode cX2_register 144 = .ok (.ireturn, 1) := by decide +kernel
theorem dX2_bindings_0 : decode cX2_bindings 0 = .ok (.aload_n 0, 1) := by decide +kernel
theorem dX2_bindings_1 : decode cX2_bindings 1 = .ok (.iload_n 1, 1) := by decide +kernel
theorem dX2_bindings_2 : decode cX2_bindings 2 = .ok (.invokevirtual 40, 3) := by decide +kernel
theorem dX2_bindings_5 : decode cX2_bindings 5 = .ok (.aload_n 0, 1) := by decide +kernel
theorem dX2_bindings_6 : decode cX2_bindings 6 = .ok (.getfield 35, 3) := by decide +kernel
theorem dX2_bindings_9 : decode cX2_bindings 9 = .ok (.invokevirtual 75, 3) := by decide +kernel
theorem dX2_bindings_12 : decode cX2_bindings 12 = .ok (.ireturn, 1) := by decide +kernel
theorem dX2_binding_0 : decode cX2_binding 0 = .ok (.aload_n 0, 1) := by decide +kernel
theorem dX2_binding_1 : decode cX2_binding 1 = .ok (.iload_n 1, 1) := by decide +kernel
theorem dX2_binding_2 : decode cX2_binding 2 = .ok (.invokevirtual 40, 3) := by decide +kernel
theorem dX2_binding_5 : decode cX2_binding 5 = .ok (.astore_n 3, 1) := by decide +kernel
theorem dX2_binding_6 : decode cX2_binding 6 = .ok (.aload_n 3, 1) := by decide +kernel
theorem dX2_binding_7 : decode cX2_binding 7 = .ok (.iload_n 2, 1) := by decide +kernel
theorem dX2_binding_8 : decode cX2_binding 8 = .ok (.aload_n 0, 1) := by decide +kernel
theorem dX2_binding_9 : decode cX2_binding 9 = .ok (.getfield 35, 3) := by decide +kernel
theorem dX2_binding_12 : decode cX2_binding 12 = .ok (.invokevirtual 79, 3) := by decide +kernel
theorem dX2_binding_15 : decode cX2_binding 15 = .ok (.istore 4, 2) := by decide +kernel
theorem dX2_binding_17 : decode cX2_binding 17 = .ok (.iload 4, 2) := by decide +kernel
theorem dX2_binding_19 : decode cX2_binding 19 = .ok (.iconst (-1), 1) := by decide +kernel
theorem dX2_binding_20 : decode cX2_binding 20 = .ok (.if_icmp .ne 13, 3) := by decide +kernel
theorem dX2_binding_23 : decode cX2_binding 23 = .ok (.new 82, 3) := by decide +kernel
theorem dX2_binding_26 : decode cX2_binding 26 = .ok (.dup, 1) := by decide +kernel
theorem dX2_binding_27 : decode cX2_binding 27 = .ok (.ldc 84, 2) := by decide +kernel
theorem dX2_binding_29 : decode cX2_binding 29 = .ok (.invokespecial 86, 3) := by decide +kernel
theorem dX2_binding_32 : decode cX2_binding 32 = .ok (.athrow, 1) := by decide +kernel
theorem dX2_binding_33 : decode cX2_binding 33 = .ok (.bipush 100, 2) := by decide +kernel
theorem dX2_binding_35 : decode cX2_binding 35 = .ok (.iload 4, 2) := by decide +kernel
theorem dX2_binding_37 : decode cX2_binding 37 = .ok (.imul, 1) := by decide +kernel
theorem dX2_binding_38 : decode cX2_binding 38 = .ok (.aload_n 3, 1) := by decide +kernel
theorem dX2_binding_39 : decode cX2_binding 39 = .ok (.getfield 87, 3) := by decide +kernel
theorem dX2_binding_42 : decode cX2_binding 42 = .ok (.iload 4, 2) := by decide +kernel
theorem dX2_binding_44 : decode cX2_binding 44 = .ok (.iaload, 1) := by decide +kernel
theorem dX2_binding_45 : decode cX2_binding 45 = .ok (.iadd, 1) := by decide +kernel
theorem dX2_binding_46 : decode cX2_binding 46 = .ok (.ireturn, 1) := by decide +kernel
theorem dX2_call_0 : decode cX2_call 0 = .ok (.iload_n 1, 1) := by decide +kernel
theorem dX2_call_1 : decode cX2_call 1 = .ok (.iconst 5, 1) := by decide +kernel
theorem dX2_call_2 : decode cX2_call 2 = .ok (.invokestatic 44, 3) := by decide +kernel
theorem dX2_call_5 : decode cX2_call 5 = .ok (.ifCond .eq 13, 3) := by decide +kernel
theorem dX2_call_8 : decode cX2_call 8 = .ok (.new 48, 3) := by decide +kernel
theorem dX2_call_11 : decode cX2_call 11 = .ok (.dup, 1) := by decide +kernel
theorem dX2_call_12 : decode cX2_call 12 = .ok (.ldc 90, 2) := by decide +kernel
theorem dX2_call_14 : decode cX2_call 14 = .ok (.invokespecial 52, 3) := by decide +kernel
theorem dX2_call_17 : decode cX2_call 17 = .ok (.athrow, 1) := by decide +kernel
theorem dX2_call_18 : decode cX2_call 18 = .ok (.aload_n 0, 1) := by decide +kernel
theorem dX2_call_19 : decode cX2_call 19 = .ok (.getfield 31, 3) := by decide +kernel
theorem dX2_call_22 : decode cX2_call 22 = .ok (.bipush 20, 2) := by decide +kernel
theorem dX2_call_24 : decode cX2_call 24 = .ok (.if_icmp .lt 13, 3) := by decide +kernel
theorem dX2_call_27 : decode cX2_call 27 = .ok (.new 60, 3) := by decide +kernel
theorem dX2_call_30 : decode cX2_call 30 = .ok (.dup, 1) := by decide +kernel
theorem dX2_call_31 : decode cX2_call 31 = .ok (.ldc 92, 2) := by decide +kernel
theorem dX2_call_33 : decode cX2_call 33 = .ok (.invokespecial 64, 3) := by decide +kernel
theorem dX2_call_36 : decode cX2_call 36 = .ok (.athrow, 1) := by decide +kernel
theorem dX2_call_37 : decode cX2_call 37 = .ok (.aload_n 0, 1) := by decide +kernel
theorem dX2_call_38 : decode cX2_call 38 = .ok (.getfield 17, 3) := by decide +kernel
theorem dX2_call_41 : decode cX2_call 41 = .ok (.aload_n 0, 1) := by decide +kernel
theorem dX2_call_42 : decode cX2_call 42 = .ok (.getfield 31, 3) := by decide +kernel
theorem dX2_call_45 : decode cX2_call 45 = .ok (.aaload, 1) := by decide +kernel
theorem dX2_call_46 : decode cX2_call 46 = .ok (.astore_n 2, 1) := by decide +kernel
theorem dX2_call_47 : decode cX2_call 47 = .ok (.aload_n 0, 1) := by decide +kernel
theorem dX2_call_48 : decode cX2_call 48 = .ok (.aload_n 2, 1) := by decide +kernel
theorem dX2_call_49 : decode cX2_call 49 = .ok (.iload_n 1, 1) := by decide +kernel
theorem dX2_call_50 : decode cX2_call 50 = .ok (.iconst (-1), 1) := by decide +kernel
theorem dX2_call_51 : decode cX2_call 51 = .ok (.iconst 0, 1) := by decide +kernel
theorem dX2_call_52 : decode cX2_call 52 = .ok (.invokevirtual 94, 3) := by decide +kernel
theorem dX2_call_55 : decode cX2_call 55 = .ok (.aload_n 2, 1) := by decide +kernel
theorem dX2_call_56 : decode cX2_call 56 = .ok (.aload_n 0, 1) := by decide +kernel
theorem dX2_call_57 : decode cX2_call 57 = .ok (.getfield 35, 3) := by decide +kernel
theorem dX2_call_60 : decode cX2_call 60 = .ok (.invokevirtual 98, 3) := by decide +kernel
theorem dX2_call_63 : decode cX2_call 63 = .ok (.aload_n 0, 1) := by decide +kernel
theorem dX2_call_64 : decode cX2_call 64 = .ok (.dup, 1) := by decide +kernel
theorem dX2_call_65 : decode cX2_call 65 = .ok (.getfield 31, 3) := by decide +kernel
theorem dX2_call_68 : decode cX2_call 68 = .ok (.iconst 1, 1) := by decide +kernel
theorem dX2_call_69 : decode cX2_call 69 = .ok (.iadd, 1) := by decide +kernel
theorem dX2_call_70 : decode cX2_call 70 = .ok (.putfield 31, 3) := by decide +kernel
theorem dX2_call_73 : decode cX2_call 73 = .ok (.aload_n 0, 1) := by decide +kernel
theorem dX2_call_74 : decode cX2_call 74 = .ok (.getfield 31, 3) := by decide +kernel
theorem dX2_call_77 : decode cX2_call 77 = .ok (.iconst 1, 1) := by decide +kernel
theorem dX2_call_78 : decode cX2_call 78 = .ok (.isub, 1) := by decide +kernel
theorem dX2_call_79 : decode cX2_call 79 = .ok (.ireturn, 1) := by decide +kernel
theorem dX2_answer_0 : decode cX2_answer 0 = .ok (.aload_n 0, 1) := by decide +kernel
theorem dX2_answer_1 : decode cX2_answer 1 = .ok (.iload_n 1, 1) := by decide +kernel
theorem dX2_answer_2 : decode cX2_answer 2 = .ok (.invokevirtual 102, 3) := by decide +kernel
theorem dX2_answer_5 : decode cX2_answer 5 = .ok (.astore 4, 2) := by decide +kernel
theorem dX2_answer_7 : decode cX2_answer 7 = .ok (.iload_n 2, 1) := by decide +kernel
theorem dX2_answer_8 : decode cX2_answer 8 = .ok (.bipush 9, 2) := by decide +kernel
theorem dX2_answer_10 : decode cX2_answer 10 = .ok (.invokestatic 44, 3) := by decide +kernel
theorem dX2_answer_13 : decode cX2_answer 13 = .ok (.ifCond .ne 10, 3) := by decide +kernel
theorem dX2_answer_16 : decode cX2_answer 16 = .ok (.iload_n 3, 1) := by decide +kernel
theorem dX2_answer_17 : decode cX2_answer 17 = .ok (.invokestatic 106, 3) := by decide +kernel
theorem dX2_answer_20 : decode cX2_answer 20 = .ok (.ifCond .eq 13, 3) := by decide +kernel
theorem dX2_answer_23 : decode cX2_answer 23 = .ok (.new 48, 3) := by decide +kernel
theorem dX2_answer_26 : decode cX2_answer 26 = .ok (.dup, 1) := by decide +kernel
theorem dX2_answer_27 : decode cX2_answer 27 = .ok (.ldc 110, 2) := by decide +kernel
theorem dX2_answer_29 : decode cX2_answer 29 = .ok (.invokespecial 52, 3) := by decide +kernel
theorem dX2_answer_32 : decode cX2_answer 32 = .ok (.athrow, 1) := by decide +kernel
theorem dX2_answer_33 : decode cX2_answer 33 = .ok (.aload 4, 2) := by decide +kernel
theorem dX2_answer_35 : decode cX2_answer 35 = .ok (.iload_n 2, 1) := by decide +kernel
theorem dX2_answer_36 : decode cX2_answer 36 = .ok (.invokevirtual 112, 3) := by decide +kernel
theorem dX2_answer_39 : decode cX2_answer 39 = .ok (.istore 5, 2) := by decide +kernel
theorem dX2_answer_41 : decode cX2_answer 41 = .ok (.iload 5, 2) := by decide +kernel
theorem dX2_answer_43 : decode cX2_answer 43 = .ok (.iconst (-1), 1) := by decide +kernel
theorem dX2_answer_44 : decode cX2_answer 44 = .ok (.if_icmp .ne 13, 3) := by decide +kernel
theorem dX2_answer_47 : decode cX2_answer 47 = .ok (.new 60, 3) := by decide +kernel
theorem dX2_answer_50 : decode cX2_answer 50 = .ok (.dup, 1) := by decide +kernel
theorem dX2_answer_51 : decode cX2_answer 51 = .ok (.ldc 115, 2) := by decide +kernel
theorem dX2_answer_53 : decode cX2_answer 53 = .ok (.invokespecial 64, 3) := by decide +kernel
theorem dX2_answer_56 : decode cX2_answer 56 = .ok (.athrow, 1) := by decide +kernel
theorem dX2_answer_57 : decode cX2_answer 57 = .ok (.aload 4, 2) := by decide +kernel
theorem dX2_answer_59 : decode cX2_answer 59 = .ok (.iload 5, 2) := by decide +kernel
theorem dX2_answer_61 : decode cX2_answer 61 = .ok (.invokevirtual 117, 3) := by decide +kernel
theorem dX2_answer_64 : decode cX2_answer 64 = .ok (.ifCond .ne 13, 3) := by decide +kernel
theorem dX2_answer_67 : decode cX2_answer 67 = .ok (.new 60, 3) := by decide +kernel
theorem dX2_answer_70 : decode cX2_answer 70 = .ok (.dup, 1) := by decide +kernel
theorem dX2_answer_71 : decode cX2_answer 71 = .ok (.ldc 120, 2) := by decide +kernel
theorem dX2_answer_73 : decode cX2_answer 73 = .ok (.invokespecial 64, 3) := by decide +kernel
theorem dX2_answer_76 : decode cX2_answer 76 = .ok (.athrow, 1) := by decide +kernel
theorem dX2_answer_77 : decode cX2_answer 77 = .ok (.aload 4, 2) := by decide +kernel
theorem dX2_answer_79 : decode cX2_answer 79 = .ok (.iload 5, 2) := by decide +kernel
theorem dX2_answer_81 : decode cX2_answer 81 = .ok (.invokevirtual 122, 3) := by decide +kernel
theorem dX2_answer_84 : decode cX2_answer 84 = .ok (.ifCond .ne 18, 3) := by decide +kernel
theorem dX2_answer_87 : decode cX2_answer 87 = .ok (.aload 4, 2) := by decide +kernel
theorem dX2_answer_89 : decode cX2_answer 89 = .ok (.iload 5, 2) := by decide +kernel
theorem dX2_answer_91 : decode cX2_answer 91 = .ok (.iload_n 3, 1) := by decide +kernel
theorem dX2_answer_92 : decode cX2_answer 92 = .ok (.aload_n 0, 1) := by decide +kernel
theorem dX2_answer_93 : decode cX2_answer 93 = .ok (.getfield 35, 3) := by decide +kernel
theorem dX2_answer_96 : decode cX2_answer 96 = .ok (.invokevirtual 125, 3) := by decide +kernel
theorem dX2_answer_99 : decode cX2_answer 99 = .ok (.goto 46, 3) := by decide +kernel
theorem dX2_answer_102 : decode cX2_answer 102 = .ok (.aload 4, 2) := by decide +kernel
theorem dX2_answer_104 : decode cX2_answer 104 = .ok (.iload 5, 2) := by decide +kernel
theorem dX2_answer_106 : decode cX2_answer 106 = .ok (.iload_n 3, 1) := by decide +kernel
theorem dX2_answer_107 : decode cX2_answer 107 = .ok (.invokevirtual 129, 3) := by decide +kernel
theorem dX2_answer_110 : decode cX2_answer 110 = .ok (.ifCond .eq 25, 3) := by decide +kernel
theorem dX2_answer_113 : decode cX2_answer 113 = .ok (.aload 4, 2) := by decide +kernel
theorem dX2_answer_115 : decode cX2_answer 115 = .ok (.getfield 132, 3) := by decide +kernel
theorem dX2_answer_118 : decode cX2_answer 118 = .ok (.iload 5, 2) := by decide +kernel
theorem dX2_answer_120 : decode cX2_answer 120 = .ok (.iconst 1, 1) := by decide +kernel
theorem dX2_answer_121 : decode cX2_answer 121 = .ok (.bastore, 1) := by decide +kernel
theorem dX2_answer_122 : decode cX2_answer 122 = .ok (.aload_n 0, 1) := by decide +kernel
theorem dX2_answer_123 : decode cX2_answer 123 = .ok (.getfield 21, 3) := by decide +kernel
theorem dX2_answer_126 : decode cX2_answer 126 = .ok (.iload_n 2, 1) := by decide +kernel
theorem dX2_answer_127 : decode cX2_answer 127 = .ok (.dup2, 1) := by decide +kernel
theorem dX2_answer_128 : decode cX2_answer 128 = .ok (.iaload, 1) := by decide +kernel
theorem dX2_answer_129 : decode cX2_answer 129 = .ok (.iconst 1, 1) := by decide +kernel
theorem dX2_answer_130 : decode cX2_answer 130 = .ok (.iadd, 1) := by decide +kernel
theorem dX2_answer_131 : decode cX2_answer 131 = .ok (.iastore, 1) := by decide +kernel
theorem dX2_answer_132 : decode cX2_answer 132 = .ok (.goto 13, 3) := by decide +kernel
theorem dX2_answer_135 : decode cX2_answer 135 = .ok (.new 60, 3) := by decide +kernel
theorem dX2_answer_138 : decode cX2_answer 138 = .ok (.dup, 1) := by decide +kernel
theorem dX2_answer_139 : decode cX2_answer 139 = .ok (.ldc 136, 2) := by decide +kernel
theorem dX2_answer_141 : decode cX2_answer 141 = .ok (.invokespecial 64, 3) := by decide +kernel
theorem dX2_answer_144 : decode cX2_answer 144 = .ok (.athrow, 1) := by decide +kernel
theorem dX2_answer_145 : decode cX2_answer 145 = .ok (.aload 4, 2) := by decide +kernel
theorem dX2_answer_147 : decode cX2_answer 147 = .ok (.getfield 138, 3) := by decide +kernel
theorem dX2_answer_150 : decode cX2_answer 150 = .ok (.ireturn, 1) := by decide +kernel
theorem dX2_cancel_0 : decode cX2_cancel 0 = .ok (.aload_n 0, 1) := by decide +kernel
theorem dX2_cancel_1 : decode cX2_cancel 1 = .ok (.iload_n 1, 1) := by decide +kernel
theorem dX2_cancel_2 : decode cX2_cancel 2 = .ok (.invokevirtual 102, 3) := by decide +kernel
theorem dX2_cancel_5 : decode cX2_cancel 5 = .ok (.astore_n 2, 1) := by decide +kernel
theorem dX2_cancel_6 : decode cX2_cancel 6 = .ok (.aload_n 2, 1) := by decide +kernel
theorem dX2_cancel_7 : decode cX2_cancel 7 = .ok (.getfield 138, 3) := by decide +kernel
theorem dX2_cancel_10 : decode cX2_cancel 10 = .ok (.iconst (-1), 1) := by decide +kernel
theorem dX2_cancel_11 : decode cX2_cancel 11 = .ok (.if_icmp .eq 13, 3) := by decide +kernel
theorem dX2_cancel_14 : decode cX2_cancel 14 = .ok (.new 60, 3) := by decide +kernel
theorem dX2_cancel_17 : decode cX2_cancel 17 = .ok (.dup, 1) := by decide +kernel
theorem dX2_cancel_18 : decode cX2_cancel 18 = .ok (.ldc 141, 2) := by decide +kernel
theorem dX2_cancel_20 : decode cX2_cancel 20 = .ok (.invokespecial 64, 3) := by decide +kernel
theorem dX2_cancel_23 : decode cX2_cancel 23 = .ok (.athrow, 1) := by decide +kernel
theorem dX2_cancel_24 : decode cX2_cancel 24 = .ok (.aload_n 2, 1) := by decide +kernel
theorem dX2_cancel_25 : decode cX2_cancel 25 = .ok (.invokevirtual 143, 3) := by decide +kernel
theorem dX2_cancel_28 : decode cX2_cancel 28 = .ok (.ireturn, 1) := by decide +kernel
theorem dX2_pass_0 : decode cX2_pass 0 = .ok (.iload_n 1, 1) := by decide +kernel
theorem dX2_pass_1 : decode cX2_pass 1 = .ok (.iconst 1, 1) := by decide +kernel
theorem dX2_pass_2 : decode cX2_pass 2 = .ok (.if_icmp .lt 9, 3) := by decide +kernel
theorem dX2_pass_5 : decode cX2_pass 5 = .ok (.iload_n 1, 1) := by decide +kernel
theorem dX2_pass_6 : decode cX2_pass 6 = .ok (.bipush 100, 2) := by decide +kernel
theorem dX2_pass_8 : decode cX2_pass 8 = .ok (.if_icmp .le 13, 3) := by decide +kernel
theorem dX2_pass_11 : decode cX2_pass 11 = .ok (.new 48, 3) := by decide +kernel
theorem dX2_pass_14 : decode cX2_pass 14 = .ok (.dup, 1) := by decide +kernel
theorem dX2_pass_15 : decode cX2_pass 15 = .ok (.ldc 147, 2) := by decide +kernel
theorem dX2_pass_17 : decode cX2_pass 17 = .ok (.invokespecial 52, 3) := by decide +kernel
theorem dX2_pass_20 : decode cX2_pass 20 = .ok (.athrow, 1) := by decide +kernel
theorem dX2_pass_21 : decode cX2_pass 21 = .ok (.iconst 0, 1) := by decide +kernel
theorem dX2_pass_22 : decode cX2_pass 22 = .ok (.istore_n 2, 1) := by decide +kernel
theorem dX2_pass_23 : decode cX2_pass 23 = .ok (.iconst 0, 1) := by decide +kernel
theorem dX2_pass_24 : decode cX2_pass 24 = .ok (.istore_n 3, 1) := by decide +kernel
theorem dX2_pass_25 : decode cX2_pass 25 = .ok (.iload_n 3, 1) := by decide +kernel
theorem dX2_pass_26 : decode cX2_pass 26 = .ok (.iload_n 1, 1) := by decide +kernel
theorem dX2_pass_27 : decode cX2_pass 27 = .ok (.if_icmp .ge 26, 3) := by decide +kernel
theorem dX2_pass_30 : decode cX2_pass 30 = .ok (.aload_n 0, 1) := by decide +kernel
theorem dX2_pass_31 : decode cX2_pass 31 = .ok (.dup, 1) := by decide +kernel
theorem dX2_pass_32 : decode cX2_pass 32 = .ok (.getfield 35, 3) := by decide +kernel
theorem dX2_pass_35 : decode cX2_pass 35 = .ok (.iconst 1, 1) := by decide +kernel
theorem dX2_pass_36 : decode cX2_pass 36 = .ok (.iadd, 1) := by decide +kernel
theorem dX2_pass_37 : decode cX2_pass 37 = .ok (.putfield 35, 3) := by decide +kernel
theorem dX2_pass_40 : decode cX2_pass 40 = .ok (.iload_n 2, 1) := by decide +kernel
theorem dX2_pass_41 : decode cX2_pass 41 = .ok (.aload_n 0, 1) := by decide +kernel
theorem dX2_pass_42 : decode cX2_pass 42 = .ok (.invokevirtual 149, 3) := by decide +kernel
theorem dX2_pass_45 : decode cX2_pass 45 = .ok (.iadd, 1) := by decide +kernel
theorem dX2_pass_46 : decode cX2_pass 46 = .ok (.istore_n 2, 1) := by decide +kernel
theorem dX2_pass_47 : decode cX2_pass 47 = .ok (.iinc 3 1, 3) := by decide +kernel
theorem dX2_pass_50 : decode cX2_pass 50 = .ok (.goto (-25), 3) := by decide +kernel
theorem dX2_pass_53 : decode cX2_pass 53 = .ok (.iload_n 2, 1) := by decide +kernel
theorem dX2_pass_54 : decode cX2_pass 54 = .ok (.ireturn, 1) := by decide +kernel
theorem dX2_time_0 : decode cX2_time 0 = .ok (.aload_n 0, 1) := by decide +kernel
theorem dX2_time_1 : decode cX2_time 1 = .ok (.getfield 35, 3) := by decide +kernel
theorem dX2_time_4 : decode cX2_time 4 = .ok (.ireturn, 1) := by decide +kernel
theorem dX2_calls_0 : decode cX2_calls 0 = .ok (.aload_n 0, 1) := by decide +kernel
theorem dX2_calls_1 : decode cX2_calls 1 = .ok (.getfield 31, 3) := by decide +kernel
theorem dX2_calls_4 : decode cX2_calls 4 = .ok (.ireturn, 1) := by decide +kernel
theorem dX2_finalOf_0 : decode cX2_finalOf 0 = .ok (.aload_n 0, 1) := by decide +kernel
theorem dX2_finalOf_1 : decode cX2_finalOf 1 = .ok (.iload_n 1, 1) := by decide +kernel
theorem dX2_finalOf_2 : decode cX2_finalOf 2 = .ok (.invokevirtual 102, 3) := by decide +kernel
theorem dX2_finalOf_5 : decode cX2_finalOf 5 = .ok (.getfield 138, 3) := by decide +kernel
theorem dX2_finalOf_8 : decode cX2_finalOf 8 = .ok (.ireturn, 1) := by decide +kernel
theorem dX2_finalBySorting_0 : decode cX2_finalBySorting 0 = .ok (.aload_n 0, 1) := by decide +kernel
theorem dX2_finalBySorting_1 : decode cX2_finalBySorting 1 = .ok (.iload_n 1, 1) := by decide +kernel
theorem dX2_finalBySorting_2 : decode cX2_finalBySorting 2 = .ok (.invokevirtual 102, 3) := by decide +kernel
theorem dX2_finalBySorting_5 : decode cX2_finalBySorting 5 = .ok (.astore_n 2, 1) := by decide +kernel
theorem dX2_finalBySorting_6 : decode cX2_finalBySorting 6 = .ok (.aload_n 2, 1) := by decide +kernel
theorem dX2_finalBySorting_7 : decode cX2_finalBySorting 7 = .ok (.getfield 138, 3) := by decide +kernel
theorem dX2_finalBySorting_10 : decode cX2_finalBySorting 10 = .ok (.iconst (-1), 1) := by decide +kernel
theorem dX2_finalBySorting_11 : decode cX2_finalBySorting 11 = .ok (.if_icmp .ne 13, 3) := by decide +kernel
theorem dX2_finalBySorting_14 : decode cX2_finalBySorting 14 = .ok (.new 60, 3) := by decide +kernel
theorem dX2_finalBySorting_17 : decode cX2_finalBySorting 17 = .ok (.dup, 1) := by decide +kernel
theorem dX2_finalBySorting_18 : decode cX2_finalBySorting 18 = .ok (.ldc 152, 2) := by decide +kernel
theorem dX2_finalBySorting_20 : decode cX2_finalBySorting 20 = .ok (.invokespecial 64, 3) := by decide +kernel
theorem dX2_finalBySorting_23 : decode cX2_finalBySorting 23 = .ok (.athrow, 1) := by decide +kernel
theorem dX2_finalBySorting_24 : decode cX2_finalBySorting 24 = .ok (.aload_n 2, 1) := by decide +kernel
theorem dX2_finalBySorting_25 : decode cX2_finalBySorting 25 = .ok (.aload_n 0, 1) := by decide +kernel
theorem dX2_finalBySorting_26 : decode cX2_finalBySorting 26 = .ok (.getfield 28, 3) := by decide +kernel
theorem dX2_finalBySorting_29 : decode cX2_finalBySorting 29 = .ok (.invokevirtual 154, 3) := by decide +kernel
theorem dX2_finalBySorting_32 : decode cX2_finalBySorting 32 = .ok (.ireturn, 1) := by decide +kernel
theorem dX2_branches_0 : decode cX2_branches 0 = .ok (.aload_n 0, 1) := by decide +kernel
theorem dX2_branches_1 : decode cX2_branches 1 = .ok (.iload_n 1, 1) := by decide +kernel
theorem dX2_branches_2 : decode cX2_branches 2 = .ok (.invokevirtual 102, 3) := by decide +kernel
theorem dX2_branches_5 : decode cX2_branches 5 = .ok (.getfield 158, 3) := by decide +kernel
theorem dX2_branches_8 : decode cX2_branches 8 = .ok (.ireturn, 1) := by decide +kernel
theorem dX2_device_0 : decode cX2_device 0 = .ok (.aload_n 0, 1) := by decide +kernel
theorem dX2_device_1 : decode cX2_device 1 = .ok (.iload_n 1, 1) := by decide +kernel
theorem dX2_device_2 : decode cX2_device 2 = .ok (.iload_n 2, 1) := by decide +kernel
theorem dX2_device_3 : decode cX2_device 3 = .ok (.invokevirtual 161, 3) := by decide +kernel
theorem dX2_device_6 : decode cX2_device 6 = .ok (.getfield 165, 3) := by decide +kernel
theorem dX2_device_9 : decode cX2_device 9 = .ok (.iload_n 2, 1) := by decide +kernel
theorem dX2_device_10 : decode cX2_device 10 = .ok (.iaload, 1) := by decide +kernel
theorem dX2_device_11 : decode cX2_device 11 = .ok (.ireturn, 1) := by decide +kernel
theorem dX2_state_0 : decode cX2_state 0 = .ok (.aload_n 0, 1) := by decide +kernel
theorem dX2_state_1 : decode cX2_state 1 = .ok (.iload_n 1, 1) := by decide +kernel
theorem dX2_state_2 : decode cX2_state 2 = .ok (.iload_n 2, 1) := by decide +kernel
theorem dX2_state_3 : decode cX2_state 3 = .ok (.invokevirtual 161, 3) := by decide +kernel
theorem dX2_state_6 : decode cX2_state 6 = .ok (.getfield 168, 3) := by decide +kernel
theorem dX2_state_9 : decode cX2_state 9 = .ok (.iload_n 2, 1) := by decide +kernel
theorem dX2_state_10 : decode cX2_state 10 = .ok (.iaload, 1) := by decide +kernel
theorem dX2_state_11 : decode cX2_state 11 = .ok (.ireturn, 1) := by decide +kernel
theorem dX2_answered_0 : decode cX2_answered 0 = .ok (.aload_n 0, 1) := by decide +kernel
theorem dX2_answered_1 : decode cX2_answered 1 = .ok (.iload_n 1, 1) := by decide +kernel
theorem dX2_answered_2 : decode cX2_answered 2 = .ok (.invokevirtual 102, 3) := by decide +kernel
theorem dX2_answered_5 : decode cX2_answered 5 = .ok (.getfield 171, 3) := by decide +kernel
theorem dX2_answered_8 : decode cX2_answered 8 = .ok (.ireturn, 1) := by decide +kernel
theorem dX2_hungUp_0 : decode cX2_hungUp 0 = .ok (.iload_n 1, 1) := by decide +kernel
theorem dX2_hungUp_1 : decode cX2_hungUp 1 = .ok (.bipush 9, 2) := by decide +kernel
theorem dX2_hungUp_3 : decode cX2_hungUp 3 = .ok (.invokestatic 44, 3) := by decide +kernel
theorem dX2_hungUp_6 : decode cX2_hungUp 6 = .ok (.ifCond .eq 13, 3) := by decide +kernel
theorem dX2_hungUp_9 : decode cX2_hungUp 9 = .ok (.new 48, 3) := by decide +kernel
theorem dX2_hungUp_12 : decode cX2_hungUp 12 = .ok (.dup, 1) := by decide +kernel
theorem dX2_hungUp_13 : decode cX2_hungUp 13 = .ok (.ldc 174, 2) := by decide +kernel
theorem dX2_hungUp_15 : decode cX2_hungUp 15 = .ok (.invokespecial 52, 3) := by decide +kernel
theorem dX2_hungUp_18 : decode cX2_hungUp 18 = .ok (.athrow, 1) := by decide +kernel
theorem dX2_hungUp_19 : decode cX2_hungUp 19 = .ok (.aload_n 0, 1) := by decide +kernel
theorem dX2_hungUp_20 : decode cX2_hungUp 20 = .ok (.getfield 21, 3) := by decide +kernel
theorem dX2_hungUp_23 : decode cX2_hungUp 23 = .ok (.iload_n 1, 1) := by decide +kernel
theorem dX2_hungUp_24 : decode cX2_hungUp 24 = .ok (.iaload, 1) := by decide +kernel
theorem dX2_hungUp_25 : decode cX2_hungUp 25 = .ok (.ireturn, 1) := by decide +kernel
theorem dX2_isOutside_0 : decode cX2_isOutside 0 = .ok (.iload_n 0, 1) := by decide +kernel
theorem dX2_isOutside_1 : decode cX2_isOutside 1 = .ok (.ifCond .lt 8, 3) := by decide +kernel
theorem dX2_isOutside_4 : decode cX2_isOutside 4 = .ok (.iload_n 0, 1) := by decide +kernel
theorem dX2_isOutside_5 : decode cX2_isOutside 5 = .ok (.iload_n 1, 1) := by decide +kernel
theorem dX2_isOutside_6 : decode cX2_isOutside 6 = .ok (.if_icmp .le 7, 3) := by decide +kernel
theorem dX2_isOutside_9 : decode cX2_isOutside 9 = .ok (.iconst 1, 1) := by decide +kernel
theorem dX2_isOutside_10 : decode cX2_isOutside 10 = .ok (.goto 4, 3) := by decide +kernel
theorem dX2_isOutside_13 : decode cX2_isOutside 13 = .ok (.iconst 0, 1) := by decide +kernel
theorem dX2_isOutside_14 : decode cX2_isOutside 14 = .ok (.ireturn, 1) := by decide +kernel
theorem dX2_isNoAnswer_0 : decode cX2_isNoAnswer 0 = .ok (.iload_n 0, 1) := by decide +kernel
theorem dX2_isNoAnswer_1 : decode cX2_isNoAnswer 1 = .ok (.sipush 180, 3) := by decide +kernel
theorem dX2_isNoAnswer_4 : decode cX2_isNoAnswer 4 = .ok (.if_icmp .eq 21, 3) := by decide +kernel
theorem dX2_isNoAnswer_7 : decode cX2_isNoAnswer 7 = .ok (.iload_n 0, 1) := by decide +kernel
theorem dX2_isNoAnswer_8 : decode cX2_isNoAnswer 8 = .ok (.sipush 200, 3) := by decide +kernel
theorem dX2_isNoAnswer_11 : decode cX2_isNoAnswer 11 = .ok (.if_icmp .lt 10, 3) := by decide +kernel
theorem dX2_isNoAnswer_14 : decode cX2_isNoAnswer 14 = .ok (.iload_n 0, 1) := by decide +kernel
theorem dX2_isNoAnswer_15 : decode cX2_isNoAnswer 15 = .ok (.sipush 699, 3) := by decide +kernel
theorem dX2_isNoAnswer_18 : decode cX2_isNoAnswer 18 = .ok (.if_icmp .le 7, 3) := by decide +kernel
theorem dX2_isNoAnswer_21 : decode cX2_isNoAnswer 21 = .ok (.iconst 1, 1) := by decide +kernel
theorem dX2_isNoAnswer_22 : decode cX2_isNoAnswer 22 = .ok (.goto 4, 3) := by decide +kernel
theorem dX2_isNoAnswer_25 : decode cX2_isNoAnswer 25 = .ok (.iconst 0, 1) := by decide +kernel
theorem dX2_isNoAnswer_26 : decode cX2_isNoAnswer 26 = .ok (.ireturn, 1) := by decide +kernel
theorem dX2_rowOf_0 : decode cX2_rowOf 0 = .ok (.iload_n 1, 1) := by decide +kernel
theorem dX2_rowOf_1 : decode cX2_rowOf 1 = .ok (.iconst 5, 1) := by decide +kernel
theorem dX2_rowOf_2 : decode cX2_rowOf 2 = .ok (.invokestatic 44, 3) := by decide +kernel
theorem dX2_rowOf_5 : decode cX2_rowOf 5 = .ok (.ifCond .eq 13, 3) := by decide +kernel
theorem dX2_rowOf_8 : decode cX2_rowOf 8 = .ok (.new 48, 3) := by decide +kernel
theorem dX2_rowOf_11 : decode cX2_rowOf 11 = .ok (.dup, 1) := by decide +kernel
theorem dX2_rowOf_12 : decode cX2_rowOf 12 = .ok (.ldc 90, 2) := by decide +kernel
theorem dX2_rowOf_14 : decode cX2_rowOf 14 = .ok (.invokespecial 52, 3) := by decide +kernel
theorem dX2_rowOf_17 : decode cX2_rowOf 17 = .ok (.athrow, 1) := by decide +kernel
theorem dX2_rowOf_18 : decode cX2_rowOf 18 = .ok (.aload_n 0, 1) := by decide +kernel
theorem dX2_rowOf_19 : decode cX2_rowOf 19 = .ok (.getfield 11, 3) := by decide +kernel
theorem dX2_rowOf_22 : decode cX2_rowOf 22 = .ok (.iload_n 1, 1) := by decide +kernel
theorem dX2_rowOf_23 : decode cX2_rowOf 23 = .ok (.aaload, 1) := by decide +kernel
theorem dX2_rowOf_24 : decode cX2_rowOf 24 = .ok (.areturn, 1) := by decide +kernel
theorem dX2_callAt_0 : decode cX2_callAt 0 = .ok (.iload_n 1, 1) := by decide +kernel
theorem dX2_callAt_1 : decode cX2_callAt 1 = .ok (.aload_n 0, 1) := by decide +kernel
theorem dX2_callAt_2 : decode cX2_callAt 2 = .ok (.getfield 31, 3) := by decide +kernel
theorem dX2_callAt_5 : decode cX2_callAt 5 = .ok (.iconst 1, 1) := by decide +kernel
theorem dX2_callAt_6 : decode cX2_callAt 6 = .ok (.isub, 1) := by decide +kernel
theorem dX2_callAt_7 : decode cX2_callAt 7 = .ok (.invokestatic 44, 3) := by decide +kernel
theorem dX2_callAt_10 : decode cX2_callAt 10 = .ok (.ifCond .eq 13, 3) := by decide +kernel
theorem dX2_callAt_13 : decode cX2_callAt 13 = .ok (.new 82, 3) := by decide +kernel
theorem dX2_callAt_16 : decode cX2_callAt 16 = .ok (.dup, 1) := by decide +kernel
theorem dX2_callAt_17 : decode cX2_callAt 17 = .ok (.ldc 176, 2) := by decide +kernel
theorem dX2_callAt_19 : decode cX2_callAt 19 = .ok (.invokespecial 86, 3) := by decide +kernel
theorem dX2_callAt_22 : decode cX2_callAt 22 = .ok (.athrow, 1) := by decide +kernel
theorem dX2_callAt_23 : decode cX2_callAt 23 = .ok (.aload_n 0, 1) := by decide +kernel
theorem dX2_callAt_24 : decode cX2_callAt 24 = .ok (.getfield 17, 3) := by decide +kernel
theorem dX2_callAt_27 : decode cX2_callAt 27 = .ok (.iload_n 1, 1) := by decide +kernel
theorem dX2_callAt_28 : decode cX2_callAt 28 = .ok (.aaload, 1) := by decide +kernel
theorem dX2_callAt_29 : decode cX2_callAt 29 = .ok (.areturn, 1) := by decide +kernel
theorem dX2_callWith_0 : decode cX2_callWith 0 = .ok (.aload_n 0, 1) := by decide +kernel
theorem dX2_callWith_1 : decode cX2_callWith 1 = .ok (.iload_n 1, 1) := by decide +kernel
theorem dX2_callWith_2 : decode cX2_callWith 2 = .ok (.invokevirtual 102, 3) := by decide +kernel
theorem dX2_callWith_5 : decode cX2_callWith 5 = .ok (.astore_n 3, 1) := by decide +kernel
theorem dX2_callWith_6 : decode cX2_callWith 6 = .ok (.iload_n 2, 1) := by decide +kernel
theorem dX2_callWith_7 : decode cX2_callWith 7 = .ok (.aload_n 3, 1) := by decide +kernel
theorem dX2_callWith_8 : decode cX2_callWith 8 = .ok (.getfield 158, 3) := by decide +kernel
theorem dX2_callWith_11 : decode cX2_callWith 11 = .ok (.iconst 1, 1) := by decide +kernel
theorem dX2_callWith_12 : decode cX2_callWith 12 = .ok (.isub, 1) := by decide +kernel
theorem dX2_callWith_13 : decode cX2_callWith 13 = .ok (.invokestatic 44, 3) := by decide +kernel
theorem dX2_callWith_16 : decode cX2_callWith 16 = .ok (.ifCond .eq 13, 3) := by decide +kernel
theorem dX2_callWith_19 : decode cX2_callWith 19 = .ok (.new 82, 3) := by decide +kernel
theorem dX2_callWith_22 : decode cX2_callWith 22 = .ok (.dup, 1) := by decide +kernel
theorem dX2_callWith_23 : decode cX2_callWith 23 = .ok (.ldc 178, 2) := by decide +kernel
theorem dX2_callWith_25 : decode cX2_callWith 25 = .ok (.invokespecial 86, 3) := by decide +kernel
theorem dX2_callWith_28 : decode cX2_callWith 28 = .ok (.athrow, 1) := by decide +kernel
theorem dX2_callWith_29 : decode cX2_callWith 29 = .ok (.aload_n 3, 1) := by decide +kernel
theorem dX2_callWith_30 : decode cX2_callWith 30 = .ok (.areturn, 1) := by decide +kernel
theorem dX2_followUser_0 : decode cX2_followUser 0 = .ok (.iload 4, 2) := by decide +kernel
theorem dX2_followUser_2 : decode cX2_followUser 2 = .ok (.aload_n 0, 1) := by decide +kernel
theorem dX2_followUser_3 : decode cX2_followUser 3 = .ok (.getfield 25, 3) := by decide +kernel
theorem dX2_followUser_6 : decode cX2_followUser 6 = .ok (.arraylength, 1) := by decide +kernel
theorem dX2_followUser_7 : decode cX2_followUser 7 = .ok (.if_icmp .lt 4, 3) := by decide +kernel
theorem dX2_followUser_10 : decode cX2_followUser 10 = .ok (.return_, 1) := by decide +kernel
theorem dX2_followUser_11 : decode cX2_followUser 11 = .ok (.aload_n 0, 1) := by decide +kernel
theorem dX2_followUser_12 : decode cX2_followUser 12 = .ok (.getfield 25, 3) := by decide +kernel
theorem dX2_followUser_15 : decode cX2_followUser 15 = .ok (.iload 4, 2) := by decide +kernel
theorem dX2_followUser_17 : decode cX2_followUser 17 = .ok (.iload_n 2, 1) := by decide +kernel
theorem dX2_followUser_18 : decode cX2_followUser 18 = .ok (.iastore, 1) := by decide +kernel
theorem dX2_followUser_19 : decode cX2_followUser 19 = .ok (.aload_n 0, 1) := by decide +kernel
theorem dX2_followUser_20 : decode cX2_followUser 20 = .ok (.getfield 11, 3) := by decide +kernel
theorem dX2_followUser_23 : decode cX2_followUser 23 = .ok (.iload_n 2, 1) := by decide +kernel
theorem dX2_followUser_24 : decode cX2_followUser 24 = .ok (.aaload, 1) := by decide +kernel
theorem dX2_followUser_25 : decode cX2_followUser 25 = .ok (.astore 5, 2) := by decide +kernel
theorem dX2_followUser_27 : decode cX2_followUser 27 = .ok (.iconst 0, 1) := by decide +kernel
theorem dX2_followUser_28 : decode cX2_followUser 28 = .ok (.istore 6, 2) := by decide +kernel
theorem dX2_followUser_30 : decode cX2_followUser 30 = .ok (.iload 6, 2) := by decide +kernel
theorem dX2_followUser_32 : decode cX2_followUser 32 = .ok (.aload 5, 2) := by decide +kernel
theorem dX2_followUser_34 : decode cX2_followUser 34 = .ok (.getfield 180, 3) := by decide +kernel
theorem dX2_followUser_37 : decode cX2_followUser 37 = .ok (.if_icmp .ge 89, 3) := by decide +kernel
theorem dX2_followUser_40 : decode cX2_followUser 40 = .ok (.aload 5, 2) := by decide +kernel
theorem dX2_followUser_42 : decode cX2_followUser 42 = .ok (.getfield 183, 3) := by decide +kernel
theorem dX2_followUser_45 : decode cX2_followUser 45 = .ok (.iload 6, 2) := by decide +kernel
theorem dX2_followUser_47 : decode cX2_followUser 47 = .ok (.iaload, 1) := by decide +kernel
theorem dX2_followUser_48 : decode cX2_followUser 48 = .ok (.istore 7, 2) := by decide +kernel
theorem dX2_followUser_50 : decode cX2_followUser 50 = .ok (.aload 5, 2) := by decide +kernel
theorem dX2_followUser_52 : decode cX2_followUser 52 = .ok (.iload 7, 2) := by decide +kernel
theorem dX2_followUser_54 : decode cX2_followUser 54 = .ok (.aload_n 0, 1) := by decide +kernel
theorem dX2_followUser_55 : decode cX2_followUser 55 = .ok (.getfield 35, 3) := by decide +kernel
theorem dX2_followUser_58 : decode cX2_followUser 58 = .ok (.invokevirtual 186, 3) := by decide +kernel
theorem dX2_followUser_61 : decode cX2_followUser 61 = .ok (.ifCond .ne 6, 3) := by decide +kernel
theorem dX2_followUser_64 : decode cX2_followUser 64 = .ok (.goto 56, 3) := by decide +kernel
theorem dX2_followUser_67 : decode cX2_followUser 67 = .ok (.iload 4, 2) := by decide +kernel
theorem dX2_followUser_69 : decode cX2_followUser 69 = .ok (.ifCond .ne 14, 3) := by decide +kernel
theorem dX2_followUser_72 : decode cX2_followUser 72 = .ok (.aload 5, 2) := by decide +kernel
theorem dX2_followUser_74 : decode cX2_followUser 74 = .ok (.getfield 87, 3) := by decide +kernel
theorem dX2_followUser_77 : decode cX2_followUser 77 = .ok (.iload 7, 2) := by decide +kernel
theorem dX2_followUser_79 : decode cX2_followUser 79 = .ok (.iaload, 1) := by decide +kernel
theorem dX2_followUser_80 : decode cX2_followUser 80 = .ok (.goto 4, 3) := by decide +kernel
theorem dX2_followUser_83 : decode cX2_followUser 83 = .ok (.iload_n 3, 1) := by decide +kernel
theorem dX2_followUser_84 : decode cX2_followUser 84 = .ok (.istore 8, 2) := by decide +kernel
theorem dX2_followUser_86 : decode cX2_followUser 86 = .ok (.iload 7, 2) := by decide +kernel
theorem dX2_followUser_88 : decode cX2_followUser 88 = .ok (.bipush 10, 2) := by decide +kernel
theorem dX2_followUser_90 : decode cX2_followUser 90 = .ok (.if_icmp .ge 14, 3) := by decide +kernel
theorem dX2_followUser_93 : decode cX2_followUser 93 = .ok (.aload_n 1, 1) := by decide +kernel
theorem dX2_followUser_94 : decode cX2_followUser 94 = .ok (.iload 7, 2) := by decide +kernel
theorem dX2_followUser_96 : decode cX2_followUser 96 = .ok (.iload 8, 2) := by decide +kernel
theorem dX2_followUser_98 : decode cX2_followUser 98 = .ok (.invokevirtual 189, 3) := by decide +kernel
theorem dX2_followUser_101 : decode cX2_followUser 101 = .ok (.goto 19, 3) := by decide +kernel
theorem dX2_followUser_104 : decode cX2_followUser 104 = .ok (.aload_n 0, 1) := by decide +kernel
theorem dX2_followUser_105 : decode cX2_followUser 105 = .ok (.aload_n 1, 1) := by decide +kernel
theorem dX2_followUser_106 : decode cX2_followUser 106 = .ok (.iload 7, 2) := by decide +kernel
theorem dX2_followUser_108 : decode cX2_followUser 108 = .ok (.bipush 10, 2) := by decide +kernel
theorem dX2_followUser_110 : decode cX2_followUser 110 = .ok (.isub, 1) := by decide +kernel
theorem dX2_followUser_111 : decode cX2_followUser 111 = .ok (.iload 8, 2) := by decide +kernel
theorem dX2_followUser_113 : decode cX2_followUser 113 = .ok (.iload 4, 2) := by decide +kernel
theorem dX2_followUser_115 : decode cX2_followUser 115 = .ok (.iconst 1, 1) := by decide +kernel
theorem dX2_followUser_116 : decode cX2_followUser 116 = .ok (.iadd, 1) := by decide +kernel
theorem dX2_followUser_117 : decode cX2_followUser 117 = .ok (.invokevirtual 193, 3) := by decide +kernel
theorem dX2_followUser_120 : decode cX2_followUser 120 = .ok (.iinc 6 1, 3) := by decide +kernel
theorem dX2_followUser_123 : decode cX2_followUser 123 = .ok (.goto (-93), 3) := by decide +kernel
theorem dX2_followUser_126 : decode cX2_followUser 126 = .ok (.return_, 1) := by decide +kernel
theorem dX2_comeToUser_0 : decode cX2_comeToUser 0 = .ok (.aload_n 0, 1) := by decide +kernel
theorem dX2_comeToUser_1 : decode cX2_comeToUser 1 = .ok (.iload_n 2, 1) := by decide +kernel
theorem dX2_comeToUser_2 : decode cX2_comeToUser 2 = .ok (.iload 4, 2) := by decide +kernel
theorem dX2_comeToUser_4 : decode cX2_comeToUser 4 = .ok (.invokevirtual 196, 3) := by decide +kernel
theorem dX2_comeToUser_7 : decode cX2_comeToUser 7 = .ok (.ifCond .eq 14, 3) := by decide +kernel
theorem dX2_comeToUser_10 : decode cX2_comeToUser 10 = .ok (.aload_n 1, 1) := by decide +kernel
theorem dX2_comeToUser_11 : decode cX2_comeToUser 11 = .ok (.iload_n 3, 1) := by decide +kernel
theorem dX2_comeToUser_12 : decode cX2_comeToUser 12 = .ok (.sipush 482, 3) := by decide +kernel
theorem dX2_comeToUser_15 : decode cX2_comeToUser 15 = .ok (.invokevirtual 199, 3) := by decide +kernel
theorem dX2_comeToUser_18 : decode cX2_comeToUser 18 = .ok (.goto 29, 3) := by decide +kernel
theorem dX2_comeToUser_21 : decode cX2_comeToUser 21 = .ok (.iload 4, 2) := by decide +kernel
theorem dX2_comeToUser_23 : decode cX2_comeToUser 23 = .ok (.iconst 2, 1) := by decide +kernel
theorem dX2_comeToUser_24 : decode cX2_comeToUser 24 = .ok (.if_icmp .le 14, 3) := by decide +kernel
theorem dX2_comeToUser_27 : decode cX2_comeToUser 27 = .ok (.aload_n 1, 1) := by decide +kernel
theorem dX2_comeToUser_28 : decode cX2_comeToUser 28 = .ok (.iload_n 3, 1) := by decide +kernel
theorem dX2_comeToUser_29 : decode cX2_comeToUser 29 = .ok (.sipush 483, 3) := by decide +kernel
theorem dX2_comeToUser_32 : decode cX2_comeToUser 32 = .ok (.invokevirtual 199, 3) := by decide +kernel
theorem dX2_comeToUser_35 : decode cX2_comeToUser 35 = .ok (.goto 12, 3) := by decide +kernel
theorem dX2_comeToUser_38 : decode cX2_comeToUser 38 = .ok (.aload_n 0, 1) := by decide +kernel
theorem dX2_comeToUser_39 : decode cX2_comeToUser 39 = .ok (.aload_n 1, 1) := by decide +kernel
theorem dX2_comeToUser_40 : decode cX2_comeToUser 40 = .ok (.iload_n 2, 1) := by decide +kernel
theorem dX2_comeToUser_41 : decode cX2_comeToUser 41 = .ok (.iload_n 3, 1) := by decide +kernel
theorem dX2_comeToUser_42 : decode cX2_comeToUser 42 = .ok (.iload 4, 2) := by decide +kernel
theorem dX2_comeToUser_44 : decode cX2_comeToUser 44 = .ok (.invokevirtual 94, 3) := by decide +kernel
theorem dX2_comeToUser_47 : decode cX2_comeToUser 47 = .ok (.return_, 1) := by decide +kernel
theorem dX2_isOnWay_0 : decode cX2_isOnWay 0 = .ok (.iconst 0, 1) := by decide +kernel
theorem dX2_isOnWay_1 : decode cX2_isOnWay 1 = .ok (.istore_n 3, 1) := by decide +kernel
theorem dX2_isOnWay_2 : decode cX2_isOnWay 2 = .ok (.iload_n 3, 1) := by decide +kernel
theorem dX2_isOnWay_3 : decode cX2_isOnWay 3 = .ok (.iload_n 2, 1) := by decide +kernel
theorem dX2_isOnWay_4 : decode cX2_isOnWay 4 = .ok (.if_icmp .ge 30, 3) := by decide +kernel
theorem dX2_isOnWay_7 : decode cX2_isOnWay 7 = .ok (.iload_n 3, 1) := by decide +kernel
theorem dX2_isOnWay_8 : decode cX2_isOnWay 8 = .ok (.aload_n 0, 1) := by decide +kernel
theorem dX2_isOnWay_9 : decode cX2_isOnWay 9 = .ok (.getfield 25, 3) := by decide +kernel
theorem dX2_isOnWay_12 : decode cX2_isOnWay 12 = .ok (.arraylength, 1) := by decide +kernel
theorem dX2_isOnWay_13 : decode cX2_isOnWay 13 = .ok (.if_icmp .ge 21, 3) := by decide +kernel
theorem dX2_isOnWay_16 : decode cX2_isOnWay 16 = .ok (.aload_n 0, 1) := by decide +kernel
theorem dX2_isOnWay_17 : decode cX2_isOnWay 17 = .ok (.getfield 25, 3) := by decide +kernel
theorem dX2_isOnWay_20 : decode cX2_isOnWay 20 = .ok (.iload_n 3, 1) := by decide +kernel
theorem dX2_isOnWay_21 : decode cX2_isOnWay 21 = .ok (.iaload, 1) := by decide +kernel
theorem dX2_isOnWay_22 : decode cX2_isOnWay 22 = .ok (.iload_n 1, 1) := by decide +kernel
theorem dX2_isOnWay_23 : decode cX2_isOnWay 23 = .ok (.if_icmp .ne 5, 3) := by decide +kernel
theorem dX2_isOnWay_26 : decode cX2_isOnWay 26 = .ok (.iconst 1, 1) := by decide +kernel
theorem dX2_isOnWay_27 : decode cX2_isOnWay 27 = .ok (.ireturn, 1) := by decide +kernel
theorem dX2_isOnWay_28 : decode cX2_isOnWay 28 = .ok (.iinc 3 1, 3) := by decide +kernel
theorem dX2_isOnWay_31 : decode cX2_isOnWay 31 = .ok (.goto (-29), 3) := by decide +kernel
theorem dX2_isOnWay_34 : decode cX2_isOnWay 34 = .ok (.iconst 0, 1) := by decide +kernel
theorem dX2_isOnWay_35 : decode cX2_isOnWay 35 = .ok (.ireturn, 1) := by decide +kernel
theorem dX2_lookAtCalls_0 : decode cX2_lookAtCalls 0 = .ok (.iconst 0, 1) := by decide +kernel
theorem dX2_lookAtCalls_1 : decode cX2_lookAtCalls 1 = .ok (.istore_n 1, 1) := by decide +kernel
theorem dX2_lookAtCalls_2 : decode cX2_lookAtCalls 2 = .ok (.iconst 0, 1) := by decide +kernel
theorem dX2_lookAtCalls_3 : decode cX2_lookAtCalls 3 = .ok (.istore_n 2, 1) := by decide +kernel
theorem dX2_lookAtCalls_4 : decode cX2_lookAtCalls 4 = .ok (.iload_n 2, 1) := by decide +kernel
theorem dX2_lookAtCalls_5 : decode cX2_lookAtCalls 5 = .ok (.aload_n 0, 1) := by decide +kernel
theorem dX2_lookAtCalls_6 : decode cX2_lookAtCalls 6 = .ok (.getfield 31, 3) := by decide +kernel
theorem dX2_lookAtCalls_9 : decode cX2_lookAtCalls 9 = .ok (.if_icmp .ge 28, 3) := by decide +kernel
theorem dX2_lookAtCalls_12 : decode cX2_lookAtCalls 12 = .ok (.aload_n 0, 1) := by decide +kernel
theorem dX2_lookAtCalls_13 : decode cX2_lookAtCalls 13 = .ok (.getfield 17, 3) := by decide +kernel
theorem dX2_lookAtCalls_16 : decode cX2_lookAtCalls 16 = .ok (.iload_n 2, 1) := by decide +kernel
theorem dX2_lookAtCalls_17 : decode cX2_lookAtCalls 17 = .ok (.aaload, 1) := by decide +kernel
theorem dX2_lookAtCalls_18 : decode cX2_lookAtCalls 18 = .ok (.aload_n 0, 1) := by decide +kernel
theorem dX2_lookAtCalls_19 : decode cX2_lookAtCalls 19 = .ok (.getfield 35, 3) := by decide +kernel
theorem dX2_lookAtCalls_22 : decode cX2_lookAtCalls 22 = .ok (.invokevirtual 202, 3) := by decide +kernel
theorem dX2_lookAtCalls_25 : decode cX2_lookAtCalls 25 = .ok (.ifCond .eq 6, 3) := by decide +kernel
theorem dX2_lookAtCalls_28 : decode cX2_lookAtCalls 28 = .ok (.iinc 1 1, 3) := by decide +kernel
theorem dX2_lookAtCalls_31 : decode cX2_lookAtCalls 31 = .ok (.iinc 2 1, 3) := by decide +kernel
theorem dX2_lookAtCalls_34 : decode cX2_lookAtCalls 34 = .ok (.goto (-30), 3) := by decide +kernel
theorem dX2_lookAtCalls_37 : decode cX2_lookAtCalls 37 = .ok (.iload_n 1, 1) := by decide +kernel
theorem dX2_lookAtCalls_38 : decode cX2_lookAtCalls 38 = .ok (.ireturn, 1) := by decide +kernel
theorem dX3_init_0 : decode cX3_init 0 = .ok (.aload_n 0, 1) := by decide +kernel
theorem dX3_init_1 : decode cX3_init 1 = .ok (.invokespecial 1, 3) := by decide +kernel
theorem dX3_init_4 : decode cX3_init 4 = .ok (.aload_n 0, 1) := by decide +kernel
theorem dX3_init_5 : decode cX3_init 5 = .ok (.bipush 96, 2) := by decide +kernel
theorem dX3_init_7 : decode cX3_init 7 = .ok (.newarray .boolean, 2) := by decide +kernel
theorem dX3_init_9 : decode cX3_init 9 = .ok (.putfield 7, 3) := by decide +kernel
theorem dX3_init_12 : decode cX3_init 12 = .ok (.aload_n 0, 1) := by decide +kernel
theorem dX3_init_13 : decode cX3_init 13 = .ok (.bipush 96, 2) := by decide +kernel
theorem dX3_init_15 : decode cX3_init 15 = .ok (.newarray .int, 2) := by decide +kernel
theorem dX3_init_17 : decode cX3_init 17 = .ok (.putfield 13, 3) := by decide +kernel
theorem dX3_init_20 : decode cX3_init 20 = .ok (.aload_n 0, 1) := by decide +kernel
theorem dX3_init_21 : decode cX3_init 21 = .ok (.bipush 96, 2) := by decide +kernel
theorem dX3_init_23 : decode cX3_init 23 = .ok (.newarray .int, 2) := by decide +kernel
theorem dX3_init_25 : decode cX3_init 25 = .ok (.putfield 17, 3) := by decide +kernel
theorem dX3_init_28 : decode cX3_init 28 = .ok (.aload_n 0, 1) := by decide +kernel
theorem dX3_init_29 : decode cX3_init 29 = .ok (.bipush 96, 2) := by decide +kernel
theorem dX3_init_31 : decode cX3_init 31 = .ok (.newarray .int, 2) := by decide +kernel
theorem dX3_init_33 : decode cX3_init 33 = .ok (.putfield 20, 3) := by decide +kernel
theorem dX3_init_36 : decode cX3_init 36 = .ok (.aload_n 0, 1) := by decide +kernel
theorem dX3_init_37 : decode cX3_init 37 = .ok (.bipush 96, 2) := by decide +kernel
theorem dX3_init_39 : decode cX3_init 39 = .ok (.newarray .int, 2) := by decide +kernel
theorem dX3_init_41 : decode cX3_init 41 = .ok (.putfield 23, 3) := by decide +kernel
theorem dX3_init_44 : decode cX3_init 44 = .ok (.aload_n 0, 1) := by decide +kernel
theorem dX3_init_45 : decode cX3_init 45 = .ok (.bipush 6, 2) := by decide +kernel
theorem dX3_init_47 : decode cX3_init 47 = .ok (.newarray .int, 2) := by decide +kernel
theorem dX3_init_49 : decode cX3_init 49 = .ok (.putfield 26, 3) := by decide +kernel
theorem dX3_init_52 : decode cX3_init 52 = .ok (.aload_n 0, 1) := by decide +kernel
theorem dX3_init_53 : decode cX3_init 53 = .ok (.bipush 20, 2) := by decide +kernel
theorem dX3_init_55 : decode cX3_init 55 = .ok (.newarray .int, 2) := by decide +kernel
theorem dX3_init_57 : decode cX3_init 57 = .ok (.putfield 29, 3) := by decide +kernel
theorem dX3_init_60 : decode cX3_init 60 = .ok (.aload_n 0, 1) := by decide +kernel
theorem dX3_init_61 : decode cX3_init 61 = .ok (.bipush 20, 2) := by decide +kernel
theorem dX3_init_63 : decode cX3_init 63 = .ok (.newarray .int, 2) := by decide +kernel
theorem dX3_init_65 : decode cX3_init 65 = .ok (.putfield 32, 3) := by decide +kernel
theorem dX3_init_68 : decode cX3_init 68 = .ok (.aload_n 0, 1) := by decide +kernel
theorem dX3_init_69 : decode cX3_init 69 = .ok (.bipush 20, 2) := by decide +kernel
theorem dX3_init_71 : decode cX3_init 71 = .ok (.newarray .int, 2) := by decide +kernel
theorem dX3_init_73 : decode cX3_init 73 = .ok (.putfield 35, 3) := by decide +kernel
theorem dX3_init_76 : decode cX3_init 76 = .ok (.aload_n 0, 1) := by decide +kernel
theorem dX3_init_77 : decode cX3_init 77 = .ok (.bipush 20, 2) := by decide +kernel
theorem dX3_init_79 : decode cX3_init 79 = .ok (.newarray .int, 2) := by decide +kernel
theorem dX3_init_81 : decode cX3_init 81 = .ok (.putfield 38, 3) := by decide +kernel
theorem dX3_init_84 : decode cX3_init 84 = .ok (.aload_n 0, 1) := by decide +kernel
theorem dX3_init_85 : decode cX3_init 85 = .ok (.bipush 20, 2) := by decide +kernel
theorem dX3_init_87 : decode cX3_init 87 = .ok (.newarray .int, 2) := by decide +kernel
theorem dX3_init_89 : decode cX3_init 89 = .ok (.putfield 41, 3) := by decide +kernel
theorem dX3_init_92 : decode cX3_init 92 = .ok (.aload_n 0, 1) := by decide +kernel
theorem dX3_init_93 : decode cX3_init 93 = .ok (.sipush 240, 3) := by decide +kernel
theorem dX3_init_96 : decode cX3_init 96 = .ok (.newarray .int, 2) := by decide +kernel
theorem dX3_init_98 : decode cX3_init 98 = .ok (.putfield 44, 3) := by decide +kernel
theorem dX3_init_101 : decode cX3_init 101 = .ok (.aload_n 0, 1) := by decide +kernel
theorem dX3_init_102 : decode cX3_init 102 = .ok (.sipush 240, 3) := by decide +kernel
theorem dX3_init_105 : decode cX3_init 105 = .ok (.newarray .int, 2) := by decide +kernel
theorem dX3_init_107 : decode cX3_init 107 = .ok (.putfield 47, 3) := by decide +kernel
theorem dX3_init_110 : decode cX3_init 110 = .ok (.aload_n 0, 1) := by decide +kernel
theorem dX3_init_111 : decode cX3_init 111 = .ok (.sipush 240, 3) := by decide +kernel
theorem dX3_init_114 : decode cX3_init 114 = .ok (.newarray .int, 2) := by decide +kernel
theorem dX3_init_116 : decode cX3_init 116 = .ok (.putfield 50, 3) := by decide +kernel
theorem dX3_init_119 : decode cX3_init 119 = .ok (.aload_n 0, 1) := by decide +kernel
theorem dX3_init_120 : decode cX3_init 120 = .ok (.sipush 240, 3) := by decide +kernel
theorem dX3_init_123 : decode cX3_init 123 = .ok (.newarray .boolean, 2) := by decide +kernel
theorem dX3_init_125 : decode cX3_init 125 = .ok (.putfield 53, 3) := by decide +kernel
theorem dX3_init_128 : decode cX3_init 128 = .ok (.aload_n 0, 1) := by decide +kernel
theorem dX3_init_129 : decode cX3_init 129 = .ok (.bipush 10, 2) := by decide +kernel
theorem dX3_init_131 : decode cX3_init 131 = .ok (.newarray .int, 2) := by decide +kernel
theorem dX3_init_133 : decode cX3_init 133 = .ok (.putfield 56, 3) := by decide +kernel
theorem dX3_init_136 : decode cX3_init 136 = .ok (.return_, 1) := by decide +kernel
theorem dX3_thrown_0 : decode cX3_thrown 0 = .ok (.aload_n 0, 1) := by decide +kernel
theorem dX3_thrown_1 : decode cX3_thrown 1 = .ok (.getfield 59, 3) := by decide +kernel
theorem dX3_thrown_4 : decode cX3_thrown 4 = .ok (.ireturn, 1) := by decide +kernel
theorem dX3_holds_0 : decode cX3_holds 0 = .ok (.aload_n 0, 1) := by decide +kernel
theorem dX3_holds_1 : decode cX3_holds 1 = .ok (.iload_n 1, 1) := by decide +kernel
theorem dX3_holds_2 : decode cX3_holds 2 = .ok (.putfield 59, 3) := by decide +kernel
theorem dX3_holds_5 : decode cX3_holds 5 = .ok (.iload_n 1, 1) := by decide +kernel
theorem dX3_holds_6 : decode cX3_holds 6 = .ok (.ifCond .ne 7, 3) := by decide +kernel
theorem dX3_holds_9 : decode cX3_holds 9 = .ok (.iconst 1, 1) := by decide +kernel
theorem dX3_holds_10 : decode cX3_holds 10 = .ok (.goto 4, 3) := by decide +kernel
theorem dX3_holds_13 : decode cX3_holds 13 = .ok (.iconst 0, 1) := by decide +kernel
theorem dX3_holds_14 : decode cX3_holds 14 = .ok (.ireturn, 1) := by decide +kernel
theorem dX3_isIn_0 : decode cX3_isIn 0 = .ok (.iload_n 0, 1) := by decide +kernel
theorem dX3_isIn_1 : decode cX3_isIn 1 = .ok (.iload_n 1, 1) := by decide +kernel
theorem dX3_isIn_2 : decode cX3_isIn 2 = .ok (.if_icmp .lt 12, 3) := by decide +kernel
theorem dX3_isIn_5 : decode cX3_isIn 5 = .ok (.iload_n 0, 1) := by decide +kernel
theorem dX3_isIn_6 : decode cX3_isIn 6 = .ok (.iload_n 2, 1) := by decide +kernel
theorem dX3_isIn_7 : decode cX3_isIn 7 = .ok (.if_icmp .gt 7, 3) := by decide +kernel
theorem dX3_isIn_10 : decode cX3_isIn 10 = .ok (.iconst 1, 1) := by decide +kernel
theorem dX3_isIn_11 : decode cX3_isIn 11 = .ok (.goto 4, 3) := by decide +kernel
theorem dX3_isIn_14 : decode cX3_isIn 14 = .ok (.iconst 0, 1) := by decide +kernel
theorem dX3_isIn_15 : decode cX3_isIn 15 = .ok (.ireturn, 1) := by decide +kernel
theorem dX3_isUser_0 : decode cX3_isUser 0 = .ok (.iload_n 0, 1) := by decide +kernel
theorem dX3_isUser_1 : decode cX3_isUser 1 = .ok (.iconst 0, 1) := by decide +kernel
theorem dX3_isUser_2 : decode cX3_isUser 2 = .ok (.iconst 5, 1) := by decide +kernel
theorem dX3_isUser_3 : decode cX3_isUser 3 = .ok (.invokestatic 63, 3) := by decide +kernel
theorem dX3_isUser_6 : decode cX3_isUser 6 = .ok (.ireturn, 1) := by decide +kernel
theorem dX3_isThere_0 : decode cX3_isThere 0 = .ok (.aload_n 0, 1) := by decide +kernel
theorem dX3_isThere_1 : decode cX3_isThere 1 = .ok (.getfield 7, 3) := by decide +kernel
theorem dX3_isThere_4 : decode cX3_isThere 4 = .ok (.bipush 16, 2) := by decide +kernel
theorem dX3_isThere_6 : decode cX3_isThere 6 = .ok (.iload_n 1, 1) := by decide +kernel
theorem dX3_isThere_7 : decode cX3_isThere 7 = .ok (.imul, 1) := by decide +kernel
theorem dX3_isThere_8 : decode cX3_isThere 8 = .ok (.iload_n 2, 1) := by decide +kernel
theorem dX3_isThere_9 : decode cX3_isThere 9 = .ok (.iadd, 1) := by decide +kernel
theorem dX3_isThere_10 : decode cX3_isThere 10 = .ok (.baload, 1) := by decide +kernel
theorem dX3_isThere_11 : decode cX3_isThere 11 = .ok (.ifCond .eq 25, 3) := by decide +kernel
theorem dX3_isThere_14 : decode cX3_isThere 14 = .ok (.aload_n 0, 1) := by decide +kernel
theorem dX3_isThere_15 : decode cX3_isThere 15 = .ok (.getfield 13, 3) := by decide +kernel
theorem dX3_isThere_18 : decode cX3_isThere 18 = .ok (.bipush 16, 2) := by decide +kernel
theorem dX3_isThere_20 : decode cX3_isThere 20 = .ok (.iload_n 1, 1) := by decide +kernel
theorem dX3_isThere_21 : decode cX3_isThere 21 = .ok (.imul, 1) := by decide +kernel
theorem dX3_isThere_22 : decode cX3_isThere 22 = .ok (.iload_n 2, 1) := by decide +kernel
theorem dX3_isThere_23 : decode cX3_isThere 23 = .ok (.iadd, 1) := by decide +kernel
theorem dX3_isThere_24 : decode cX3_isThere 24 = .ok (.iaload, 1) := by decide +kernel
theorem dX3_isThere_25 : decode cX3_isThere 25 = .ok (.aload_n 0, 1) := by decide +kernel
theorem dX3_isThere_26 : decode cX3_isThere 26 = .ok (.getfield 67, 3) := by decide +kernel
theorem dX3_isThere_29 : decode cX3_isThere 29 = .ok (.if_icmp .le 7, 3) := by decide +kernel
theorem dX3_isThere_32 : decode cX3_isThere 32 = .ok (.iconst 1, 1) := by decide +kernel
theorem dX3_isThere_33 : decode cX3_isThere 33 = .ok (.goto 4, 3) := by decide +kernel
theorem dX3_isThere_36 : decode cX3_isThere 36 = .ok (.iconst 0, 1) := by decide +kernel
theorem dX3_isThere_37 : decode cX3_isThere 37 = .ok (.ireturn, 1) := by decide +kernel
theorem dX3_there_0 : decode cX3_there 0 = .ok (.iconst 0, 1) := by decide +kernel
theorem dX3_there_1 : decode cX3_there 1 = .ok (.istore_n 2, 1) := by decide +kernel
theorem dX3_there_2 : decode cX3_there 2 = .ok (.iconst 0, 1) := by decide +kernel
theorem dX3_there_3 : decode cX3_there 3 = .ok (.istore_n 3, 1) := by decide +kernel
theorem dX3_there_4 : decode cX3_there 4 = .ok (.iload_n 3, 1) := by decide +kernel
theorem dX3_there_5 : decode cX3_there 5 = .ok (.bipush 16, 2) := by decide +kernel
theorem dX3_there_7 : decode cX3_there 7 = .ok (.if_icmp .ge 26, 3) := by decide +kernel
theorem dX3_there_10 : decode cX3_there 10 = .ok (.iload_n 2, 1) := by decide +kernel
theorem dX3_there_11 : decode cX3_there 11 = .ok (.aload_n 0, 1) := by decide +kernel
theorem dX3_there_12 : decode cX3_there 12 = .ok (.iload_n 1, 1) := by decide +kernel
theorem dX3_there_13 : decode cX3_there 13 = .ok (.iload_n 3, 1) := by decide +kernel
theorem dX3_there_14 : decode cX3_there 14 = .ok (.invokevirtual 70, 3) := by decide +kernel
theorem dX3_there_17 : decode cX3_there 17 = .ok (.ifCond .eq 7, 3) := by decide +kernel
theorem dX3_there_20 : decode cX3_there 20 = .ok (.iconst 1, 1) := by decide +kernel
theorem dX3_there_21 : decode cX3_there 21 = .ok (.goto 4, 3) := by decide +kernel
theorem dX3_there_24 : decode cX3_there 24 = .ok (.iconst 0, 1) := by decide +kernel
theorem dX3_there_25 : decode cX3_there 25 = .ok (.iadd, 1) := by decide +kernel
theorem dX3_there_26 : decode cX3_there 26 = .ok (.istore_n 2, 1) := by decide +kernel
theorem dX3_there_27 : decode cX3_there 27 = .ok (.iinc 3 1, 3) := by decide +kernel
theorem dX3_there_30 : decode cX3_there 30 = .ok (.goto (-26), 3) := by decide +kernel
theorem dX3_there_33 : decode cX3_there 33 = .ok (.iload_n 2, 1) := by decide +kernel
theorem dX3_there_34 : decode cX3_there 34 = .ok (.ireturn, 1) := by decide +kernel
theorem dX3_register_0 : decode cX3_register 0 = .ok (.iload_n 1, 1) := by decide +kernel
theorem dX3_register_1 : decode cX3_register 1 = .ok (.invokestatic 74, 3) := by decide +kernel
theorem dX3_register_4 : decode cX3_register 4 = .ok (.ifCond .eq 51, 3) := by decide +kernel
theorem dX3_register_7 : decode cX3_register 7 = .ok (.iload_n 2, 1) := by decide +kernel
theorem dX3_register_8 : decode cX3_register 8 = .ok (.iconst 0, 1) := by decide +kernel
theorem dX3_register_9 : decode cX3_register 9 = .ok (.bipush 15, 2) := by decide +kernel
theorem dX3_register_11 : decode cX3_register 11 = .ok (.invokestatic 63, 3) := by decide +kernel
theorem dX3_register_14 : decode cX3_register 14 = .ok (.ifCond .eq 41, 3) := by decide +kernel
theorem dX3_register_17 : decode cX3_register 17 = .ok (.iload_n 3, 1) := by decide +kernel
theorem dX3_register_18 : decode cX3_register 18 = .ok (.iconst 0, 1) := by decide +kernel
theorem dX3_register_19 : decode cX3_register 19 = .ok (.bipush 10, 2) := by decide +kernel
theorem dX3_register_21 : decode cX3_register 21 = .ok (.invokestatic 63, 3) := by decide +kernel
theorem dX3_register_24 : decode cX3_register 24 = .ok (.ifCond .eq 31, 3) := by decide +kernel
theorem dX3_register_27 : decode cX3_register 27 = .ok (.iload 4, 2) := by decide +kernel
theorem dX3_register_29 : decode cX3_register 29 = .ok (.iconst 0, 1) := by decide +kernel
theorem dX3_register_30 : decode cX3_register 30 = .ok (.sipush 1000, 3) := by decide +kernel
theorem dX3_register_33 : decode cX3_register 33 = .ok (.invokestatic 63, 3) := by decide +kernel
theorem dX3_register_36 : decode cX3_register 36 = .ok (.ifCond .eq 19, 3) := by decide +kernel
theorem dX3_register_39 : decode cX3_register 39 = .ok (.iload 5, 2) := by decide +kernel
theorem dX3_register_41 : decode cX3_register 41 = .ok (.iconst 0, 1) := by decide +kernel
theorem dX3_register_42 : decode cX3_register 42 = .ok (.sipush 10000, 3) := by decide +kernel
theorem dX3_register_45 : decode cX3_register 45 = .ok (.invokestatic 63, 3) := by decide +kernel
theorem dX3_register_48 : decode cX3_register 48 = .ok (.ifCond .eq 7, 3) := by decide +kernel
theorem dX3_register_51 : decode cX3_register 51 = .ok (.iconst 1, 1) := by decide +kernel
theorem dX3_register_52 : decode cX3_register 52 = .ok (.goto 4, 3) := by decide +kernel
theorem dX3_register_55 : decode cX3_register 55 = .ok (.iconst 0, 1) := by decide +kernel
theorem dX3_register_56 : decode cX3_register 56 = .ok (.istore 6, 2) := by decide +kernel
theorem dX3_register_58 : decode cX3_register 58 = .ok (.iload 6, 2) := by decide +kernel
theorem dX3_register_60 : decode cX3_register 60 = .ok (.ifCond .eq 12, 3) := by decide +kernel
theorem dX3_register_63 : decode cX3_register 63 = .ok (.bipush 16, 2) := by decide +kernel
theorem dX3_register_65 : decode cX3_register 65 = .ok (.iload_n 1, 1) := by decide +kernel
theorem dX3_register_66 : decode cX3_register 66 = .ok (.imul, 1) := by decide +kernel
theorem dX3_register_67 : decode cX3_register 67 = .ok (.iload_n 2, 1) := by decide +kernel
theorem dX3_register_68 : decode cX3_register 68 = .ok (.iadd, 1) := by decide +kernel
theorem dX3_register_69 : decode cX3_register 69 = .ok (.goto 4, 3) := by decide +kernel
theorem dX3_register_72 : decode cX3_register 72 = .ok (.iconst 0, 1) := by decide +kernel
theorem dX3_register_73 : decode cX3_register 73 = .ok (.istore 7, 2) := by decide +kernel
theorem dX3_register_75 : decode cX3_register 75 = .ok (.iload 6, 2) := by decide +kernel
theorem dX3_register_77 : decode cX3_register 77 = .ok (.ifCond .eq 29, 3) := by decide +kernel
theorem dX3_register_80 : decode cX3_register 80 = .ok (.aload_n 0, 1) := by decide +kernel
theorem dX3_register_81 : decode cX3_register 81 = .ok (.getfield 7, 3) := by decide +kernel
theorem dX3_register_84 : decode cX3_register 84 = .ok (.iload 7, 2) := by decide +kernel
theorem dX3_register_86 : decode cX3_register 86 = .ok (.baload, 1) := by decide +kernel
theorem dX3_register_87 : decode cX3_register 87 = .ok (.ifCond .eq 19, 3) := by decide +kernel
theorem dX3_register_90 : decode cX3_register 90 = .ok (.iload 5, 2) := by decide +kernel
theorem dX3_register_92 : decode cX3_register 92 = .ok (.aload_n 0, 1) := by decide +kernel
theorem dX3_register_93 : decode cX3_register 93 = .ok (.getfield 20, 3) := by decide +kernel
theorem dX3_register_96 : decode cX3_register 96 = .ok (.iload 7, 2) := by decide +kernel
theorem dX3_register_98 : decode cX3_register 98 = .ok (.iaload, 1) := by decide +kernel
theorem dX3_register_99 : decode cX3_register 99 = .ok (.if_icmp .gt 7, 3) := by decide +kernel
theorem dX3_register_102 : decode cX3_register 102 = .ok (.iconst 1, 1) := by decide +kernel
theorem dX3_register_103 : decode cX3_register 103 = .ok (.goto 4, 3) := by decide +kernel
theorem dX3_register_106 : decode cX3_register 106 = .ok (.iconst 0, 1) := by decide +kernel
theorem dX3_register_107 : decode cX3_register 107 = .ok (.istore 8, 2) := by decide +kernel
theorem dX3_register_109 : decode cX3_register 109 = .ok (.iload 6, 2) := by decide +kernel
theorem dX3_register_111 : decode cX3_register 111 = .ok (.ifCond .eq 37, 3) := by decide +kernel
theorem dX3_register_114 : decode cX3_register 114 = .ok (.iload 4, 2) := by decide +kernel
theorem dX3_register_116 : decode cX3_register 116 = .ok (.ifCond .le 32, 3) := by decide +kernel
theorem dX3_register_119 : decode cX3_register 119 = .ok (.aload_n 0, 1) := by decide +kernel
theorem dX3_register_120 : decode cX3_register 120 = .ok (.iload_n 1, 1) := by decide +kernel
theorem dX3_register_121 : decode cX3_register 121 = .ok (.invokevirtual 78, 3) := by decide +kernel
theorem dX3_register_124 : decode cX3_register 124 = .ok (.aload_n 0, 1) := by decide +kernel
theorem dX3_register_125 : decode cX3_register 125 = .ok (.iload_n 1, 1) := by decide +kernel
theorem dX3_register_126 : decode cX3_register 126 = .ok (.iload_n 2, 1) := by decide +kernel
theorem dX3_register_127 : decode cX3_register 127 = .ok (.invokevirtual 70, 3) := by decide +kernel
theorem dX3_register_130 : decode cX3_register 130 = .ok (.ifCond .eq 7, 3) := by decide +kernel
theorem dX3_register_133 : decode cX3_register 133 = .ok (.iconst 1, 1) := by decide +kernel
theorem dX3_register_134 : decode cX3_register 134 = .ok (.goto 4, 3) := by decide +kernel
theorem dX3_register_137 : decode cX3_register 137 = .ok (.iconst 0, 1) := by decide +kernel
theorem dX3_register_138 : decode cX3_register 138 = .ok (.isub, 1) := by decide +kernel
theorem dX3_register_139 : decode cX3_register 139 = .ok (.bipush 6, 2) := by decide +kernel
theorem dX3_register_141 : decode cX3_register 141 = .ok (.if_icmp .lt 7, 3) := by decide +kernel
theorem dX3_register_144 : decode cX3_register 144 = .ok (.iconst 1, 1) := by decide +kernel
theorem dX3_register_145 : decode cX3_register 145 = .ok (.goto 4, 3) := by decide +kernel
theorem dX3_register_148 : decode cX3_register 148 = .ok (.iconst 0, 1) := by decide +kernel
theorem dX3_register_149 : decode cX3_register 149 = .ok (.istore 9, 2) := by decide +kernel
theorem dX3_register_151 : decode cX3_register 151 = .ok (.aload_n 0, 1) := by decide +kernel
theorem dX3_register_152 : decode cX3_register 152 = .ok (.iload 6, 2) := by decide +kernel
theorem dX3_register_154 : decode cX3_register 154 = .ok (.ifCond .ne 7, 3) := by decide +kernel
theorem dX3_register_157 : decode cX3_register 157 = .ok (.iconst 1, 1) := by decide +kernel
theorem dX3_register_158 : decode cX3_register 158 = .ok (.goto 18, 3) := by decide +kernel
theorem dX3_register_161 : decode cX3_register 161 = .ok (.iload 8, 2) := by decide +kernel
theorem dX3_register_163 : decode cX3_register 163 = .ok (.ifCond .ne 8, 3) := by decide +kernel
theorem dX3_register_166 : decode cX3_register 166 = .ok (.iload 9, 2) := by decide +kernel
theorem dX3_register_168 : decode cX3_register 168 = .ok (.ifCond .eq 7, 3) := by decide +kernel
theorem dX3_register_171 : decode cX3_register 171 = .ok (.iconst 2, 1) := by decide +kernel
theorem dX3_register_172 : decode cX3_register 172 = .ok (.goto 4, 3) := by decide +kernel
theorem dX3_register_175 : decode cX3_register 175 = .ok (.iconst 0, 1) := by decide +kernel
theorem dX3_register_176 : decode cX3_register 176 = .ok (.invokevirtual 82, 3) := by decide +kernel
theorem dX3_register_179 : decode cX3_register 179 = .ok (.ifCond .ne 5, 3) := by decide +kernel
theorem dX3_register_182 : decode cX3_register 182 = .ok (.iconst 0, 1) := by decide +kernel
theorem dX3_register_183 : decode cX3_register 183 = .ok (.ireturn, 1) := by decide +kernel
theorem dX3_register_184 : decode cX3_register 184 = .ok (.aload_n 0, 1) := by decide +kernel
theorem dX3_register_185 : decode cX3_register 185 = .ok (.getfield 7, 3) := by decide +kernel
theorem dX3_register_188 : decode cX3_register 188 = .ok (.iload 7, 2) := by decide +kernel
theorem dX3_register_190 : decode cX3_register 190 = .ok (.baload, 1) := by decide +kernel
theorem dX3_register_191 : decode cX3_register 191 = .ok (.ifCond .ne 30, 3) := by decide +kernel
theorem dX3_register_194 : decode cX3_register 194 = .ok (.aload_n 0, 1) := by decide +kernel
theorem dX3_register_195 : decode cX3_register 195 = .ok (.getfield 23, 3) := by decide +kernel
theorem dX3_register_198 : decode cX3_register 198 = .ok (.bipush 16, 2) := by decide +kernel
theorem dX3_register_200 : decode cX3_register 200 = .ok (.iload_n 1, 1) := by decide +kernel
theorem dX3_register_201 : decode cX3_register 201 = .ok (.imul, 1) := by decide +kernel
theorem dX3_register_202 : decode cX3_register 202 = .ok (.aload_n 0, 1) := by decide +kernel
theorem dX3_register_203 : decode cX3_register 203 = .ok (.getfield 26, 3) := by decide +kernel
theorem dX3_register_206 : decode cX3_register 206 = .ok (.iload_n 1, 1) := by decide +kernel
theorem dX3_register_207 : decode cX3_register 207 = .ok (.iaload, 1) := by decide +kernel
theorem dX3_register_208 : decode cX3_register 208 = .ok (.iadd, 1) := by decide +kernel
theorem dX3_register_209 : decode cX3_register 209 = .ok (.iload_n 2, 1) := by decide +kernel
theorem dX3_register_210 : decode cX3_register 210 = .ok (.iastore, 1) := by decide +kernel
theorem dX3_register_211 : decode cX3_register 211 = .ok (.aload_n 0, 1) := by decide +kernel
theorem dX3_register_212 : decode cX3_register 212 = .ok (.getfield 26, 3) := by decide +kernel
theorem dX3_register_215 : decode cX3_register 215 = .ok (.iload_n 1, 1) := by decide +kernel
theorem dX3_register_216 : decode cX3_register 216 = .ok (.dup2, 1) := by decide +kernel
theorem dX3_register_217 : decode cX3_register 217 = .ok (.iaload, 1) := by decide +kernel
theorem dX3_register_218 : decode cX3_register 218 = .ok (.iconst 1, 1) := by decide +kernel
theorem dX3_register_219 : decode cX3_register 219 = .ok (.iadd, 1) := by decide +kernel
theorem dX3_register_220 : decode cX3_register 220 = .ok (.iastore, 1) := by decide +kernel
theorem dX3_register_221 : decode cX3_register 221 = .ok (.aload_n 0, 1) := by decide +kernel
theorem dX3_register_222 : decode cX3_register 222 = .ok (.getfield 7, 3) := by decide +kernel
theorem dX3_register_225 : decode cX3_register 225 = .ok (.iload 7, 2) := by decide +kernel
theorem dX3_register_227 : decode cX3_register 227 = .ok (.iconst 1, 1) := by decide +kernel
theorem dX3_register_228 : decode cX3_register 228 = .ok (.bastore, 1) := by decide +kernel
theorem dX3_register_229 : decode cX3_register 229 = .ok (.aload_n 0, 1) := by decide +kernel
theorem dX3_register_230 : decode cX3_register 230 = .ok (.getfield 13, 3) := by decide +kernel
theorem dX3_register_233 : decode cX3_register 233 = .ok (.iload 7, 2) := by decide +kernel
theorem dX3_register_235 : decode cX3_register 235 = .ok (.aload_n 0, 1) := by decide +kernel
theorem dX3_register_236 : decode cX3_register 236 = .ok (.getfield 67, 3) := by decide +kernel
theorem dX3_register_239 : decode cX3_register 239 = .ok (.iload 4, 2) := by decide +kernel
theorem dX3_register_241 : decode cX3_register 241 = .ok (.iadd, 1) := by decide +kernel
theorem dX3_register_242 : decode cX3_register 242 = .ok (.iastore, 1) := by decide +kernel
theorem dX3_register_243 : decode cX3_register 243 = .ok (.aload_n 0, 1) := by decide +kernel
theorem dX3_register_244 : decode cX3_register 244 = .ok (.getfield 17, 3) := by decide +kernel
theorem dX3_register_247 : decode cX3_register 247 = .ok (.iload 7, 2) := by decide +kernel
theorem dX3_register_249 : decode cX3_register 249 = .ok (.iload_n 3, 1) := by decide +kernel
theorem dX3_register_250 : decode cX3_register 250 = .ok (.iastore, 1) := by decide +kernel
theorem dX3_register_251 : decode cX3_register 251 = .ok (.aload_n 0, 1) := by decide +kernel
theorem dX3_register_252 : decode cX3_register 252 = .ok (.getfield 20, 3) := by decide +kernel
theorem dX3_register_255 : decode cX3_register 255 = .ok (.iload 7, 2) := by decide +kernel
theorem dX3_register_257 : decode cX3_register 257 = .ok (.iload 5, 2) := by decide +kernel
theorem dX3_register_259 : decode cX3_register 259 = .ok (.iastore, 1) := by decide +kernel
theorem dX3_register_260 : decode cX3_register 260 = .ok (.aload_n 0, 1) := by decide +kernel
theorem dX3_register_261 : decode cX3_register 261 = .ok (.iload_n 1, 1) := by decide +kernel
theorem dX3_register_262 : decode cX3_register 262 = .ok (.invokevirtual 78, 3) := by decide +kernel
theorem dX3_register_265 : decode cX3_register 265 = .ok (.ireturn, 1) := by decide +kernel
theorem dX3_bindings_0 : decode cX3_bindings 0 = .ok (.aload_n 0, 1) := by decide +kernel
theorem dX3_bindings_1 : decode cX3_bindings 1 = .ok (.iload_n 1, 1) := by decide +kernel
theorem dX3_bindings_2 : decode cX3_bindings 2 = .ok (.invokestatic 74, 3) := by decide +kernel
theorem dX3_bindings_5 : decode cX3_bindings 5 = .ok (.ifCond .eq 7, 3) := by decide +kernel
theorem dX3_bindings_8 : decode cX3_bindings 8 = .ok (.iconst 0, 1) := by decide +kernel
theorem dX3_bindings_9 : decode cX3_bindings 9 = .ok (.goto 4, 3) := by decide +kernel
theorem dX3_bindings_12 : decode cX3_bindings 12 = .ok (.iconst 1, 1) := by decide +kernel
theorem dX3_bindings_13 : decode cX3_bindings 13 = .ok (.invokevirtual 82, 3) := by decide +kernel
theorem dX3_bindings_16 : decode cX3_bindings 16 = .ok (.ifCond .eq 11, 3) := by decide +kernel
theorem dX3_bindings_19 : decode cX3_bindings 19 = .ok (.aload_n 0, 1) := by decide +kernel
theorem dX3_bindings_20 : decode cX3_bindings 20 = .ok (.iload_n 1, 1) := by decide +kernel
theorem dX3_bindings_21 : decode cX3_bindings 21 = .ok (.invokevirtual 78, 3) := by decide +kernel
theorem dX3_bindings_24 : decode cX3_bindings 24 = .ok (.goto 4, 3) := by decide +kernel
theorem dX3_bindings_27 : decode cX3_bindings 27 = .ok (.iconst 0, 1) := by decide +kernel
theorem dX3_bindings_28 : decode cX3_bindings 28 = .ok (.ireturn, 1) := by decide +kernel
theorem dX3_binding_0 : decode cX3_binding 0 = .ok (.iload_n 1, 1) := by decide +kernel
theorem dX3_binding_1 : decode cX3_binding 1 = .ok (.invokestatic 74, 3) := by decide +kernel
theorem dX3_binding_4 : decode cX3_binding 4 = .ok (.istore_n 3, 1) := by decide +kernel
theorem dX3_binding_5 : decode cX3_binding 5 = .ok (.iload_n 3, 1) := by decide +kernel
theorem dX3_binding_6 : decode cX3_binding 6 = .ok (.ifCond .eq 22, 3) := by decide +kernel
theorem dX3_binding_9 : decode cX3_binding 9 = .ok (.iload_n 2, 1) := by decide +kernel
theorem dX3_binding_10 : decode cX3_binding 10 = .ok (.iconst 0, 1) := by decide +kernel
theorem dX3_binding_11 : decode cX3_binding 11 = .ok (.aload_n 0, 1) := by decide +kernel
theorem dX3_binding_12 : decode cX3_binding 12 = .ok (.iload_n 1, 1) := by decide +kernel
theorem dX3_binding_13 : decode cX3_binding 13 = .ok (.invokevirtual 78, 3) := by decide +kernel
theorem dX3_binding_16 : decode cX3_binding 16 = .ok (.iconst 1, 1) := by decide +kernel
theorem dX3_binding_17 : decode cX3_binding 17 = .ok (.isub, 1) := by decide +kernel
theorem dX3_binding_18 : decode cX3_binding 18 = .ok (.invokestatic 63, 3) := by decide +kernel
theorem dX3_binding_21 : decode cX3_binding 21 = .ok (.ifCond .eq 7, 3) := by decide +kernel
theorem dX3_binding_24 : decode cX3_binding 24 = .ok (.iconst 1, 1) := by decide +kernel
theorem dX3_binding_25 : decode cX3_binding 25 = .ok (.goto 4, 3) := by decide +kernel
theorem dX3_binding_28 : decode cX3_binding 28 = .ok (.iconst 0, 1) := by decide +kernel
theorem dX3_binding_29 : decode cX3_binding 29 = .ok (.istore 4, 2) := by decide +kernel
theorem dX3_binding_31 : decode cX3_binding 31 = .ok (.aload_n 0, 1) := by decide +kernel
theorem dX3_binding_32 : decode cX3_binding 32 = .ok (.iload_n 3, 1) := by decide +kernel
theorem dX3_binding_33 : decode cX3_binding 33 = .ok (.ifCond .ne 7, 3) := by decide +kernel
theorem dX3_binding_36 : decode cX3_binding 36 = .ok (.iconst 1, 1) := by decide +kernel
theorem dX3_binding_37 : decode cX3_binding 37 = .ok (.goto 13, 3) := by decide +kernel
theorem dX3_binding_40 : decode cX3_binding 40 = .ok (.iload 4, 2) := by decide +kernel
theorem dX3_binding_42 : decode cX3_binding 42 = .ok (.ifCond .eq 7, 3) := by decide +kernel
theorem dX3_binding_45 : decode cX3_binding 45 = .ok (.iconst 0, 1) := by decide +kernel
theorem dX3_binding_46 : decode cX3_binding 46 = .ok (.goto 4, 3) := by decide +kernel
theorem dX3_binding_49 : decode cX3_binding 49 = .ok (.iconst 2, 1) := by decide +kernel
theorem dX3_binding_50 : decode cX3_binding 50 = .ok (.invokevirtual 82, 3) := by decide +kernel
theorem dX3_binding_53 : decode cX3_binding 53 = .ok (.ifCond .ne 5, 3) := by decide +kernel
theorem dX3_binding_56 : decode cX3_binding 56 = .ok (.iconst 0, 1) := by decide +kernel
theorem dX3_binding_57 : decode cX3_binding 57 = .ok (.ireturn, 1) := by decide +kernel
theorem dX3_binding_58 : decode cX3_binding 58 = .ok (.iconst 0, 1) := by decide +kernel
theorem dX3_binding_59 : decode cX3_binding 59 = .ok (.istore 5, 2) := by decide +kernel
theorem dX3_binding_61 : decode cX3_binding 61 = .ok (.iconst 0, 1) := by decide +kernel
theorem dX3_binding_62 : decode cX3_binding 62 = .ok (.istore 6, 2) := by decide +kernel
theorem dX3_binding_64 : decode cX3_binding 64 = .ok (.iload 6, 2) := by decide +kernel
theorem dX3_binding_66 : decode cX3_binding 66 = .ok (.aload_n 0, 1) := by decide +kernel
theorem dX3_binding_67 : decode cX3_binding 67 = .ok (.getfield 26, 3) := by decide +kernel
theorem dX3_binding_70 : decode cX3_binding 70 = .ok (.iload_n 1, 1) := by decide +kernel
theorem dX3_binding_71 : decode cX3_binding 71 = .ok (.iaload, 1) := by decide +kernel
theorem dX3_binding_72 : decode cX3_binding 72 = .ok (.if_icmp .ge 77, 3) := by decide +kernel
theorem dX3_binding_75 : decode cX3_binding 75 = .ok (.aload_n 0, 1) := by decide +kernel
theorem dX3_binding_76 : decode cX3_binding 76 = .ok (.getfield 23, 3) := by decide +kernel
theorem dX3_binding_79 : decode cX3_binding 79 = .ok (.bipush 16, 2) := by decide +kernel
theorem dX3_binding_81 : decode cX3_binding 81 = .ok (.iload_n 1, 1) := by decide +kernel
theorem dX3_binding_82 : decode cX3_binding 82 = .ok (.imul, 1) := by decide +kernel
theorem dX3_binding_83 : decode cX3_binding 83 = .ok (.iload 6, 2) := by decide +kernel
theorem dX3_binding_85 : decode cX3_binding 85 = .ok (.iadd, 1) := by decide +kernel
theorem dX3_binding_86 : decode cX3_binding 86 = .ok (.iaload, 1) := by decide +kernel
theorem dX3_binding_87 : decode cX3_binding 87 = .ok (.istore 7, 2) := by decide +kernel
theorem dX3_binding_89 : decode cX3_binding 89 = .ok (.aload_n 0, 1) := by decide +kernel
theorem dX3_binding_90 : decode cX3_binding 90 = .ok (.iload_n 1, 1) := by decide +kernel
theorem dX3_binding_91 : decode cX3_binding 91 = .ok (.iload 7, 2) := by decide +kernel
theorem dX3_binding_93 : decode cX3_binding 93 = .ok (.invokevirtual 70, 3) := by decide +kernel
theorem dX3_binding_96 : decode cX3_binding 96 = .ok (.istore 8, 2) := by decide +kernel
theorem dX3_binding_98 : decode cX3_binding 98 = .ok (.iload 8, 2) := by decide +kernel
theorem dX3_binding_100 : decode cX3_binding 100 = .ok (.ifCond .eq 28, 3) := by decide +kernel
theorem dX3_binding_103 : decode cX3_binding 103 = .ok (.iload 5, 2) := by decide +kernel
theorem dX3_binding_105 : decode cX3_binding 105 = .ok (.iload_n 2, 1) := by decide +kernel
theorem dX3_binding_106 : decode cX3_binding 106 = .ok (.if_icmp .ne 22, 3) := by decide +kernel
theorem dX3_binding_109 : decode cX3_binding 109 = .ok (.bipush 100, 2) := by decide +kernel
theorem dX3_binding_111 : decode cX3_binding 111 = .ok (.iload 7, 2) := by decide +kernel
theorem dX3_binding_113 : decode cX3_binding 113 = .ok (.imul, 1) := by decide +kernel
theorem dX3_binding_114 : decode cX3_binding 114 = .ok (.aload_n 0, 1) := by decide +kernel
theorem dX3_binding_115 : decode cX3_binding 115 = .ok (.getfield 17, 3) := by decide +kernel
theorem dX3_binding_118 : decode cX3_binding 118 = .ok (.bipush 16, 2) := by decide +kernel
theorem dX3_binding_120 : decode cX3_binding 120 = .ok (.iload_n 1, 1) := by decide +kernel
theorem dX3_binding_121 : decode cX3_binding 121 = .ok (.imul, 1) := by decide +kernel
theorem dX3_binding_122 : decode cX3_binding 122 = .ok (.iload 7, 2) := by decide +kernel
theorem dX3_binding_124 : decode cX3_binding 124 = .ok (.iadd, 1) := by decide +kernel
theorem dX3_binding_125 : decode cX3_binding 125 = .ok (.iaload, 1) := by decide +kernel
theorem dX3_binding_126 : decode cX3_binding 126 = .ok (.iadd, 1) := by decide +kernel
theorem dX3_binding_127 : decode cX3_binding 127 = .ok (.ireturn, 1) := by decide +kernel
theorem dX3_binding_128 : decode cX3_binding 128 = .ok (.iload 5, 2) := by decide +kernel
theorem dX3_binding_130 : decode cX3_binding 130 = .ok (.iload 8, 2) := by decide +kernel
theorem dX3_binding_132 : decode cX3_binding 132 = .ok (.ifCond .eq 7, 3) := by decide +kernel
theorem dX3_binding_135 : decode cX3_binding 135 = .ok (.iconst 1, 1) := by decide +kernel
theorem dX3_binding_136 : decode cX3_binding 136 = .ok (.goto 4, 3) := by decide +kernel
theorem dX3_binding_139 : decode cX3_binding 139 = .ok (.iconst 0, 1) := by decide +kernel
theorem dX3_binding_140 : decode cX3_binding 140 = .ok (.iadd, 1) := by decide +kernel
theorem dX3_binding_141 : decode cX3_binding 141 = .ok (.istore 5, 2) := by decide +kernel
theorem dX3_binding_143 : decode cX3_binding 143 = .ok (.iinc 6 1, 3) := by decide +kernel
theorem dX3_binding_146 : decode cX3_binding 146 = .ok (.goto (-82), 3) := by decide +kernel
theorem dX3_binding_149 : decode cX3_binding 149 = .ok (.iconst 0, 1) := by decide +kernel
theorem dX3_binding_150 : decode cX3_binding 150 = .ok (.ireturn, 1) := by decide +kernel
theorem dX3_hasDevice_0 : decode cX3_hasDevice 0 = .ok (.iconst 0, 1) := by decide +kernel
theorem dX3_hasDevice_1 : decode cX3_hasDevice 1 = .ok (.istore_n 3, 1) := by decide +kernel
theorem dX3_hasDevice_2 : decode cX3_hasDevice 2 = .ok (.iconst 0, 1) := by decide +kernel
theorem dX3_hasDevice_3 : decode cX3_hasDevice 3 = .ok (.istore 4, 2) := by decide +kernel
theorem dX3_hasDevice_5 : decode cX3_hasDevice 5 = .ok (.iload 4, 2) := by decide +kernel
theorem dX3_hasDevice_7 : decode cX3_hasDevice 7 = .ok (.aload_n 0, 1) := by decide +kernel
theorem dX3_hasDevice_8 : decode cX3_hasDevice 8 = .ok (.getfield 35, 3) := by decide +kernel
theorem dX3_hasDevice_11 : decode cX3_hasDevice 11 = .ok (.iload_n 1, 1) := by decide +kernel
theorem dX3_hasDevice_12 : decode cX3_hasDevice 12 = .ok (.iaload, 1) := by decide +kernel
theorem dX3_hasDevice_13 : decode cX3_hasDevice 13 = .ok (.if_icmp .ge 35, 3) := by decide +kernel
theorem dX3_hasDevice_16 : decode cX3_hasDevice 16 = .ok (.iload_n 3, 1) := by decide +kernel
theorem dX3_hasDevice_17 : decode cX3_hasDevice 17 = .ok (.ifCond .ne 19, 3) := by decide +kernel
theorem dX3_hasDevice_20 : decode cX3_hasDevice 20 = .ok (.aload_n 0, 1) := by decide +kernel
theorem dX3_hasDevice_21 : decode cX3_hasDevice 21 = .ok (.getfield 44, 3) := by decide +kernel
theorem dX3_hasDevice_24 : decode cX3_hasDevice 24 = .ok (.bipush 12, 2) := by decide +kernel
theorem dX3_hasDevice_26 : decode cX3_hasDevice 26 = .ok (.iload_n 1, 1) := by decide +kernel
theorem dX3_hasDevice_27 : decode cX3_hasDevice 27 = .ok (.imul, 1) := by decide +kernel
theorem dX3_hasDevice_28 : decode cX3_hasDevice 28 = .ok (.iload 4, 2) := by decide +kernel
theorem dX3_hasDevice_30 : decode cX3_hasDevice 30 = .ok (.iadd, 1) := by decide +kernel
theorem dX3_hasDevice_31 : decode cX3_hasDevice 31 = .ok (.iaload, 1) := by decide +kernel
theorem dX3_hasDevice_32 : decode cX3_hasDevice 32 = .ok (.iload_n 2, 1) := by decide +kernel
theorem dX3_hasDevice_33 : decode cX3_hasDevice 33 = .ok (.if_icmp .ne 7, 3) := by decide +kernel
theorem dX3_hasDevice_36 : decode cX3_hasDevice 36 = .ok (.iconst 1, 1) := by decide +kernel
theorem dX3_hasDevice_37 : decode cX3_hasDevice 37 = .ok (.goto 4, 3) := by decide +kernel
theorem dX3_hasDevice_40 : decode cX3_hasDevice 40 = .ok (.iconst 0, 1) := by decide +kernel
theorem dX3_hasDevice_41 : decode cX3_hasDevice 41 = .ok (.istore_n 3, 1) := by decide +kernel
theorem dX3_hasDevice_42 : decode cX3_hasDevice 42 = .ok (.iinc 4 1, 3) := by decide +kernel
theorem dX3_hasDevice_45 : decode cX3_hasDevice 45 = .ok (.goto (-40), 3) := by decide +kernel
theorem dX3_hasDevice_48 : decode cX3_hasDevice 48 = .ok (.iload_n 3, 1) := by decide +kernel
theorem dX3_hasDevice_49 : decode cX3_hasDevice 49 = .ok (.ireturn, 1) := by decide +kernel
theorem dX3_adds_0 : decode cX3_adds 0 = .ok (.aload_n 0, 1) := by decide +kernel
theorem dX3_adds_1 : decode cX3_adds 1 = .ok (.getfield 35, 3) := by decide +kernel
theorem dX3_adds_4 : decode cX3_adds 4 = .ok (.iload_n 1, 1) := by decide +kernel
theorem dX3_adds_5 : decode cX3_adds 5 = .ok (.iaload, 1) := by decide +kernel
theorem dX3_adds_6 : decode cX3_adds 6 = .ok (.bipush 12, 2) := by decide +kernel
theorem dX3_adds_8 : decode cX3_adds 8 = .ok (.if_icmp .ge 21, 3) := by decide +kernel
theorem dX3_adds_11 : decode cX3_adds 11 = .ok (.iload_n 2, 1) := by decide +kernel
theorem dX3_adds_12 : decode cX3_adds 12 = .ok (.iconst (-1), 1) := by decide +kernel
theorem dX3_adds_13 : decode cX3_adds 13 = .ok (.if_icmp .eq 12, 3) := by decide +kernel
theorem dX3_adds_16 : decode cX3_adds 16 = .ok (.aload_n 0, 1) := by decide +kernel
theorem dX3_adds_17 : decode cX3_adds 17 = .ok (.iload_n 1, 1) := by decide +kernel
theorem dX3_adds_18 : decode cX3_adds 18 = .ok (.iload_n 2, 1) := by decide +kernel
theorem dX3_adds_19 : decode cX3_adds 19 = .ok (.invokevirtual 85, 3) := by decide +kernel
theorem dX3_adds_22 : decode cX3_adds 22 = .ok (.ifCond .ne 7, 3) := by decide +kernel
theorem dX3_adds_25 : decode cX3_adds 25 = .ok (.iconst 1, 1) := by decide +kernel
theorem dX3_adds_26 : decode cX3_adds 26 = .ok (.goto 4, 3) := by decide +kernel
theorem dX3_adds_29 : decode cX3_adds 29 = .ok (.iconst 0, 1) := by decide +kernel
theorem dX3_adds_30 : decode cX3_adds 30 = .ok (.istore 5, 2) := by decide +kernel
theorem dX3_adds_32 : decode cX3_adds 32 = .ok (.iload 5, 2) := by decide +kernel
theorem dX3_adds_34 : decode cX3_adds 34 = .ok (.ifCond .eq 59, 3) := by decide +kernel
theorem dX3_adds_37 : decode cX3_adds 37 = .ok (.bipush 12, 2) := by decide +kernel
theorem dX3_adds_39 : decode cX3_adds 39 = .ok (.iload_n 1, 1) := by decide +kernel
theorem dX3_adds_40 : decode cX3_adds 40 = .ok (.imul, 1) := by decide +kernel
theorem dX3_adds_41 : decode cX3_adds 41 = .ok (.aload_n 0, 1) := by decide +kernel
theorem dX3_adds_42 : decode cX3_adds 42 = .ok (.getfield 35, 3) := by decide +kernel
theorem dX3_adds_45 : decode cX3_adds 45 = .ok (.iload_n 1, 1) := by decide +kernel
theorem dX3_adds_46 : decode cX3_adds 46 = .ok (.iaload, 1) := by decide +kernel
theorem dX3_adds_47 : decode cX3_adds 47 = .ok (.iadd, 1) := by decide +kernel
theorem dX3_adds_48 : decode cX3_adds 48 = .ok (.istore 6, 2) := by decide +kernel
theorem dX3_adds_50 : decode cX3_adds 50 = .ok (.aload_n 0, 1) := by decide +kernel
theorem dX3_adds_51 : decode cX3_adds 51 = .ok (.getfield 44, 3) := by decide +kernel
theorem dX3_adds_54 : decode cX3_adds 54 = .ok (.iload 6, 2) := by decide +kernel
theorem dX3_adds_56 : decode cX3_adds 56 = .ok (.iload_n 2, 1) := by decide +kernel
theorem dX3_adds_57 : decode cX3_adds 57 = .ok (.iastore, 1) := by decide +kernel
theorem dX3_adds_58 : decode cX3_adds 58 = .ok (.aload_n 0, 1) := by decide +kernel
theorem dX3_adds_59 : decode cX3_adds 59 = .ok (.getfield 47, 3) := by decide +kernel
theorem dX3_adds_62 : decode cX3_adds 62 = .ok (.iload 6, 2) := by decide +kernel
theorem dX3_adds_64 : decode cX3_adds 64 = .ok (.iload_n 3, 1) := by decide +kernel
theorem dX3_adds_65 : decode cX3_adds 65 = .ok (.iastore, 1) := by decide +kernel
theorem dX3_adds_66 : decode cX3_adds 66 = .ok (.aload_n 0, 1) := by decide +kernel
theorem dX3_adds_67 : decode cX3_adds 67 = .ok (.getfield 50, 3) := by decide +kernel
theorem dX3_adds_70 : decode cX3_adds 70 = .ok (.iload 6, 2) := by decide +kernel
theorem dX3_adds_72 : decode cX3_adds 72 = .ok (.iload 4, 2) := by decide +kernel
theorem dX3_adds_74 : decode cX3_adds 74 = .ok (.iastore, 1) := by decide +kernel
theorem dX3_adds_75 : decode cX3_adds 75 = .ok (.aload_n 0, 1) := by decide +kernel
theorem dX3_adds_76 : decode cX3_adds 76 = .ok (.getfield 53, 3) := by decide +kernel
theorem dX3_adds_79 : decode cX3_adds 79 = .ok (.iload 6, 2) := by decide +kernel
theorem dX3_adds_81 : decode cX3_adds 81 = .ok (.iconst 0, 1) := by decide +kernel
theorem dX3_adds_82 : decode cX3_adds 82 = .ok (.bastore, 1) := by decide +kernel
theorem dX3_adds_83 : decode cX3_adds 83 = .ok (.aload_n 0, 1) := by decide +kernel
theorem dX3_adds_84 : decode cX3_adds 84 = .ok (.getfield 35, 3) := by decide +kernel
theorem dX3_adds_87 : decode cX3_adds 87 = .ok (.iload_n 1, 1) := by decide +kernel
theorem dX3_adds_88 : decode cX3_adds 88 = .ok (.dup2, 1) := by decide +kernel
theorem dX3_adds_89 : decode cX3_adds 89 = .ok (.iaload, 1) := by decide +kernel
theorem dX3_adds_90 : decode cX3_adds 90 = .ok (.iconst 1, 1) := by decide +kernel
theorem dX3_adds_91 : decode cX3_adds 91 = .ok (.iadd, 1) := by decide +kernel
theorem dX3_adds_92 : decode cX3_adds 92 = .ok (.iastore, 1) := by decide +kernel
theorem dX3_adds_93 : decode cX3_adds 93 = .ok (.return_, 1) := by decide +kernel
theorem dX3_visitsThird_0 : decode cX3_visitsThird 0 = .ok (.iconst 0, 1) := by decide +kernel
theorem dX3_visitsThird_1 : decode cX3_visitsThird 1 = .ok (.istore 6, 2) := by decide +kernel
theorem dX3_visitsThird_3 : decode cX3_visitsThird 3 = .ok (.iload 6, 2) := by decide +kernel
theorem dX3_visitsThird_5 : decode cX3_visitsThird 5 = .ok (.aload_n 0, 1) := by decide +kernel
theorem dX3_visitsThird_6 : decode cX3_visitsThird 6 = .ok (.getfield 26, 3) := by decide +kernel
theorem dX3_visitsThird_9 : decode cX3_visitsThird 9 = .ok (.iload 5, 2) := by decide +kernel
theorem dX3_visitsThird_11 : decode cX3_visitsThird 11 = .ok (.iaload, 1) := by decide +kernel
theorem dX3_visitsThird_12 : decode cX3_visitsThird 12 = .ok (.if_icmp .ge 109, 3) := by decide +kernel
theorem dX3_visitsThird_15 : decode cX3_visitsThird 15 = .ok (.aload_n 0, 1) := by decide +kernel
theorem dX3_visitsThird_16 : decode cX3_visitsThird 16 = .ok (.getfield 23, 3) := by decide +kernel
theorem dX3_visitsThird_19 : decode cX3_visitsThird 19 = .ok (.bipush 16, 2) := by decide +kernel
theorem dX3_visitsThird_21 : decode cX3_visitsThird 21 = .ok (.iload 5, 2) := by decide +kernel
theorem dX3_visitsThird_23 : decode cX3_visitsThird 23 = .ok (.imul, 1) := by decide +kernel
theorem dX3_visitsThird_24 : decode cX3_visitsThird 24 = .ok (.iload 6, 2) := by decide +kernel
theorem dX3_visitsThird_26 : decode cX3_visitsThird 26 = .ok (.iadd, 1) := by decide +kernel
theorem dX3_visitsThird_27 : decode cX3_visitsThird 27 = .ok (.iaload, 1) := by decide +kernel
theorem dX3_visitsThird_28 : decode cX3_visitsThird 28 = .ok (.istore 7, 2) := by decide +kernel
theorem dX3_visitsThird_30 : decode cX3_visitsThird 30 = .ok (.iload 7, 2) := by decide +kernel
theorem dX3_visitsThird_32 : decode cX3_visitsThird 32 = .ok (.bipush 10, 2) := by decide +kernel
theorem dX3_visitsThird_34 : decode cX3_visitsThird 34 = .ok (.isub, 1) := by decide +kernel
theorem dX3_visitsThird_35 : decode cX3_visitsThird 35 = .ok (.istore 8, 2) := by decide +kernel
theorem dX3_visitsThird_37 : decode cX3_visitsThird 37 = .ok (.iload 8, 2) := by decide +kernel
theorem dX3_visitsThird_39 : decode cX3_visitsThird 39 = .ok (.iload_n 3, 1) := by decide +kernel
theorem dX3_visitsThird_40 : decode cX3_visitsThird 40 = .ok (.if_icmp .eq 17, 3) := by decide +kernel
theorem dX3_visitsThird_43 : decode cX3_visitsThird 43 = .ok (.iload 8, 2) := by decide +kernel
theorem dX3_visitsThird_45 : decode cX3_visitsThird 45 = .ok (.iload 4, 2) := by decide +kernel
theorem dX3_visitsThird_47 : decode cX3_visitsThird 47 = .ok (.if_icmp .eq 10, 3) := by decide +kernel
theorem dX3_visitsThird_50 : decode cX3_visitsThird 50 = .ok (.iload 8, 2) := by decide +kernel
theorem dX3_visitsThird_52 : decode cX3_visitsThird 52 = .ok (.iload 5, 2) := by decide +kernel
theorem dX3_visitsThird_54 : decode cX3_visitsThird 54 = .ok (.if_icmp .ne 7, 3) := by decide +kernel
theorem dX3_visitsThird_57 : decode cX3_visitsThird 57 = .ok (.iconst 1, 1) := by decide +kernel
theorem dX3_visitsThird_58 : decode cX3_visitsThird 58 = .ok (.goto 4, 3) := by decide +kernel
theorem dX3_visitsThird_61 : decode cX3_visitsThird 61 = .ok (.iconst 0, 1) := by decide +kernel
theorem dX3_visitsThird_62 : decode cX3_visitsThird 62 = .ok (.istore 9, 2) := by decide +kernel
theorem dX3_visitsThird_64 : decode cX3_visitsThird 64 = .ok (.aload_n 0, 1) := by decide +kernel
theorem dX3_visitsThird_65 : decode cX3_visitsThird 65 = .ok (.iload 5, 2) := by decide +kernel
theorem dX3_visitsThird_67 : decode cX3_visitsThird 67 = .ok (.iload 7, 2) := by decide +kernel
theorem dX3_visitsThird_69 : decode cX3_visitsThird 69 = .ok (.invokevirtual 70, 3) := by decide +kernel
theorem dX3_visitsThird_72 : decode cX3_visitsThird 72 = .ok (.ifCond .eq 43, 3) := by decide +kernel
theorem dX3_visitsThird_75 : decode cX3_visitsThird 75 = .ok (.aload_n 0, 1) := by decide +kernel
theorem dX3_visitsThird_76 : decode cX3_visitsThird 76 = .ok (.iload_n 1, 1) := by decide +kernel
theorem dX3_visitsThird_77 : decode cX3_visitsThird 77 = .ok (.iload 8, 2) := by decide +kernel
theorem dX3_visitsThird_79 : decode cX3_visitsThird 79 = .ok (.ifCond .ge 8, 3) := by decide +kernel
theorem dX3_visitsThird_82 : decode cX3_visitsThird 82 = .ok (.iload 7, 2) := by decide +kernel
theorem dX3_visitsThird_84 : decode cX3_visitsThird 84 = .ok (.goto 4, 3) := by decide +kernel
theorem dX3_visitsThird_87 : decode cX3_visitsThird 87 = .ok (.iconst (-1), 1) := by decide +kernel
theorem dX3_visitsThird_88 : decode cX3_visitsThird 88 = .ok (.iload_n 2, 1) := by decide +kernel
theorem dX3_visitsThird_89 : decode cX3_visitsThird 89 = .ok (.iload 8, 2) := by decide +kernel
theorem dX3_visitsThird_91 : decode cX3_visitsThird 91 = .ok (.ifCond .ge 7, 3) := by decide +kernel
theorem dX3_visitsThird_94 : decode cX3_visitsThird 94 = .ok (.iconst 0, 1) := by decide +kernel
theorem dX3_visitsThird_95 : decode cX3_visitsThird 95 = .ok (.goto 17, 3) := by decide +kernel
theorem dX3_visitsThird_98 : decode cX3_visitsThird 98 = .ok (.iload 9, 2) := by decide +kernel
theorem dX3_visitsThird_100 : decode cX3_visitsThird 100 = .ok (.ifCond .eq 9, 3) := by decide +kernel
theorem dX3_visitsThird_103 : decode cX3_visitsThird 103 = .ok (.sipush 482, 3) := by decide +kernel
theorem dX3_visitsThird_106 : decode cX3_visitsThird 106 = .ok (.goto 6, 3) := by decide +kernel
theorem dX3_visitsThird_109 : decode cX3_visitsThird 109 = .ok (.sipush 483, 3) := by decide +kernel
theorem dX3_visitsThird_112 : decode cX3_visitsThird 112 = .ok (.invokevirtual 88, 3) := by decide +kernel
theorem dX3_visitsThird_115 : decode cX3_visitsThird 115 = .ok (.iinc 6 1, 3) := by decide +kernel
theorem dX3_visitsThird_118 : decode cX3_visitsThird 118 = .ok (.goto (-115), 3) := by decide +kernel
theorem dX3_visitsThird_121 : decode cX3_visitsThird 121 = .ok (.return_, 1) := by decide +kernel
theorem dX3_visitsSecond_0 : decode cX3_visitsSecond 0 = .ok (.iconst 0, 1) := by decide +kernel
theorem dX3_visitsSecond_1 : decode cX3_visitsSecond 1 = .ok (.istore 5, 2) := by decide +kernel
theorem dX3_visitsSecond_3 : decode cX3_visitsSecond 3 = .ok (.iload 5, 2) := by decide +kernel
theorem dX3_visitsSecond_5 : decode cX3_visitsSecond 5 = .ok (.aload_n 0, 1) := by decide +kernel
theorem dX3_visitsSecond_6 : decode cX3_visitsSecond 6 = .ok (.getfield 26, 3) := by decide +kernel
theorem dX3_visitsSecond_9 : decode cX3_visitsSecond 9 = .ok (.iload 4, 2) := by decide +kernel
theorem dX3_visitsSecond_11 : decode cX3_visitsSecond 11 = .ok (.iaload, 1) := by decide +kernel
theorem dX3_visitsSecond_12 : decode cX3_visitsSecond 12 = .ok (.if_icmp .ge 114, 3) := by decide +kernel
theorem dX3_visitsSecond_15 : decode cX3_visitsSecond 15 = .ok (.aload_n 0, 1) := by decide +kernel
theorem dX3_visitsSecond_16 : decode cX3_visitsSecond 16 = .ok (.getfield 23, 3) := by decide +kernel
theorem dX3_visitsSecond_19 : decode cX3_visitsSecond 19 = .ok (.bipush 16, 2) := by decide +kernel
theorem dX3_visitsSecond_21 : decode cX3_visitsSecond 21 = .ok (.iload 4, 2) := by decide +kernel
theorem dX3_visitsSecond_23 : decode cX3_visitsSecond 23 = .ok (.imul, 1) := by decide +kernel
theorem dX3_visitsSecond_24 : decode cX3_visitsSecond 24 = .ok (.iload 5, 2) := by decide +kernel
theorem dX3_visitsSecond_26 : decode cX3_visitsSecond 26 = .ok (.iadd, 1) := by decide +kernel
theorem dX3_visitsSecond_27 : decode cX3_visitsSecond 27 = .ok (.iaload, 1) := by decide +kernel
theorem dX3_visitsSecond_28 : decode cX3_visitsSecond 28 = .ok (.istore 6, 2) := by decide +kernel
theorem dX3_visitsSecond_30 : decode cX3_visitsSecond 30 = .ok (.iload 6, 2) := by decide +kernel
theorem dX3_visitsSecond_32 : decode cX3_visitsSecond 32 = .ok (.bipush 10, 2) := by decide +kernel
theorem dX3_visitsSecond_34 : decode cX3_visitsSecond 34 = .ok (.isub, 1) := by decide +kernel
theorem dX3_visitsSecond_35 : decode cX3_visitsSecond 35 = .ok (.istore 7, 2) := by decide +kernel
theorem dX3_visitsSecond_37 : decode cX3_visitsSecond 37 = .ok (.aload_n 0, 1) := by decide +kernel
theorem dX3_visitsSecond_38 : decode cX3_visitsSecond 38 = .ok (.iload 4, 2) := by decide +kernel
theorem dX3_visitsSecond_40 : decode cX3_visitsSecond 40 = .ok (.iload 6, 2) := by decide +kernel
theorem dX3_visitsSecond_42 : decode cX3_visitsSecond 42 = .ok (.invokevirtual 70, 3) := by decide +kernel
theorem dX3_visitsSecond_45 : decode cX3_visitsSecond 45 = .ok (.ifCond .eq 35, 3) := by decide +kernel
theorem dX3_visitsSecond_48 : decode cX3_visitsSecond 48 = .ok (.iload 7, 2) := by decide +kernel
theorem dX3_visitsSecond_50 : decode cX3_visitsSecond 50 = .ok (.ifCond .lt 30, 3) := by decide +kernel
theorem dX3_visitsSecond_53 : decode cX3_visitsSecond 53 = .ok (.iload 7, 2) := by decide +kernel
theorem dX3_visitsSecond_55 : decode cX3_visitsSecond 55 = .ok (.iload_n 3, 1) := by decide +kernel
theorem dX3_visitsSecond_56 : decode cX3_visitsSecond 56 = .ok (.if_icmp .eq 24, 3) := by decide +kernel
theorem dX3_visitsSecond_59 : decode cX3_visitsSecond 59 = .ok (.iload 7, 2) := by decide +kernel
theorem dX3_visitsSecond_61 : decode cX3_visitsSecond 61 = .ok (.iload 4, 2) := by decide +kernel
theorem dX3_visitsSecond_63 : decode cX3_visitsSecond 63 = .ok (.if_icmp .eq 17, 3) := by decide +kernel
theorem dX3_visitsSecond_66 : decode cX3_visitsSecond 66 = .ok (.aload_n 0, 1) := by decide +kernel
theorem dX3_visitsSecond_67 : decode cX3_visitsSecond 67 = .ok (.iload_n 1, 1) := by decide +kernel
theorem dX3_visitsSecond_68 : decode cX3_visitsSecond 68 = .ok (.iload_n 2, 1) := by decide +kernel
theorem dX3_visitsSecond_69 : decode cX3_visitsSecond 69 = .ok (.iload_n 3, 1) := by decide +kernel
theorem dX3_visitsSecond_70 : decode cX3_visitsSecond 70 = .ok (.iload 4, 2) := by decide +kernel
theorem dX3_visitsSecond_72 : decode cX3_visitsSecond 72 = .ok (.iload 7, 2) := by decide +kernel
theorem dX3_visitsSecond_74 : decode cX3_visitsSecond 74 = .ok (.invokevirtual 92, 3) := by decide +kernel
theorem dX3_visitsSecond_77 : decode cX3_visitsSecond 77 = .ok (.goto 43, 3) := by decide +kernel
theorem dX3_visitsSecond_80 : decode cX3_visitsSecond 80 = .ok (.aload_n 0, 1) := by decide +kernel
theorem dX3_visitsSecond_81 : decode cX3_visitsSecond 81 = .ok (.iload 4, 2) := by decide +kernel
theorem dX3_visitsSecond_83 : decode cX3_visitsSecond 83 = .ok (.iload 6, 2) := by decide +kernel
theorem dX3_visitsSecond_85 : decode cX3_visitsSecond 85 = .ok (.invokevirtual 70, 3) := by decide +kernel
theorem dX3_visitsSecond_88 : decode cX3_visitsSecond 88 = .ok (.ifCond .eq 32, 3) := by decide +kernel
theorem dX3_visitsSecond_91 : decode cX3_visitsSecond 91 = .ok (.aload_n 0, 1) := by decide +kernel
theorem dX3_visitsSecond_92 : decode cX3_visitsSecond 92 = .ok (.iload_n 1, 1) := by decide +kernel
theorem dX3_visitsSecond_93 : decode cX3_visitsSecond 93 = .ok (.iload 7, 2) := by decide +kernel
theorem dX3_visitsSecond_95 : decode cX3_visitsSecond 95 = .ok (.ifCond .ge 8, 3) := by decide +kernel
theorem dX3_visitsSecond_98 : decode cX3_visitsSecond 98 = .ok (.iload 6, 2) := by decide +kernel
theorem dX3_visitsSecond_100 : decode cX3_visitsSecond 100 = .ok (.goto 4, 3) := by decide +kernel
theorem dX3_visitsSecond_103 : decode cX3_visitsSecond 103 = .ok (.iconst (-1), 1) := by decide +kernel
theorem dX3_visitsSecond_104 : decode cX3_visitsSecond 104 = .ok (.iload_n 2, 1) := by decide +kernel
theorem dX3_visitsSecond_105 : decode cX3_visitsSecond 105 = .ok (.iload 7, 2) := by decide +kernel
theorem dX3_visitsSecond_107 : decode cX3_visitsSecond 107 = .ok (.ifCond .ge 7, 3) := by decide +kernel
theorem dX3_visitsSecond_110 : decode cX3_visitsSecond 110 = .ok (.iconst 0, 1) := by decide +kernel
theorem dX3_visitsSecond_111 : decode cX3_visitsSecond 111 = .ok (.goto 6, 3) := by decide +kernel
theorem dX3_visitsSecond_114 : decode cX3_visitsSecond 114 = .ok (.sipush 482, 3) := by decide +kernel
theorem dX3_visitsSecond_117 : decode cX3_visitsSecond 117 = .ok (.invokevirtual 88, 3) := by decide +kernel
theorem dX3_visitsSecond_120 : decode cX3_visitsSecond 120 = .ok (.iinc 5 1, 3) := by decide +kernel
theorem dX3_visitsSecond_123 : decode cX3_visitsSecond 123 = .ok (.goto (-120), 3) := by decide +kernel
theorem dX3_visitsSecond_126 : decode cX3_visitsSecond 126 = .ok (.return_, 1) := by decide +kernel
theorem dX3_visitsFirst_0 : decode cX3_visitsFirst 0 = .ok (.iconst 0, 1) := by decide +kernel
theorem dX3_visitsFirst_1 : decode cX3_visitsFirst 1 = .ok (.istore_n 3, 1) := by decide +kernel
theorem dX3_visitsFirst_2 : decode cX3_visitsFirst 2 = .ok (.iload_n 3, 1) := by decide +kernel
theorem dX3_visitsFirst_3 : decode cX3_visitsFirst 3 = .ok (.aload_n 0, 1) := by decide +kernel
theorem dX3_visitsFirst_4 : decode cX3_visitsFirst 4 = .ok (.getfield 26, 3) := by decide +kernel
theorem dX3_visitsFirst_7 : decode cX3_visitsFirst 7 = .ok (.iload_n 2, 1) := by decide +kernel
theorem dX3_visitsFirst_8 : decode cX3_visitsFirst 8 = .ok (.iaload, 1) := by decide +kernel
theorem dX3_visitsFirst_9 : decode cX3_visitsFirst 9 = .ok (.if_icmp .ge 117, 3) := by decide +kernel
theorem dX3_visitsFirst_12 : decode cX3_visitsFirst 12 = .ok (.aload_n 0, 1) := by decide +kernel
theorem dX3_visitsFirst_13 : decode cX3_visitsFirst 13 = .ok (.getfield 23, 3) := by decide +kernel
theorem dX3_visitsFirst_16 : decode cX3_visitsFirst 16 = .ok (.bipush 16, 2) := by decide +kernel
theorem dX3_visitsFirst_18 : decode cX3_visitsFirst 18 = .ok (.iload_n 2, 1) := by decide +kernel
theorem dX3_visitsFirst_19 : decode cX3_visitsFirst 19 = .ok (.imul, 1) := by decide +kernel
theorem dX3_visitsFirst_20 : decode cX3_visitsFirst 20 = .ok (.iload_n 3, 1) := by decide +kernel
theorem dX3_visitsFirst_21 : decode cX3_visitsFirst 21 = .ok (.iadd, 1) := by decide +kernel
theorem dX3_visitsFirst_22 : decode cX3_visitsFirst 22 = .ok (.iaload, 1) := by decide +kernel
theorem dX3_visitsFirst_23 : decode cX3_visitsFirst 23 = .ok (.istore 4, 2) := by decide +kernel
theorem dX3_visitsFirst_25 : decode cX3_visitsFirst 25 = .ok (.aload_n 0, 1) := by decide +kernel
theorem dX3_visitsFirst_26 : decode cX3_visitsFirst 26 = .ok (.getfield 17, 3) := by decide +kernel
theorem dX3_visitsFirst_29 : decode cX3_visitsFirst 29 = .ok (.bipush 16, 2) := by decide +kernel
theorem dX3_visitsFirst_31 : decode cX3_visitsFirst 31 = .ok (.iload_n 2, 1) := by decide +kernel
theorem dX3_visitsFirst_32 : decode cX3_visitsFirst 32 = .ok (.imul, 1) := by decide +kernel
theorem dX3_visitsFirst_33 : decode cX3_visitsFirst 33 = .ok (.iload 4, 2) := by decide +kernel
theorem dX3_visitsFirst_35 : decode cX3_visitsFirst 35 = .ok (.iadd, 1) := by decide +kernel
theorem dX3_visitsFirst_36 : decode cX3_visitsFirst 36 = .ok (.iaload, 1) := by decide +kernel
theorem dX3_visitsFirst_37 : decode cX3_visitsFirst 37 = .ok (.istore 5, 2) := by decide +kernel
theorem dX3_visitsFirst_39 : decode cX3_visitsFirst 39 = .ok (.iload 4, 2) := by decide +kernel
theorem dX3_visitsFirst_41 : decode cX3_visitsFirst 41 = .ok (.bipush 10, 2) := by decide +kernel
theorem dX3_visitsFirst_43 : decode cX3_visitsFirst 43 = .ok (.isub, 1) := by decide +kernel
theorem dX3_visitsFirst_44 : decode cX3_visitsFirst 44 = .ok (.istore 6, 2) := by decide +kernel
theorem dX3_visitsFirst_46 : decode cX3_visitsFirst 46 = .ok (.aload_n 0, 1) := by decide +kernel
theorem dX3_visitsFirst_47 : decode cX3_visitsFirst 47 = .ok (.iload_n 2, 1) := by decide +kernel
theorem dX3_visitsFirst_48 : decode cX3_visitsFirst 48 = .ok (.iload 4, 2) := by decide +kernel
theorem dX3_visitsFirst_50 : decode cX3_visitsFirst 50 = .ok (.invokevirtual 70, 3) := by decide +kernel
theorem dX3_visitsFirst_53 : decode cX3_visitsFirst 53 = .ok (.ifCond .eq 27, 3) := by decide +kernel
theorem dX3_visitsFirst_56 : decode cX3_visitsFirst 56 = .ok (.iload 6, 2) := by decide +kernel
theorem dX3_visitsFirst_58 : decode cX3_visitsFirst 58 = .ok (.ifCond .lt 22, 3) := by decide +kernel
theorem dX3_visitsFirst_61 : decode cX3_visitsFirst 61 = .ok (.iload 6, 2) := by decide +kernel
theorem dX3_visitsFirst_63 : decode cX3_visitsFirst 63 = .ok (.iload_n 2, 1) := by decide +kernel
theorem dX3_visitsFirst_64 : decode cX3_visitsFirst 64 = .ok (.if_icmp .eq 16, 3) := by decide +kernel
theorem dX3_visitsFirst_67 : decode cX3_visitsFirst 67 = .ok (.aload_n 0, 1) := by decide +kernel
theorem dX3_visitsFirst_68 : decode cX3_visitsFirst 68 = .ok (.iload_n 1, 1) := by decide +kernel
theorem dX3_visitsFirst_69 : decode cX3_visitsFirst 69 = .ok (.iload 5, 2) := by decide +kernel
theorem dX3_visitsFirst_71 : decode cX3_visitsFirst 71 = .ok (.iload_n 2, 1) := by decide +kernel
theorem dX3_visitsFirst_72 : decode cX3_visitsFirst 72 = .ok (.iload 6, 2) := by decide +kernel
theorem dX3_visitsFirst_74 : decode cX3_visitsFirst 74 = .ok (.invokevirtual 96, 3) := by decide +kernel
theorem dX3_visitsFirst_77 : decode cX3_visitsFirst 77 = .ok (.goto 43, 3) := by decide +kernel
theorem dX3_visitsFirst_80 : decode cX3_visitsFirst 80 = .ok (.aload_n 0, 1) := by decide +kernel
theorem dX3_visitsFirst_81 : decode cX3_visitsFirst 81 = .ok (.iload_n 2, 1) := by decide +kernel
theorem dX3_visitsFirst_82 : decode cX3_visitsFirst 82 = .ok (.iload 4, 2) := by decide +kernel
theorem dX3_visitsFirst_84 : decode cX3_visitsFirst 84 = .ok (.invokevirtual 70, 3) := by decide +kernel
theorem dX3_visitsFirst_87 : decode cX3_visitsFirst 87 = .ok (.ifCond .eq 33, 3) := by decide +kernel
theorem dX3_visitsFirst_90 : decode cX3_visitsFirst 90 = .ok (.aload_n 0, 1) := by decide +kernel
theorem dX3_visitsFirst_91 : decode cX3_visitsFirst 91 = .ok (.iload_n 1, 1) := by decide +kernel
theorem dX3_visitsFirst_92 : decode cX3_visitsFirst 92 = .ok (.iload 6, 2) := by decide +kernel
theorem dX3_visitsFirst_94 : decode cX3_visitsFirst 94 = .ok (.ifCond .ge 8, 3) := by decide +kernel
theorem dX3_visitsFirst_97 : decode cX3_visitsFirst 97 = .ok (.iload 4, 2) := by decide +kernel
theorem dX3_visitsFirst_99 : decode cX3_visitsFirst 99 = .ok (.goto 4, 3) := by decide +kernel
theorem dX3_visitsFirst_102 : decode cX3_visitsFirst 102 = .ok (.iconst (-1), 1) := by decide +kernel
theorem dX3_visitsFirst_103 : decode cX3_visitsFirst 103 = .ok (.iload 5, 2) := by decide +kernel
theorem dX3_visitsFirst_105 : decode cX3_visitsFirst 105 = .ok (.iload 6, 2) := by decide +kernel
theorem dX3_visitsFirst_107 : decode cX3_visitsFirst 107 = .ok (.ifCond .ge 7, 3) := by decide +kernel
theorem dX3_visitsFirst_110 : decode cX3_visitsFirst 110 = .ok (.iconst 0, 1) := by decide +kernel
theorem dX3_visitsFirst_111 : decode cX3_visitsFirst 111 = .ok (.goto 6, 3) := by decide +kernel
theorem dX3_visitsFirst_114 : decode cX3_visitsFirst 114 = .ok (.sipush 482, 3) := by decide +kernel
theorem dX3_visitsFirst_117 : decode cX3_visitsFirst 117 = .ok (.invokevirtual 88, 3) := by decide +kernel
theorem dX3_visitsFirst_120 : decode cX3_visitsFirst 120 = .ok (.iinc 3 1, 3) := by decide +kernel
theorem dX3_visitsFirst_123 : decode cX3_visitsFirst 123 = .ok (.goto (-121), 3) := by decide +kernel
theorem dX3_visitsFirst_126 : decode cX3_visitsFirst 126 = .ok (.return_, 1) := by decide +kernel
theorem dX3_hasEnded_0 : decode cX3_hasEnded 0 = .ok (.iload_n 0, 1) := by decide +kernel
theorem dX3_hasEnded_1 : decode cX3_hasEnded 1 = .ok (.sipush 200, 3) := by decide +kernel
theorem dX3_hasEnded_4 : decode cX3_hasEnded 4 = .ok (.if_icmp .lt 7, 3) := by decide +kernel
theorem dX3_hasEnded_7 : decode cX3_hasEnded 7 = .ok (.iconst 1, 1) := by decide +kernel
theorem dX3_hasEnded_8 : decode cX3_hasEnded 8 = .ok (.goto 4, 3) := by decide +kernel
theorem dX3_hasEnded_11 : decode cX3_hasEnded 11 = .ok (.iconst 0, 1) := by decide +kernel
theorem dX3_hasEnded_12 : decode cX3_hasEnded 12 = .ok (.ireturn, 1) := by decide +kernel
theorem dX3_best_0 : decode cX3_best 0 = .ok (.iconst 0, 1) := by decide +kernel
theorem dX3_best_1 : decode cX3_best 1 = .ok (.istore_n 2, 1) := by decide +kernel
theorem dX3_best_2 : decode cX3_best 2 = .ok (.iconst 0, 1) := by decide +kernel
theorem dX3_best_3 : decode cX3_best 3 = .ok (.istore_n 3, 1) := by decide +kernel
theorem dX3_best_4 : decode cX3_best 4 = .ok (.bipush 12, 2) := by decide +kernel
theorem dX3_best_6 : decode cX3_best 6 = .ok (.iload_n 1, 1) := by decide +kernel
theorem dX3_best_7 : decode cX3_best 7 = .ok (.imul, 1) := by decide +kernel
theorem dX3_best_8 : decode cX3_best 8 = .ok (.istore 4, 2) := by decide +kernel
theorem dX3_best_10 : decode cX3_best 10 = .ok (.iload 4, 2) := by decide +kernel
theorem dX3_best_12 : decode cX3_best 12 = .ok (.bipush 12, 2) := by decide +kernel
theorem dX3_best_14 : decode cX3_best 14 = .ok (.iload_n 1, 1) := by decide +kernel
theorem dX3_best_15 : decode cX3_best 15 = .ok (.imul, 1) := by decide +kernel
theorem dX3_best_16 : decode cX3_best 16 = .ok (.aload_n 0, 1) := by decide +kernel
theorem dX3_best_17 : decode cX3_best 17 = .ok (.getfield 35, 3) := by decide +kernel
theorem dX3_best_20 : decode cX3_best 20 = .ok (.iload_n 1, 1) := by decide +kernel
theorem dX3_best_21 : decode cX3_best 21 = .ok (.iaload, 1) := by decide +kernel
theorem dX3_best_22 : decode cX3_best 22 = .ok (.iadd, 1) := by decide +kernel
theorem dX3_best_23 : decode cX3_best 23 = .ok (.if_icmp .ge 72, 3) := by decide +kernel
theorem dX3_best_26 : decode cX3_best 26 = .ok (.aload_n 0, 1) := by decide +kernel
theorem dX3_best_27 : decode cX3_best 27 = .ok (.getfield 50, 3) := by decide +kernel
theorem dX3_best_30 : decode cX3_best 30 = .ok (.iload 4, 2) := by decide +kernel
theorem dX3_best_32 : decode cX3_best 32 = .ok (.iaload, 1) := by decide +kernel
theorem dX3_best_33 : decode cX3_best 33 = .ok (.iload_n 3, 1) := by decide +kernel
theorem dX3_best_34 : decode cX3_best 34 = .ok (.if_icmp .le 13, 3) := by decide +kernel
theorem dX3_best_37 : decode cX3_best 37 = .ok (.aload_n 0, 1) := by decide +kernel
theorem dX3_best_38 : decode cX3_best 38 = .ok (.getfield 50, 3) := by decide +kernel
theorem dX3_best_41 : decode cX3_best 41 = .ok (.iload 4, 2) := by decide +kernel
theorem dX3_best_43 : decode cX3_best 43 = .ok (.iaload, 1) := by decide +kernel
theorem dX3_best_44 : decode cX3_best 44 = .ok (.goto 4, 3) := by decide +kernel
theorem dX3_best_47 : decode cX3_best 47 = .ok (.iload_n 3, 1) := by decide +kernel
theorem dX3_best_48 : decode cX3_best 48 = .ok (.istore_n 3, 1) := by decide +kernel
theorem dX3_best_49 : decode cX3_best 49 = .ok (.aload_n 0, 1) := by decide +kernel
theorem dX3_best_50 : decode cX3_best 50 = .ok (.getfield 50, 3) := by decide +kernel
theorem dX3_best_53 : decode cX3_best 53 = .ok (.iload 4, 2) := by decide +kernel
theorem dX3_best_55 : decode cX3_best 55 = .ok (.iaload, 1) := by decide +kernel
theorem dX3_best_56 : decode cX3_best 56 = .ok (.sipush 487, 3) := by decide +kernel
theorem dX3_best_59 : decode cX3_best 59 = .ok (.if_icmp .eq 28, 3) := by decide +kernel
theorem dX3_best_62 : decode cX3_best 62 = .ok (.iload_n 2, 1) := by decide +kernel
theorem dX3_best_63 : decode cX3_best 63 = .ok (.ifCond .eq 14, 3) := by decide +kernel
theorem dX3_best_66 : decode cX3_best 66 = .ok (.aload_n 0, 1) := by decide +kernel
theorem dX3_best_67 : decode cX3_best 67 = .ok (.getfield 50, 3) := by decide +kernel
theorem dX3_best_70 : decode cX3_best 70 = .ok (.iload 4, 2) := by decide +kernel
theorem dX3_best_72 : decode cX3_best 72 = .ok (.iaload, 1) := by decide +kernel
theorem dX3_best_73 : decode cX3_best 73 = .ok (.iload_n 2, 1) := by decide +kernel
theorem dX3_best_74 : decode cX3_best 74 = .ok (.if_icmp .ge 13, 3) := by decide +kernel
theorem dX3_best_77 : decode cX3_best 77 = .ok (.aload_n 0, 1) := by decide +kernel
theorem dX3_best_78 : decode cX3_best 78 = .ok (.getfield 50, 3) := by decide +kernel
theorem dX3_best_81 : decode cX3_best 81 = .ok (.iload 4, 2) := by decide +kernel
theorem dX3_best_83 : decode cX3_best 83 = .ok (.iaload, 1) := by decide +kernel
theorem dX3_best_84 : decode cX3_best 84 = .ok (.goto 4, 3) := by decide +kernel
theorem dX3_best_87 : decode cX3_best 87 = .ok (.iload_n 2, 1) := by decide +kernel
theorem dX3_best_88 : decode cX3_best 88 = .ok (.istore_n 2, 1) := by decide +kernel
theorem dX3_best_89 : decode cX3_best 89 = .ok (.iinc 4 1, 3) := by decide +kernel
theorem dX3_best_92 : decode cX3_best 92 = .ok (.goto (-82), 3) := by decide +kernel
theorem dX3_best_95 : decode cX3_best 95 = .ok (.aload_n 0, 1) := by decide +kernel
theorem dX3_best_96 : decode cX3_best 96 = .ok (.getfield 35, 3) := by decide +kernel
theorem dX3_best_99 : decode cX3_best 99 = .ok (.iload_n 1, 1) := by decide +kernel
theorem dX3_best_100 : decode cX3_best 100 = .ok (.iaload, 1) := by decide +kernel
theorem dX3_best_101 : decode cX3_best 101 = .ok (.ifCond .ne 9, 3) := by decide +kernel
theorem dX3_best_104 : decode cX3_best 104 = .ok (.sipush 480, 3) := by decide +kernel
theorem dX3_best_107 : decode cX3_best 107 = .ok (.goto 25, 3) := by decide +kernel
theorem dX3_best_110 : decode cX3_best 110 = .ok (.iload_n 3, 1) := by decide +kernel
theorem dX3_best_111 : decode cX3_best 111 = .ok (.sipush 600, 3) := by decide +kernel
theorem dX3_best_114 : decode cX3_best 114 = .ok (.if_icmp .lt 7, 3) := by decide +kernel
theorem dX3_best_117 : decode cX3_best 117 = .ok (.iload_n 3, 1) := by decide +kernel
theorem dX3_best_118 : decode cX3_best 118 = .ok (.goto 14, 3) := by decide +kernel
theorem dX3_best_121 : decode cX3_best 121 = .ok (.iload_n 2, 1) := by decide +kernel
theorem dX3_best_122 : decode cX3_best 122 = .ok (.ifCond .ne 9, 3) := by decide +kernel
theorem dX3_best_125 : decode cX3_best 125 = .ok (.sipush 487, 3) := by decide +kernel
theorem dX3_best_128 : decode cX3_best 128 = .ok (.goto 4, 3) := by decide +kernel
theorem dX3_best_131 : decode cX3_best 131 = .ok (.iload_n 2, 1) := by decide +kernel
theorem dX3_best_132 : decode cX3_best 132 = .ok (.ireturn, 1) := by decide +kernel
theorem dX3_cuts_0 : decode cX3_cuts 0 = .ok (.iconst 0, 1) := by decide +kernel
theorem dX3_cuts_1 : decode cX3_cuts 1 = .ok (.istore_n 2, 1) := by decide +kernel
theorem dX3_cuts_2 : decode cX3_cuts 2 = .ok (.bipush 12, 2) := by decide +kernel
theorem dX3_cuts_4 : decode cX3_cuts 4 = .ok (.iload_n 1, 1) := by decide +kernel
theorem dX3_cuts_5 : decode cX3_cuts 5 = .ok (.imul, 1) := by decide +kernel
theorem dX3_cuts_6 : decode cX3_cuts 6 = .ok (.istore_n 3, 1) := by decide +kernel
theorem dX3_cuts_7 : decode cX3_cuts 7 = .ok (.iload_n 3, 1) := by decide +kernel
theorem dX3_cuts_8 : decode cX3_cuts 8 = .ok (.bipush 12, 2) := by decide +kernel
theorem dX3_cuts_10 : decode cX3_cuts 10 = .ok (.iload_n 1, 1) := by decide +kernel
theorem dX3_cuts_11 : decode cX3_cuts 11 = .ok (.imul, 1) := by decide +kernel
theorem dX3_cuts_12 : decode cX3_cuts 12 = .ok (.aload_n 0, 1) := by decide +kernel
theorem dX3_cuts_13 : decode cX3_cuts 13 = .ok (.getfield 35, 3) := by decide +kernel
theorem dX3_cuts_16 : decode cX3_cuts 16 = .ok (.iload_n 1, 1) := by decide +kernel
theorem dX3_cuts_17 : decode cX3_cuts 17 = .ok (.iaload, 1) := by decide +kernel
theorem dX3_cuts_18 : decode cX3_cuts 18 = .ok (.iadd, 1) := by decide +kernel
theorem dX3_cuts_19 : decode cX3_cuts 19 = .ok (.if_icmp .ge 33, 3) := by decide +kernel
theorem dX3_cuts_22 : decode cX3_cuts 22 = .ok (.aload_n 0, 1) := by decide +kernel
theorem dX3_cuts_23 : decode cX3_cuts 23 = .ok (.getfield 50, 3) := by decide +kernel
theorem dX3_cuts_26 : decode cX3_cuts 26 = .ok (.iload_n 3, 1) := by decide +kernel
theorem dX3_cuts_27 : decode cX3_cuts 27 = .ok (.iaload, 1) := by decide +kernel
theorem dX3_cuts_28 : decode cX3_cuts 28 = .ok (.invokestatic 99, 3) := by decide +kernel
theorem dX3_cuts_31 : decode cX3_cuts 31 = .ok (.ifCond .ne 15, 3) := by decide +kernel
theorem dX3_cuts_34 : decode cX3_cuts 34 = .ok (.aload_n 0, 1) := by decide +kernel
theorem dX3_cuts_35 : decode cX3_cuts 35 = .ok (.getfield 50, 3) := by decide +kernel
theorem dX3_cuts_38 : decode cX3_cuts 38 = .ok (.iload_n 3, 1) := by decide +kernel
theorem dX3_cuts_39 : decode cX3_cuts 39 = .ok (.sipush 487, 3) := by decide +kernel
theorem dX3_cuts_42 : decode cX3_cuts 42 = .ok (.iastore, 1) := by decide +kernel
theorem dX3_cuts_43 : decode cX3_cuts 43 = .ok (.iinc 2 1, 3) := by decide +kernel
theorem dX3_cuts_46 : decode cX3_cuts 46 = .ok (.iinc 3 1, 3) := by decide +kernel
theorem dX3_cuts_49 : decode cX3_cuts 49 = .ok (.goto (-42), 3) := by decide +kernel
theorem dX3_cuts_52 : decode cX3_cuts 52 = .ok (.iload_n 2, 1) := by decide +kernel
theorem dX3_cuts_53 : decode cX3_cuts 53 = .ok (.ireturn, 1) := by decide +kernel
theorem dX3_isBusy_0 : decode cX3_isBusy 0 = .ok (.iconst 0, 1) := by decide +kernel
theorem dX3_isBusy_1 : decode cX3_isBusy 1 = .ok (.istore_n 2, 1) := by decide +kernel
theorem dX3_isBusy_2 : decode cX3_isBusy 2 = .ok (.bipush 12, 2) := by decide +kernel
theorem dX3_isBusy_4 : decode cX3_isBusy 4 = .ok (.iload_n 1, 1) := by decide +kernel
theorem dX3_isBusy_5 : decode cX3_isBusy 5 = .ok (.imul, 1) := by decide +kernel
theorem dX3_isBusy_6 : decode cX3_isBusy 6 = .ok (.istore_n 3, 1) := by decide +kernel
theorem dX3_isBusy_7 : decode cX3_isBusy 7 = .ok (.iload_n 3, 1) := by decide +kernel
theorem dX3_isBusy_8 : decode cX3_isBusy 8 = .ok (.bipush 12, 2) := by decide +kernel
theorem dX3_isBusy_10 : decode cX3_isBusy 10 = .ok (.iload_n 1, 1) := by decide +kernel
theorem dX3_isBusy_11 : decode cX3_isBusy 11 = .ok (.imul, 1) := by decide +kernel
theorem dX3_isBusy_12 : decode cX3_isBusy 12 = .ok (.aload_n 0, 1) := by decide +kernel
theorem dX3_isBusy_13 : decode cX3_isBusy 13 = .ok (.getfield 35, 3) := by decide +kernel
theorem dX3_isBusy_16 : decode cX3_isBusy 16 = .ok (.iload_n 1, 1) := by decide +kernel
theorem dX3_isBusy_17 : decode cX3_isBusy 17 = .ok (.iaload, 1) := by decide +kernel
theorem dX3_isBusy_18 : decode cX3_isBusy 18 = .ok (.iadd, 1) := by decide +kernel
theorem dX3_isBusy_19 : decode cX3_isBusy 19 = .ok (.if_icmp .ge 46, 3) := by decide +kernel
theorem dX3_isBusy_22 : decode cX3_isBusy 22 = .ok (.iload_n 2, 1) := by decide +kernel
theorem dX3_isBusy_23 : decode cX3_isBusy 23 = .ok (.ifCond .ne 30, 3) := by decide +kernel
theorem dX3_isBusy_26 : decode cX3_isBusy 26 = .ok (.aload_n 0, 1) := by decide +kernel
theorem dX3_isBusy_27 : decode cX3_isBusy 27 = .ok (.getfield 47, 3) := by decide +kernel
theorem dX3_isBusy_30 : decode cX3_isBusy 30 = .ok (.iload_n 3, 1) := by decide +kernel
theorem dX3_isBusy_31 : decode cX3_isBusy 31 = .ok (.iaload, 1) := by decide +kernel
theorem dX3_isBusy_32 : decode cX3_isBusy 32 = .ok (.aload_n 0, 1) := by decide +kernel
theorem dX3_isBusy_33 : decode cX3_isBusy 33 = .ok (.getfield 38, 3) := by decide +kernel
theorem dX3_isBusy_36 : decode cX3_isBusy 36 = .ok (.iload_n 1, 1) := by decide +kernel
theorem dX3_isBusy_37 : decode cX3_isBusy 37 = .ok (.iaload, 1) := by decide +kernel
theorem dX3_isBusy_38 : decode cX3_isBusy 38 = .ok (.if_icmp .lt 19, 3) := by decide +kernel
theorem dX3_isBusy_41 : decode cX3_isBusy 41 = .ok (.aload_n 0, 1) := by decide +kernel
theorem dX3_isBusy_42 : decode cX3_isBusy 42 = .ok (.getfield 50, 3) := by decide +kernel
theorem dX3_isBusy_45 : decode cX3_isBusy 45 = .ok (.iload_n 3, 1) := by decide +kernel
theorem dX3_isBusy_46 : decode cX3_isBusy 46 = .ok (.iaload, 1) := by decide +kernel
theorem dX3_isBusy_47 : decode cX3_isBusy 47 = .ok (.invokestatic 99, 3) := by decide +kernel
theorem dX3_isBusy_50 : decode cX3_isBusy 50 = .ok (.ifCond .ne 7, 3) := by decide +kernel
theorem dX3_isBusy_53 : decode cX3_isBusy 53 = .ok (.iconst 1, 1) := by decide +kernel
theorem dX3_isBusy_54 : decode cX3_isBusy 54 = .ok (.goto 4, 3) := by decide +kernel
theorem dX3_isBusy_57 : decode cX3_isBusy 57 = .ok (.iconst 0, 1) := by decide +kernel
theorem dX3_isBusy_58 : decode cX3_isBusy 58 = .ok (.istore_n 2, 1) := by decide +kernel
theorem dX3_isBusy_59 : decode cX3_isBusy 59 = .ok (.iinc 3 1, 3) := by decide +kernel
theorem dX3_isBusy_62 : decode cX3_isBusy 62 = .ok (.goto (-55), 3) := by decide +kernel
theorem dX3_isBusy_65 : decode cX3_isBusy 65 = .ok (.iload_n 2, 1) := by decide +kernel
theorem dX3_isBusy_66 : decode cX3_isBusy 66 = .ok (.ireturn, 1) := by decide +kernel
theorem dX3_goesOn_0 : decode cX3_goesOn 0 = .ok (.aload_n 0, 1) := by decide +kernel
theorem dX3_goesOn_1 : decode cX3_goesOn 1 = .ok (.getfield 29, 3) := by decide +kernel
theorem dX3_goesOn_4 : decode cX3_goesOn 4 = .ok (.iload_n 1, 1) := by decide +kernel
theorem dX3_goesOn_5 : decode cX3_goesOn 5 = .ok (.iaload, 1) := by decide +kernel
theorem dX3_goesOn_6 : decode cX3_goesOn 6 = .ok (.iconst (-1), 1) := by decide +kernel
theorem dX3_goesOn_7 : decode cX3_goesOn 7 = .ok (.if_icmp .ne 173, 3) := by decide +kernel
theorem dX3_goesOn_10 : decode cX3_goesOn 10 = .ok (.aload_n 0, 1) := by decide +kernel
theorem dX3_goesOn_11 : decode cX3_goesOn 11 = .ok (.iload_n 1, 1) := by decide +kernel
theorem dX3_goesOn_12 : decode cX3_goesOn 12 = .ok (.invokevirtual 102, 3) := by decide +kernel
theorem dX3_goesOn_15 : decode cX3_goesOn 15 = .ok (.ifCond .ne 165, 3) := by decide +kernel
theorem dX3_goesOn_18 : decode cX3_goesOn 18 = .ok (.iconst (-1), 1) := by decide +kernel
theorem dX3_goesOn_19 : decode cX3_goesOn 19 = .ok (.istore_n 2, 1) := by decide +kernel
theorem dX3_goesOn_20 : decode cX3_goesOn 20 = .ok (.bipush 12, 2) := by decide +kernel
theorem dX3_goesOn_22 : decode cX3_goesOn 22 = .ok (.iload_n 1, 1) := by decide +kernel
theorem dX3_goesOn_23 : decode cX3_goesOn 23 = .ok (.imul, 1) := by decide +kernel
theorem dX3_goesOn_24 : decode cX3_goesOn 24 = .ok (.istore_n 3, 1) := by decide +kernel
theorem dX3_goesOn_25 : decode cX3_goesOn 25 = .ok (.iload_n 3, 1) := by decide +kernel
theorem dX3_goesOn_26 : decode cX3_goesOn 26 = .ok (.bipush 12, 2) := by decide +kernel
theorem dX3_goesOn_28 : decode cX3_goesOn 28 = .ok (.iload_n 1, 1) := by decide +kernel
theorem dX3_goesOn_29 : decode cX3_goesOn 29 = .ok (.imul, 1) := by decide +kernel
theorem dX3_goesOn_30 : decode cX3_goesOn 30 = .ok (.aload_n 0, 1) := by decide +kernel
theorem dX3_goesOn_31 : decode cX3_goesOn 31 = .ok (.getfield 35, 3) := by decide +kernel
theorem dX3_goesOn_34 : decode cX3_goesOn 34 = .ok (.iload_n 1, 1) := by decide +kernel
theorem dX3_goesOn_35 : decode cX3_goesOn 35 = .ok (.iaload, 1) := by decide +kernel
theorem dX3_goesOn_36 : decode cX3_goesOn 36 = .ok (.iadd, 1) := by decide +kernel
theorem dX3_goesOn_37 : decode cX3_goesOn 37 = .ok (.if_icmp .ge 45, 3) := by decide +kernel
theorem dX3_goesOn_40 : decode cX3_goesOn 40 = .ok (.aload_n 0, 1) := by decide +kernel
theorem dX3_goesOn_41 : decode cX3_goesOn 41 = .ok (.getfield 47, 3) := by decide +kernel
theorem dX3_goesOn_44 : decode cX3_goesOn 44 = .ok (.iload_n 3, 1) := by decide +kernel
theorem dX3_goesOn_45 : decode cX3_goesOn 45 = .ok (.iaload, 1) := by decide +kernel
theorem dX3_goesOn_46 : decode cX3_goesOn 46 = .ok (.aload_n 0, 1) := by decide +kernel
theorem dX3_goesOn_47 : decode cX3_goesOn 47 = .ok (.getfield 38, 3) := by decide +kernel
theorem dX3_goesOn_50 : decode cX3_goesOn 50 = .ok (.iload_n 1, 1) := by decide +kernel
theorem dX3_goesOn_51 : decode cX3_goesOn 51 = .ok (.iaload, 1) := by decide +kernel
theorem dX3_goesOn_52 : decode cX3_goesOn 52 = .ok (.if_icmp .ge 22, 3) := by decide +kernel
theorem dX3_goesOn_55 : decode cX3_goesOn 55 = .ok (.aload_n 0, 1) := by decide +kernel
theorem dX3_goesOn_56 : decode cX3_goesOn 56 = .ok (.getfield 47, 3) := by decide +kernel
theorem dX3_goesOn_59 : decode cX3_goesOn 59 = .ok (.iload_n 3, 1) := by decide +kernel
theorem dX3_goesOn_60 : decode cX3_goesOn 60 = .ok (.iaload, 1) := by decide +kernel
theorem dX3_goesOn_61 : decode cX3_goesOn 61 = .ok (.iload_n 2, 1) := by decide +kernel
theorem dX3_goesOn_62 : decode cX3_goesOn 62 = .ok (.if_icmp .le 12, 3) := by decide +kernel
theorem dX3_goesOn_65 : decode cX3_goesOn 65 = .ok (.aload_n 0, 1) := by decide +kernel
theorem dX3_goesOn_66 : decode cX3_goesOn 66 = .ok (.getfield 47, 3) := by decide +kernel
theorem dX3_goesOn_69 : decode cX3_goesOn 69 = .ok (.iload_n 3, 1) := by decide +kernel
theorem dX3_goesOn_70 : decode cX3_goesOn 70 = .ok (.iaload, 1) := by decide +kernel
theorem dX3_goesOn_71 : decode cX3_goesOn 71 = .ok (.goto 4, 3) := by decide +kernel
theorem dX3_goesOn_74 : decode cX3_goesOn 74 = .ok (.iload_n 2, 1) := by decide +kernel
theorem dX3_goesOn_75 : decode cX3_goesOn 75 = .ok (.istore_n 2, 1) := by decide +kernel
theorem dX3_goesOn_76 : decode cX3_goesOn 76 = .ok (.iinc 3 1, 3) := by decide +kernel
theorem dX3_goesOn_79 : decode cX3_goesOn 79 = .ok (.goto (-54), 3) := by decide +kernel
theorem dX3_goesOn_82 : decode cX3_goesOn 82 = .ok (.aload_n 0, 1) := by decide +kernel
theorem dX3_goesOn_83 : decode cX3_goesOn 83 = .ok (.getfield 38, 3) := by decide +kernel
theorem dX3_goesOn_86 : decode cX3_goesOn 86 = .ok (.iload_n 1, 1) := by decide +kernel
theorem dX3_goesOn_87 : decode cX3_goesOn 87 = .ok (.iload_n 2, 1) := by decide +kernel
theorem dX3_goesOn_88 : decode cX3_goesOn 88 = .ok (.iastore, 1) := by decide +kernel
theorem dX3_goesOn_89 : decode cX3_goesOn 89 = .ok (.aload_n 0, 1) := by decide +kernel
theorem dX3_goesOn_90 : decode cX3_goesOn 90 = .ok (.getfield 41, 3) := by decide +kernel
theorem dX3_goesOn_93 : decode cX3_goesOn 93 = .ok (.iload_n 1, 1) := by decide +kernel
theorem dX3_goesOn_94 : decode cX3_goesOn 94 = .ok (.aload_n 0, 1) := by decide +kernel
theorem dX3_goesOn_95 : decode cX3_goesOn 95 = .ok (.getfield 67, 3) := by decide +kernel
theorem dX3_goesOn_98 : decode cX3_goesOn 98 = .ok (.iastore, 1) := by decide +kernel
theorem dX3_goesOn_99 : decode cX3_goesOn 99 = .ok (.bipush 12, 2) := by decide +kernel
theorem dX3_goesOn_101 : decode cX3_goesOn 101 = .ok (.iload_n 1, 1) := by decide +kernel
theorem dX3_goesOn_102 : decode cX3_goesOn 102 = .ok (.imul, 1) := by decide +kernel
theorem dX3_goesOn_103 : decode cX3_goesOn 103 = .ok (.istore_n 3, 1) := by decide +kernel
theorem dX3_goesOn_104 : decode cX3_goesOn 104 = .ok (.iload_n 3, 1) := by decide +kernel
theorem dX3_goesOn_105 : decode cX3_goesOn 105 = .ok (.bipush 12, 2) := by decide +kernel
theorem dX3_goesOn_107 : decode cX3_goesOn 107 = .ok (.iload_n 1, 1) := by decide +kernel
theorem dX3_goesOn_108 : decode cX3_goesOn 108 = .ok (.imul, 1) := by decide +kernel
theorem dX3_goesOn_109 : decode cX3_goesOn 109 = .ok (.aload_n 0, 1) := by decide +kernel
theorem dX3_goesOn_110 : decode cX3_goesOn 110 = .ok (.getfield 35, 3) := by decide +kernel
theorem dX3_goesOn_113 : decode cX3_goesOn 113 = .ok (.iload_n 1, 1) := by decide +kernel
theorem dX3_goesOn_114 : decode cX3_goesOn 114 = .ok (.iaload, 1) := by decide +kernel
theorem dX3_goesOn_115 : decode cX3_goesOn 115 = .ok (.iadd, 1) := by decide +kernel
theorem dX3_goesOn_116 : decode cX3_goesOn 116 = .ok (.if_icmp .ge 45, 3) := by decide +kernel
theorem dX3_goesOn_119 : decode cX3_goesOn 119 = .ok (.aload_n 0, 1) := by decide +kernel
theorem dX3_goesOn_120 : decode cX3_goesOn 120 = .ok (.getfield 50, 3) := by decide +kernel
theorem dX3_goesOn_123 : decode cX3_goesOn 123 = .ok (.iload_n 3, 1) := by decide +kernel
theorem dX3_goesOn_124 : decode cX3_goesOn 124 = .ok (.aload_n 0, 1) := by decide +kernel
theorem dX3_goesOn_125 : decode cX3_goesOn 125 = .ok (.getfield 47, 3) := by decide +kernel
theorem dX3_goesOn_128 : decode cX3_goesOn 128 = .ok (.iload_n 3, 1) := by decide +kernel
theorem dX3_goesOn_129 : decode cX3_goesOn 129 = .ok (.iaload, 1) := by decide +kernel
theorem dX3_goesOn_130 : decode cX3_goesOn 130 = .ok (.iload_n 2, 1) := by decide +kernel
theorem dX3_goesOn_131 : decode cX3_goesOn 131 = .ok (.if_icmp .ne 17, 3) := by decide +kernel
theorem dX3_goesOn_134 : decode cX3_goesOn 134 = .ok (.aload_n 0, 1) := by decide +kernel
theorem dX3_goesOn_135 : decode cX3_goesOn 135 = .ok (.getfield 50, 3) := by decide +kernel
theorem dX3_goesOn_138 : decode cX3_goesOn 138 = .ok (.iload_n 3, 1) := by decide +kernel
theorem dX3_goesOn_139 : decode cX3_goesOn 139 = .ok (.iaload, 1) := by decide +kernel
theorem dX3_goesOn_140 : decode cX3_goesOn 140 = .ok (.ifCond .ne 8, 3) := by decide +kernel
theorem dX3_goesOn_143 : decode cX3_goesOn 143 = .ok (.bipush 100, 2) := by decide +kernel
theorem dX3_goesOn_145 : decode cX3_goesOn 145 = .ok (.goto 9, 3) := by decide +kernel
theorem dX3_goesOn_148 : decode cX3_goesOn 148 = .ok (.aload_n 0, 1) := by decide +kernel
theorem dX3_goesOn_149 : decode cX3_goesOn 149 = .ok (.getfield 50, 3) := by decide +kernel
theorem dX3_goesOn_152 : decode cX3_goesOn 152 = .ok (.iload_n 3, 1) := by decide +kernel
theorem dX3_goesOn_153 : decode cX3_goesOn 153 = .ok (.iaload, 1) := by decide +kernel
theorem dX3_goesOn_154 : decode cX3_goesOn 154 = .ok (.iastore, 1) := by decide +kernel
theorem dX3_goesOn_155 : decode cX3_goesOn 155 = .ok (.iinc 3 1, 3) := by decide +kernel
theorem dX3_goesOn_158 : decode cX3_goesOn 158 = .ok (.goto (-54), 3) := by decide +kernel
theorem dX3_goesOn_161 : decode cX3_goesOn 161 = .ok (.iload_n 2, 1) := by decide +kernel
theorem dX3_goesOn_162 : decode cX3_goesOn 162 = .ok (.iconst (-1), 1) := by decide +kernel
theorem dX3_goesOn_163 : decode cX3_goesOn 163 = .ok (.if_icmp .ne 14, 3) := by decide +kernel
theorem dX3_goesOn_166 : decode cX3_goesOn 166 = .ok (.aload_n 0, 1) := by decide +kernel
theorem dX3_goesOn_167 : decode cX3_goesOn 167 = .ok (.getfield 29, 3) := by decide +kernel
theorem dX3_goesOn_170 : decode cX3_goesOn 170 = .ok (.iload_n 1, 1) := by decide +kernel
theorem dX3_goesOn_171 : decode cX3_goesOn 171 = .ok (.aload_n 0, 1) := by decide +kernel
theorem dX3_goesOn_172 : decode cX3_goesOn 172 = .ok (.iload_n 1, 1) := by decide +kernel
theorem dX3_goesOn_173 : decode cX3_goesOn 173 = .ok (.invokevirtual 105, 3) := by decide +kernel
theorem dX3_goesOn_176 : decode cX3_goesOn 176 = .ok (.iastore, 1) := by decide +kernel
theorem dX3_goesOn_177 : decode cX3_goesOn 177 = .ok (.goto (-177), 3) := by decide +kernel
theorem dX3_goesOn_180 : decode cX3_goesOn 180 = .ok (.return_, 1) := by decide +kernel
theorem dX3_call_0 : decode cX3_call 0 = .ok (.aload_n 0, 1) := by decide +kernel
theorem dX3_call_1 : decode cX3_call 1 = .ok (.iload_n 1, 1) := by decide +kernel
theorem dX3_call_2 : decode cX3_call 2 = .ok (.invokestatic 74, 3) := by decide +kernel
theorem dX3_call_5 : decode cX3_call 5 = .ok (.ifCond .ne 7, 3) := by decide +kernel
theorem dX3_call_8 : decode cX3_call 8 = .ok (.iconst 1, 1) := by decide +kernel
theorem dX3_call_9 : decode cX3_call 9 = .ok (.goto 17, 3) := by decide +kernel
theorem dX3_call_12 : decode cX3_call 12 = .ok (.aload_n 0, 1) := by decide +kernel
theorem dX3_call_13 : decode cX3_call 13 = .ok (.getfield 108, 3) := by decide +kernel
theorem dX3_call_16 : decode cX3_call 16 = .ok (.bipush 20, 2) := by decide +kernel
theorem dX3_call_18 : decode cX3_call 18 = .ok (.if_icmp .ne 7, 3) := by decide +kernel
theorem dX3_call_21 : decode cX3_call 21 = .ok (.iconst 2, 1) := by decide +kernel
theorem dX3_call_22 : decode cX3_call 22 = .ok (.goto 4, 3) := by decide +kernel
theorem dX3_call_25 : decode cX3_call 25 = .ok (.iconst 0, 1) := by decide +kernel
theorem dX3_call_26 : decode cX3_call 26 = .ok (.invokevirtual 82, 3) := by decide +kernel
theorem dX3_call_29 : decode cX3_call 29 = .ok (.ifCond .ne 5, 3) := by decide +kernel
theorem dX3_call_32 : decode cX3_call 32 = .ok (.iconst 0, 1) := by decide +kernel
theorem dX3_call_33 : decode cX3_call 33 = .ok (.ireturn, 1) := by decide +kernel
theorem dX3_call_34 : decode cX3_call 34 = .ok (.aload_n 0, 1) := by decide +kernel
theorem dX3_call_35 : decode cX3_call 35 = .ok (.getfield 108, 3) := by decide +kernel
theorem dX3_call_38 : decode cX3_call 38 = .ok (.istore_n 2, 1) := by decide +kernel
theorem dX3_call_39 : decode cX3_call 39 = .ok (.aload_n 0, 1) := by decide +kernel
theorem dX3_call_40 : decode cX3_call 40 = .ok (.getfield 29, 3) := by decide +kernel
theorem dX3_call_43 : decode cX3_call 43 = .ok (.iload_n 2, 1) := by decide +kernel
theorem dX3_call_44 : decode cX3_call 44 = .ok (.iconst (-1), 1) := by decide +kernel
theorem dX3_call_45 : decode cX3_call 45 = .ok (.iastore, 1) := by decide +kernel
theorem dX3_call_46 : decode cX3_call 46 = .ok (.aload_n 0, 1) := by decide +kernel
theorem dX3_call_47 : decode cX3_call 47 = .ok (.getfield 32, 3) := by decide +kernel
theorem dX3_call_50 : decode cX3_call 50 = .ok (.iload_n 2, 1) := by decide +kernel
theorem dX3_call_51 : decode cX3_call 51 = .ok (.iconst (-1), 1) := by decide +kernel
theorem dX3_call_52 : decode cX3_call 52 = .ok (.iastore, 1) := by decide +kernel
theorem dX3_call_53 : decode cX3_call 53 = .ok (.aload_n 0, 1) := by decide +kernel
theorem dX3_call_54 : decode cX3_call 54 = .ok (.getfield 35, 3) := by decide +kernel
theorem dX3_call_57 : decode cX3_call 57 = .ok (.iload_n 2, 1) := by decide +kernel
theorem dX3_call_58 : decode cX3_call 58 = .ok (.iconst 0, 1) := by decide +kernel
theorem dX3_call_59 : decode cX3_call 59 = .ok (.iastore, 1) := by decide +kernel
theorem dX3_call_60 : decode cX3_call 60 = .ok (.aload_n 0, 1) := by decide +kernel
theorem dX3_call_61 : decode cX3_call 61 = .ok (.getfield 38, 3) := by decide +kernel
theorem dX3_call_64 : decode cX3_call 64 = .ok (.iload_n 2, 1) := by decide +kernel
theorem dX3_call_65 : decode cX3_call 65 = .ok (.bipush 11, 2) := by decide +kernel
theorem dX3_call_67 : decode cX3_call 67 = .ok (.iastore, 1) := by decide +kernel
theorem dX3_call_68 : decode cX3_call 68 = .ok (.aload_n 0, 1) := by decide +kernel
theorem dX3_call_69 : decode cX3_call 69 = .ok (.iload_n 2, 1) := by decide +kernel
theorem dX3_call_70 : decode cX3_call 70 = .ok (.iload_n 1, 1) := by decide +kernel
theorem dX3_call_71 : decode cX3_call 71 = .ok (.invokevirtual 111, 3) := by decide +kernel
theorem dX3_call_74 : decode cX3_call 74 = .ok (.aload_n 0, 1) := by decide +kernel
theorem dX3_call_75 : decode cX3_call 75 = .ok (.dup, 1) := by decide +kernel
theorem dX3_call_76 : decode cX3_call 76 = .ok (.getfield 108, 3) := by decide +kernel
theorem dX3_call_79 : decode cX3_call 79 = .ok (.iconst 1, 1) := by decide +kernel
theorem dX3_call_80 : decode cX3_call 80 = .ok (.iadd, 1) := by decide +kernel
theorem dX3_call_81 : decode cX3_call 81 = .ok (.putfield 108, 3) := by decide +kernel
theorem dX3_call_84 : decode cX3_call 84 = .ok (.aload_n 0, 1) := by decide +kernel
theorem dX3_call_85 : decode cX3_call 85 = .ok (.iload_n 2, 1) := by decide +kernel
theorem dX3_call_86 : decode cX3_call 86 = .ok (.invokevirtual 115, 3) := by decide +kernel
theorem dX3_call_89 : decode cX3_call 89 = .ok (.iload_n 2, 1) := by decide +kernel
theorem dX3_call_90 : decode cX3_call 90 = .ok (.ireturn, 1) := by decide +kernel
theorem dX3_isCall_0 : decode cX3_isCall 0 = .ok (.iload_n 1, 1) := by decide +kernel
theorem dX3_isCall_1 : decode cX3_isCall 1 = .ok (.iconst 0, 1) := by decide +kernel
theorem dX3_isCall_2 : decode cX3_isCall 2 = .ok (.aload_n 0, 1) := by decide +kernel
theorem dX3_isCall_3 : decode cX3_isCall 3 = .ok (.getfield 108, 3) := by decide +kernel
theorem dX3_isCall_6 : decode cX3_isCall 6 = .ok (.iconst 1, 1) := by decide +kernel
theorem dX3_isCall_7 : decode cX3_isCall 7 = .ok (.isub, 1) := by decide +kernel
theorem dX3_isCall_8 : decode cX3_isCall 8 = .ok (.invokestatic 63, 3) := by decide +kernel
theorem dX3_isCall_11 : decode cX3_isCall 11 = .ok (.ireturn, 1) := by decide +kernel
theorem dX3_branchOf_0 : decode cX3_branchOf 0 = .ok (.iconst (-1), 1) := by decide +kernel
theorem dX3_branchOf_1 : decode cX3_branchOf 1 = .ok (.istore_n 3, 1) := by decide +kernel
theorem dX3_branchOf_2 : decode cX3_branchOf 2 = .ok (.iconst 0, 1) := by decide +kernel
theorem dX3_branchOf_3 : decode cX3_branchOf 3 = .ok (.istore 4, 2) := by decide +kernel
theorem dX3_branchOf_5 : decode cX3_branchOf 5 = .ok (.iload 4, 2) := by decide +kernel
theorem dX3_branchOf_7 : decode cX3_branchOf 7 = .ok (.aload_n 0, 1) := by decide +kernel
theorem dX3_branchOf_8 : decode cX3_branchOf 8 = .ok (.getfield 35, 3) := by decide +kernel
theorem dX3_branchOf_11 : decode cX3_branchOf 11 = .ok (.iload_n 1, 1) := by decide +kernel
theorem dX3_branchOf_12 : decode cX3_branchOf 12 = .ok (.iaload, 1) := by decide +kernel
theorem dX3_branchOf_13 : decode cX3_branchOf 13 = .ok (.if_icmp .ge 32, 3) := by decide +kernel
theorem dX3_branchOf_16 : decode cX3_branchOf 16 = .ok (.aload_n 0, 1) := by decide +kernel
theorem dX3_branchOf_17 : decode cX3_branchOf 17 = .ok (.getfield 44, 3) := by decide +kernel
theorem dX3_branchOf_20 : decode cX3_branchOf 20 = .ok (.bipush 12, 2) := by decide +kernel
theorem dX3_branchOf_22 : decode cX3_branchOf 22 = .ok (.iload_n 1, 1) := by decide +kernel
theorem dX3_branchOf_23 : decode cX3_branchOf 23 = .ok (.imul, 1) := by decide +kernel
theorem dX3_branchOf_24 : decode cX3_branchOf 24 = .ok (.iload 4, 2) := by decide +kernel
theorem dX3_branchOf_26 : decode cX3_branchOf 26 = .ok (.iadd, 1) := by decide +kernel
theorem dX3_branchOf_27 : decode cX3_branchOf 27 = .ok (.iaload, 1) := by decide +kernel
theorem dX3_branchOf_28 : decode cX3_branchOf 28 = .ok (.iload_n 2, 1) := by decide +kernel
theorem dX3_branchOf_29 : decode cX3_branchOf 29 = .ok (.if_icmp .ne 8, 3) := by decide +kernel
theorem dX3_branchOf_32 : decode cX3_branchOf 32 = .ok (.iload 4, 2) := by decide +kernel
theorem dX3_branchOf_34 : decode cX3_branchOf 34 = .ok (.goto 4, 3) := by decide +kernel
theorem dX3_branchOf_37 : decode cX3_branchOf 37 = .ok (.iload_n 3, 1) := by decide +kernel
theorem dX3_branchOf_38 : decode cX3_branchOf 38 = .ok (.istore_n 3, 1) := by decide +kernel
theorem dX3_branchOf_39 : decode cX3_branchOf 39 = .ok (.iinc 4 1, 3) := by decide +kernel
theorem dX3_branchOf_42 : decode cX3_branchOf 42 = .ok (.goto (-37), 3) := by decide +kernel
theorem dX3_branchOf_45 : decode cX3_branchOf 45 = .ok (.iload_n 3, 1) := by decide +kernel
theorem dX3_branchOf_46 : decode cX3_branchOf 46 = .ok (.ireturn, 1) := by decide +kernel
theorem dX3_canAnswer_0 : decode cX3_canAnswer 0 = .ok (.aload_n 0, 1) := by decide +kernel
theorem dX3_canAnswer_1 : decode cX3_canAnswer 1 = .ok (.iload_n 1, 1) := by decide +kernel
theorem dX3_canAnswer_2 : decode cX3_canAnswer 2 = .ok (.iload_n 2, 1) := by decide +kernel
theorem dX3_canAnswer_3 : decode cX3_canAnswer 3 = .ok (.invokevirtual 119, 3) := by decide +kernel
theorem dX3_canAnswer_6 : decode cX3_canAnswer 6 = .ok (.istore 4, 2) := by decide +kernel
theorem dX3_canAnswer_8 : decode cX3_canAnswer 8 = .ok (.bipush 12, 2) := by decide +kernel
theorem dX3_canAnswer_10 : decode cX3_canAnswer 10 = .ok (.iload_n 1, 1) := by decide +kernel
theorem dX3_canAnswer_11 : decode cX3_canAnswer 11 = .ok (.imul, 1) := by decide +kernel
theorem dX3_canAnswer_12 : decode cX3_canAnswer 12 = .ok (.iload 4, 2) := by decide +kernel
theorem dX3_canAnswer_14 : decode cX3_canAnswer 14 = .ok (.iadd, 1) := by decide +kernel
theorem dX3_canAnswer_15 : decode cX3_canAnswer 15 = .ok (.istore 5, 2) := by decide +kernel
theorem dX3_canAnswer_17 : decode cX3_canAnswer 17 = .ok (.iload 4, 2) := by decide +kernel
theorem dX3_canAnswer_19 : decode cX3_canAnswer 19 = .ok (.iconst (-1), 1) := by decide +kernel
theorem dX3_canAnswer_20 : decode cX3_canAnswer 20 = .ok (.if_icmp .eq 19, 3) := by decide +kernel
theorem dX3_canAnswer_23 : decode cX3_canAnswer 23 = .ok (.aload_n 0, 1) := by decide +kernel
theorem dX3_canAnswer_24 : decode cX3_canAnswer 24 = .ok (.getfield 47, 3) := by decide +kernel
theorem dX3_canAnswer_27 : decode cX3_canAnswer 27 = .ok (.iload 5, 2) := by decide +kernel
theorem dX3_canAnswer_29 : decode cX3_canAnswer 29 = .ok (.iaload, 1) := by decide +kernel
theorem dX3_canAnswer_30 : decode cX3_canAnswer 30 = .ok (.aload_n 0, 1) := by decide +kernel
theorem dX3_canAnswer_31 : decode cX3_canAnswer 31 = .ok (.getfield 38, 3) := by decide +kernel
theorem dX3_canAnswer_34 : decode cX3_canAnswer 34 = .ok (.iload_n 1, 1) := by decide +kernel
theorem dX3_canAnswer_35 : decode cX3_canAnswer 35 = .ok (.iaload, 1) := by decide +kernel
theorem dX3_canAnswer_36 : decode cX3_canAnswer 36 = .ok (.if_icmp .ge 5, 3) := by decide +kernel
theorem dX3_canAnswer_39 : decode cX3_canAnswer 39 = .ok (.iconst 0, 1) := by decide +kernel
theorem dX3_canAnswer_40 : decode cX3_canAnswer 40 = .ok (.ireturn, 1) := by decide +kernel
theorem dX3_canAnswer_41 : decode cX3_canAnswer 41 = .ok (.aload_n 0, 1) := by decide +kernel
theorem dX3_canAnswer_42 : decode cX3_canAnswer 42 = .ok (.getfield 50, 3) := by decide +kernel
theorem dX3_canAnswer_45 : decode cX3_canAnswer 45 = .ok (.iload 5, 2) := by decide +kernel
theorem dX3_canAnswer_47 : decode cX3_canAnswer 47 = .ok (.iaload, 1) := by decide +kernel
theorem dX3_canAnswer_48 : decode cX3_canAnswer 48 = .ok (.sipush 487, 3) := by decide +kernel
theorem dX3_canAnswer_51 : decode cX3_canAnswer 51 = .ok (.if_icmp .eq 16, 3) := by decide +kernel
theorem dX3_canAnswer_54 : decode cX3_canAnswer 54 = .ok (.aload_n 0, 1) := by decide +kernel
theorem dX3_canAnswer_55 : decode cX3_canAnswer 55 = .ok (.getfield 50, 3) := by decide +kernel
theorem dX3_canAnswer_58 : decode cX3_canAnswer 58 = .ok (.iload 5, 2) := by decide +kernel
theorem dX3_canAnswer_60 : decode cX3_canAnswer 60 = .ok (.iaload, 1) := by decide +kernel
theorem dX3_canAnswer_61 : decode cX3_canAnswer 61 = .ok (.sipush 408, 3) := by decide +kernel
theorem dX3_canAnswer_64 : decode cX3_canAnswer 64 = .ok (.if_icmp .ne 21, 3) := by decide +kernel
theorem dX3_canAnswer_67 : decode cX3_canAnswer 67 = .ok (.iload_n 3, 1) := by decide +kernel
theorem dX3_canAnswer_68 : decode cX3_canAnswer 68 = .ok (.sipush 200, 3) := by decide +kernel
theorem dX3_canAnswer_71 : decode cX3_canAnswer 71 = .ok (.if_icmp .lt 14, 3) := by decide +kernel
theorem dX3_canAnswer_74 : decode cX3_canAnswer 74 = .ok (.iload_n 3, 1) := by decide +kernel
theorem dX3_canAnswer_75 : decode cX3_canAnswer 75 = .ok (.sipush 299, 3) := by decide +kernel
theorem dX3_canAnswer_78 : decode cX3_canAnswer 78 = .ok (.if_icmp .gt 7, 3) := by decide +kernel
theorem dX3_canAnswer_81 : decode cX3_canAnswer 81 = .ok (.iconst 1, 1) := by decide +kernel
theorem dX3_canAnswer_82 : decode cX3_canAnswer 82 = .ok (.goto 4, 3) := by decide +kernel
theorem dX3_canAnswer_85 : decode cX3_canAnswer 85 = .ok (.iconst 0, 1) := by decide +kernel
theorem dX3_canAnswer_86 : decode cX3_canAnswer 86 = .ok (.istore 6, 2) := by decide +kernel
theorem dX3_canAnswer_88 : decode cX3_canAnswer 88 = .ok (.aload_n 0, 1) := by decide +kernel
theorem dX3_canAnswer_89 : decode cX3_canAnswer 89 = .ok (.getfield 50, 3) := by decide +kernel
theorem dX3_canAnswer_92 : decode cX3_canAnswer 92 = .ok (.iload 5, 2) := by decide +kernel
theorem dX3_canAnswer_94 : decode cX3_canAnswer 94 = .ok (.iaload, 1) := by decide +kernel
theorem dX3_canAnswer_95 : decode cX3_canAnswer 95 = .ok (.invokestatic 99, 3) := by decide +kernel
theorem dX3_canAnswer_98 : decode cX3_canAnswer 98 = .ok (.ifCond .eq 18, 3) := by decide +kernel
theorem dX3_canAnswer_101 : decode cX3_canAnswer 101 = .ok (.iload 6, 2) := by decide +kernel
theorem dX3_canAnswer_103 : decode cX3_canAnswer 103 = .ok (.ifCond .eq 17, 3) := by decide +kernel
theorem dX3_canAnswer_106 : decode cX3_canAnswer 106 = .ok (.aload_n 0, 1) := by decide +kernel
theorem dX3_canAnswer_107 : decode cX3_canAnswer 107 = .ok (.getfield 53, 3) := by decide +kernel
theorem dX3_canAnswer_110 : decode cX3_canAnswer 110 = .ok (.iload 5, 2) := by decide +kernel
theorem dX3_canAnswer_112 : decode cX3_canAnswer 112 = .ok (.baload, 1) := by decide +kernel
theorem dX3_canAnswer_113 : decode cX3_canAnswer 113 = .ok (.ifCond .ne 7, 3) := by decide +kernel
theorem dX3_canAnswer_116 : decode cX3_canAnswer 116 = .ok (.iconst 1, 1) := by decide +kernel
theorem dX3_canAnswer_117 : decode cX3_canAnswer 117 = .ok (.goto 4, 3) := by decide +kernel
theorem dX3_canAnswer_120 : decode cX3_canAnswer 120 = .ok (.iconst 0, 1) := by decide +kernel
theorem dX3_canAnswer_121 : decode cX3_canAnswer 121 = .ok (.ireturn, 1) := by decide +kernel
theorem dX3_takes_0 : decode cX3_takes 0 = .ok (.bipush 12, 2) := by decide +kernel
theorem dX3_takes_2 : decode cX3_takes 2 = .ok (.iload_n 1, 1) := by decide +kernel
theorem dX3_takes_3 : decode cX3_takes 3 = .ok (.imul, 1) := by decide +kernel
theorem dX3_takes_4 : decode cX3_takes 4 = .ok (.iload_n 2, 1) := by decide +kernel
theorem dX3_takes_5 : decode cX3_takes 5 = .ok (.iadd, 1) := by decide +kernel
theorem dX3_takes_6 : decode cX3_takes 6 = .ok (.istore 4, 2) := by decide +kernel
theorem dX3_takes_8 : decode cX3_takes 8 = .ok (.aload_n 0, 1) := by decide +kernel
theorem dX3_takes_9 : decode cX3_takes 9 = .ok (.getfield 50, 3) := by decide +kernel
theorem dX3_takes_12 : decode cX3_takes 12 = .ok (.iload 4, 2) := by decide +kernel
theorem dX3_takes_14 : decode cX3_takes 14 = .ok (.iload_n 3, 1) := by decide +kernel
theorem dX3_takes_15 : decode cX3_takes 15 = .ok (.iastore, 1) := by decide +kernel
theorem dX3_takes_16 : decode cX3_takes 16 = .ok (.iload_n 3, 1) := by decide +kernel
theorem dX3_takes_17 : decode cX3_takes 17 = .ok (.sipush 600, 3) := by decide +kernel
theorem dX3_takes_20 : decode cX3_takes 20 = .ok (.if_icmp .ge 17, 3) := by decide +kernel
theorem dX3_takes_23 : decode cX3_takes 23 = .ok (.iload_n 3, 1) := by decide +kernel
theorem dX3_takes_24 : decode cX3_takes 24 = .ok (.sipush 200, 3) := by decide +kernel
theorem dX3_takes_27 : decode cX3_takes 27 = .ok (.if_icmp .lt 59, 3) := by decide +kernel
theorem dX3_takes_30 : decode cX3_takes 30 = .ok (.iload_n 3, 1) := by decide +kernel
theorem dX3_takes_31 : decode cX3_takes 31 = .ok (.sipush 299, 3) := by decide +kernel
theorem dX3_takes_34 : decode cX3_takes 34 = .ok (.if_icmp .gt 52, 3) := by decide +kernel
theorem dX3_takes_37 : decode cX3_takes 37 = .ok (.aload_n 0, 1) := by decide +kernel
theorem dX3_takes_38 : decode cX3_takes 38 = .ok (.iload_n 1, 1) := by decide +kernel
theorem dX3_takes_39 : decode cX3_takes 39 = .ok (.invokevirtual 123, 3) := by decide +kernel
theorem dX3_takes_42 : decode cX3_takes 42 = .ok (.pop, 1) := by decide +kernel
theorem dX3_takes_43 : decode cX3_takes 43 = .ok (.aload_n 0, 1) := by decide +kernel
theorem dX3_takes_44 : decode cX3_takes 44 = .ok (.getfield 32, 3) := by decide +kernel
theorem dX3_takes_47 : decode cX3_takes 47 = .ok (.iload_n 1, 1) := by decide +kernel
theorem dX3_takes_48 : decode cX3_takes 48 = .ok (.iload_n 3, 1) := by decide +kernel
theorem dX3_takes_49 : decode cX3_takes 49 = .ok (.sipush 600, 3) := by decide +kernel
theorem dX3_takes_52 : decode cX3_takes 52 = .ok (.if_icmp .lt 7, 3) := by decide +kernel
theorem dX3_takes_55 : decode cX3_takes 55 = .ok (.iconst (-1), 1) := by decide +kernel
theorem dX3_takes_56 : decode cX3_takes 56 = .ok (.goto 4, 3) := by decide +kernel
theorem dX3_takes_59 : decode cX3_takes 59 = .ok (.iload_n 2, 1) := by decide +kernel
theorem dX3_takes_60 : decode cX3_takes 60 = .ok (.iastore, 1) := by decide +kernel
theorem dX3_takes_61 : decode cX3_takes 61 = .ok (.aload_n 0, 1) := by decide +kernel
theorem dX3_takes_62 : decode cX3_takes 62 = .ok (.getfield 29, 3) := by decide +kernel
theorem dX3_takes_65 : decode cX3_takes 65 = .ok (.iload_n 1, 1) := by decide +kernel
theorem dX3_takes_66 : decode cX3_takes 66 = .ok (.iload_n 3, 1) := by decide +kernel
theorem dX3_takes_67 : decode cX3_takes 67 = .ok (.sipush 600, 3) := by decide +kernel
theorem dX3_takes_70 : decode cX3_takes 70 = .ok (.if_icmp .lt 11, 3) := by decide +kernel
theorem dX3_takes_73 : decode cX3_takes 73 = .ok (.aload_n 0, 1) := by decide +kernel
theorem dX3_takes_74 : decode cX3_takes 74 = .ok (.iload_n 1, 1) := by decide +kernel
theorem dX3_takes_75 : decode cX3_takes 75 = .ok (.invokevirtual 105, 3) := by decide +kernel
theorem dX3_takes_78 : decode cX3_takes 78 = .ok (.goto 4, 3) := by decide +kernel
theorem dX3_takes_81 : decode cX3_takes 81 = .ok (.iload_n 3, 1) := by decide +kernel
theorem dX3_takes_82 : decode cX3_takes 82 = .ok (.iastore, 1) := by decide +kernel
theorem dX3_takes_83 : decode cX3_takes 83 = .ok (.goto 15, 3) := by decide +kernel
theorem dX3_takes_86 : decode cX3_takes 86 = .ok (.iload_n 3, 1) := by decide +kernel
theorem dX3_takes_87 : decode cX3_takes 87 = .ok (.sipush 300, 3) := by decide +kernel
theorem dX3_takes_90 : decode cX3_takes 90 = .ok (.if_icmp .lt 8, 3) := by decide +kernel
theorem dX3_takes_93 : decode cX3_takes 93 = .ok (.aload_n 0, 1) := by decide +kernel
theorem dX3_takes_94 : decode cX3_takes 94 = .ok (.iload_n 1, 1) := by decide +kernel
theorem dX3_takes_95 : decode cX3_takes 95 = .ok (.invokevirtual 115, 3) := by decide +kernel
theorem dX3_takes_98 : decode cX3_takes 98 = .ok (.return_, 1) := by decide +kernel
theorem dX3_answer_0 : decode cX3_answer 0 = .ok (.aload_n 0, 1) := by decide +kernel
theorem dX3_answer_1 : decode cX3_answer 1 = .ok (.iload_n 1, 1) := by decide +kernel
theorem dX3_answer_2 : decode cX3_answer 2 = .ok (.invokevirtual 126, 3) := by decide +kernel
theorem dX3_answer_5 : decode cX3_answer 5 = .ok (.istore 4, 2) := by decide +kernel
theorem dX3_answer_7 : decode cX3_answer 7 = .ok (.iload_n 2, 1) := by decide +kernel
theorem dX3_answer_8 : decode cX3_answer 8 = .ok (.iconst 0, 1) := by decide +kernel
theorem dX3_answer_9 : decode cX3_answer 9 = .ok (.bipush 9, 2) := by decide +kernel
theorem dX3_answer_11 : decode cX3_answer 11 = .ok (.invokestatic 63, 3) := by decide +kernel
theorem dX3_answer_14 : decode cX3_answer 14 = .ok (.ifCond .eq 27, 3) := by decide +kernel
theorem dX3_answer_17 : decode cX3_answer 17 = .ok (.iload_n 3, 1) := by decide +kernel
theorem dX3_answer_18 : decode cX3_answer 18 = .ok (.sipush 180, 3) := by decide +kernel
theorem dX3_answer_21 : decode cX3_answer 21 = .ok (.if_icmp .eq 16, 3) := by decide +kernel
theorem dX3_answer_24 : decode cX3_answer 24 = .ok (.iload_n 3, 1) := by decide +kernel
theorem dX3_answer_25 : decode cX3_answer 25 = .ok (.sipush 200, 3) := by decide +kernel
theorem dX3_answer_28 : decode cX3_answer 28 = .ok (.sipush 699, 3) := by decide +kernel
theorem dX3_answer_31 : decode cX3_answer 31 = .ok (.invokestatic 63, 3) := by decide +kernel
theorem dX3_answer_34 : decode cX3_answer 34 = .ok (.ifCond .eq 7, 3) := by decide +kernel
theorem dX3_answer_37 : decode cX3_answer 37 = .ok (.iconst 1, 1) := by decide +kernel
theorem dX3_answer_38 : decode cX3_answer 38 = .ok (.goto 4, 3) := by decide +kernel
theorem dX3_answer_41 : decode cX3_answer 41 = .ok (.iconst 0, 1) := by decide +kernel
theorem dX3_answer_42 : decode cX3_answer 42 = .ok (.istore 5, 2) := by decide +kernel
theorem dX3_answer_44 : decode cX3_answer 44 = .ok (.aload_n 0, 1) := by decide +kernel
theorem dX3_answer_45 : decode cX3_answer 45 = .ok (.iload 4, 2) := by decide +kernel
theorem dX3_answer_47 : decode cX3_answer 47 = .ok (.ifCond .ne 7, 3) := by decide +kernel
theorem dX3_answer_50 : decode cX3_answer 50 = .ok (.iconst 1, 1) := by decide +kernel
theorem dX3_answer_51 : decode cX3_answer 51 = .ok (.goto 27, 3) := by decide +kernel
theorem dX3_answer_54 : decode cX3_answer 54 = .ok (.iload 5, 2) := by decide +kernel
theorem dX3_answer_56 : decode cX3_answer 56 = .ok (.ifCond .ne 7, 3) := by decide +kernel
theorem dX3_answer_59 : decode cX3_answer 59 = .ok (.iconst 2, 1) := by decide +kernel
theorem dX3_answer_60 : decode cX3_answer 60 = .ok (.goto 18, 3) := by decide +kernel
theorem dX3_answer_63 : decode cX3_answer 63 = .ok (.aload_n 0, 1) := by decide +kernel
theorem dX3_answer_64 : decode cX3_answer 64 = .ok (.iload_n 1, 1) := by decide +kernel
theorem dX3_answer_65 : decode cX3_answer 65 = .ok (.iload_n 2, 1) := by decide +kernel
theorem dX3_answer_66 : decode cX3_answer 66 = .ok (.iload_n 3, 1) := by decide +kernel
theorem dX3_answer_67 : decode cX3_answer 67 = .ok (.invokevirtual 129, 3) := by decide +kernel
theorem dX3_answer_70 : decode cX3_answer 70 = .ok (.ifCond .eq 7, 3) := by decide +kernel
theorem dX3_answer_73 : decode cX3_answer 73 = .ok (.iconst 0, 1) := by decide +kernel
theorem dX3_answer_74 : decode cX3_answer 74 = .ok (.goto 4, 3) := by decide +kernel
theorem dX3_answer_77 : decode cX3_answer 77 = .ok (.iconst 3, 1) := by decide +kernel
theorem dX3_answer_78 : decode cX3_answer 78 = .ok (.invokevirtual 82, 3) := by decide +kernel
theorem dX3_answer_81 : decode cX3_answer 81 = .ok (.ifCond .ne 5, 3) := by decide +kernel
theorem dX3_answer_84 : decode cX3_answer 84 = .ok (.iconst 0, 1) := by decide +kernel
theorem dX3_answer_85 : decode cX3_answer 85 = .ok (.ireturn, 1) := by decide +kernel
theorem dX3_answer_86 : decode cX3_answer 86 = .ok (.aload_n 0, 1) := by decide +kernel
theorem dX3_answer_87 : decode cX3_answer 87 = .ok (.iload_n 1, 1) := by decide +kernel
theorem dX3_answer_88 : decode cX3_answer 88 = .ok (.iload_n 2, 1) := by decide +kernel
theorem dX3_answer_89 : decode cX3_answer 89 = .ok (.invokevirtual 119, 3) := by decide +kernel
theorem dX3_answer_92 : decode cX3_answer 92 = .ok (.istore 6, 2) := by decide +kernel
theorem dX3_answer_94 : decode cX3_answer 94 = .ok (.aload_n 0, 1) := by decide +kernel
theorem dX3_answer_95 : decode cX3_answer 95 = .ok (.getfield 50, 3) := by decide +kernel
theorem dX3_answer_98 : decode cX3_answer 98 = .ok (.bipush 12, 2) := by decide +kernel
theorem dX3_answer_100 : decode cX3_answer 100 = .ok (.iload_n 1, 1) := by decide +kernel
theorem dX3_answer_101 : decode cX3_answer 101 = .ok (.imul, 1) := by decide +kernel
theorem dX3_answer_102 : decode cX3_answer 102 = .ok (.iload 6, 2) := by decide +kernel
theorem dX3_answer_104 : decode cX3_answer 104 = .ok (.iadd, 1) := by decide +kernel
theorem dX3_answer_105 : decode cX3_answer 105 = .ok (.iaload, 1) := by decide +kernel
theorem dX3_answer_106 : decode cX3_answer 106 = .ok (.invokestatic 99, 3) := by decide +kernel
theorem dX3_answer_109 : decode cX3_answer 109 = .ok (.ifCond .eq 29, 3) := by decide +kernel
theorem dX3_answer_112 : decode cX3_answer 112 = .ok (.aload_n 0, 1) := by decide +kernel
theorem dX3_answer_113 : decode cX3_answer 113 = .ok (.getfield 53, 3) := by decide +kernel
theorem dX3_answer_116 : decode cX3_answer 116 = .ok (.bipush 12, 2) := by decide +kernel
theorem dX3_answer_118 : decode cX3_answer 118 = .ok (.iload_n 1, 1) := by decide +kernel
theorem dX3_answer_119 : decode cX3_answer 119 = .ok (.imul, 1) := by decide +kernel
theorem dX3_answer_120 : decode cX3_answer 120 = .ok (.iload 6, 2) := by decide +kernel
theorem dX3_answer_122 : decode cX3_answer 122 = .ok (.iadd, 1) := by decide +kernel
theorem dX3_answer_123 : decode cX3_answer 123 = .ok (.iconst 1, 1) := by decide +kernel
theorem dX3_answer_124 : decode cX3_answer 124 = .ok (.bastore, 1) := by decide +kernel
theorem dX3_answer_125 : decode cX3_answer 125 = .ok (.aload_n 0, 1) := by decide +kernel
theorem dX3_answer_126 : decode cX3_answer 126 = .ok (.getfield 56, 3) := by decide +kernel
theorem dX3_answer_129 : decode cX3_answer 129 = .ok (.iload_n 2, 1) := by decide +kernel
theorem dX3_answer_130 : decode cX3_answer 130 = .ok (.dup2, 1) := by decide +kernel
theorem dX3_answer_131 : decode cX3_answer 131 = .ok (.iaload, 1) := by decide +kernel
theorem dX3_answer_132 : decode cX3_answer 132 = .ok (.iconst 1, 1) := by decide +kernel
theorem dX3_answer_133 : decode cX3_answer 133 = .ok (.iadd, 1) := by decide +kernel
theorem dX3_answer_134 : decode cX3_answer 134 = .ok (.iastore, 1) := by decide +kernel
theorem dX3_answer_135 : decode cX3_answer 135 = .ok (.goto 11, 3) := by decide +kernel
theorem dX3_answer_138 : decode cX3_answer 138 = .ok (.aload_n 0, 1) := by decide +kernel
theorem dX3_answer_139 : decode cX3_answer 139 = .ok (.iload_n 1, 1) := by decide +kernel
theorem dX3_answer_140 : decode cX3_answer 140 = .ok (.iload 6, 2) := by decide +kernel
theorem dX3_answer_142 : decode cX3_answer 142 = .ok (.iload_n 3, 1) := by decide +kernel
theorem dX3_answer_143 : decode cX3_answer 143 = .ok (.invokevirtual 132, 3) := by decide +kernel
theorem dX3_answer_146 : decode cX3_answer 146 = .ok (.aload_n 0, 1) := by decide +kernel
theorem dX3_answer_147 : decode cX3_answer 147 = .ok (.getfield 29, 3) := by decide +kernel
theorem dX3_answer_150 : decode cX3_answer 150 = .ok (.iload_n 1, 1) := by decide +kernel
theorem dX3_answer_151 : decode cX3_answer 151 = .ok (.iaload, 1) := by decide +kernel
theorem dX3_answer_152 : decode cX3_answer 152 = .ok (.ireturn, 1) := by decide +kernel
theorem dX3_cancel_0 : decode cX3_cancel 0 = .ok (.aload_n 0, 1) := by decide +kernel
theorem dX3_cancel_1 : decode cX3_cancel 1 = .ok (.iload_n 1, 1) := by decide +kernel
theorem dX3_cancel_2 : decode cX3_cancel 2 = .ok (.invokevirtual 126, 3) := by decide +kernel
theorem dX3_cancel_5 : decode cX3_cancel 5 = .ok (.istore_n 2, 1) := by decide +kernel
theorem dX3_cancel_6 : decode cX3_cancel 6 = .ok (.aload_n 0, 1) := by decide +kernel
theorem dX3_cancel_7 : decode cX3_cancel 7 = .ok (.iload_n 2, 1) := by decide +kernel
theorem dX3_cancel_8 : decode cX3_cancel 8 = .ok (.ifCond .ne 7, 3) := by decide +kernel
theorem dX3_cancel_11 : decode cX3_cancel 11 = .ok (.iconst 1, 1) := by decide +kernel
theorem dX3_cancel_12 : decode cX3_cancel 12 = .ok (.goto 18, 3) := by decide +kernel
theorem dX3_cancel_15 : decode cX3_cancel 15 = .ok (.aload_n 0, 1) := by decide +kernel
theorem dX3_cancel_16 : decode cX3_cancel 16 = .ok (.getfield 29, 3) := by decide +kernel
theorem dX3_cancel_19 : decode cX3_cancel 19 = .ok (.iload_n 1, 1) := by decide +kernel
theorem dX3_cancel_20 : decode cX3_cancel 20 = .ok (.iaload, 1) := by decide +kernel
theorem dX3_cancel_21 : decode cX3_cancel 21 = .ok (.iconst (-1), 1) := by decide +kernel
theorem dX3_cancel_22 : decode cX3_cancel 22 = .ok (.if_icmp .eq 7, 3) := by decide +kernel
theorem dX3_cancel_25 : decode cX3_cancel 25 = .ok (.iconst 2, 1) := by decide +kernel
theorem dX3_cancel_26 : decode cX3_cancel 26 = .ok (.goto 4, 3) := by decide +kernel
theorem dX3_cancel_29 : decode cX3_cancel 29 = .ok (.iconst 0, 1) := by decide +kernel
theorem dX3_cancel_30 : decode cX3_cancel 30 = .ok (.invokevirtual 82, 3) := by decide +kernel
theorem dX3_cancel_33 : decode cX3_cancel 33 = .ok (.ifCond .ne 5, 3) := by decide +kernel
theorem dX3_cancel_36 : decode cX3_cancel 36 = .ok (.iconst 0, 1) := by decide +kernel
theorem dX3_cancel_37 : decode cX3_cancel 37 = .ok (.ireturn, 1) := by decide +kernel
theorem dX3_cancel_38 : decode cX3_cancel 38 = .ok (.aload_n 0, 1) := by decide +kernel
theorem dX3_cancel_39 : decode cX3_cancel 39 = .ok (.getfield 29, 3) := by decide +kernel
theorem dX3_cancel_42 : decode cX3_cancel 42 = .ok (.iload_n 1, 1) := by decide +kernel
theorem dX3_cancel_43 : decode cX3_cancel 43 = .ok (.sipush 487, 3) := by decide +kernel
theorem dX3_cancel_46 : decode cX3_cancel 46 = .ok (.iastore, 1) := by decide +kernel
theorem dX3_cancel_47 : decode cX3_cancel 47 = .ok (.aload_n 0, 1) := by decide +kernel
theorem dX3_cancel_48 : decode cX3_cancel 48 = .ok (.iload_n 1, 1) := by decide +kernel
theorem dX3_cancel_49 : decode cX3_cancel 49 = .ok (.invokevirtual 123, 3) := by decide +kernel
theorem dX3_cancel_52 : decode cX3_cancel 52 = .ok (.ireturn, 1) := by decide +kernel
theorem dX3_rings_0 : decode cX3_rings 0 = .ok (.bipush 12, 2) := by decide +kernel
theorem dX3_rings_2 : decode cX3_rings 2 = .ok (.iload_n 1, 1) := by decide +kernel
theorem dX3_rings_3 : decode cX3_rings 3 = .ok (.imul, 1) := by decide +kernel
theorem dX3_rings_4 : decode cX3_rings 4 = .ok (.istore_n 2, 1) := by decide +kernel
theorem dX3_rings_5 : decode cX3_rings 5 = .ok (.iload_n 2, 1) := by decide +kernel
theorem dX3_rings_6 : decode cX3_rings 6 = .ok (.bipush 12, 2) := by decide +kernel
theorem dX3_rings_8 : decode cX3_rings 8 = .ok (.iload_n 1, 1) := by decide +kernel
theorem dX3_rings_9 : decode cX3_rings 9 = .ok (.imul, 1) := by decide +kernel
theorem dX3_rings_10 : decode cX3_rings 10 = .ok (.aload_n 0, 1) := by decide +kernel
theorem dX3_rings_11 : decode cX3_rings 11 = .ok (.getfield 35, 3) := by decide +kernel
theorem dX3_rings_14 : decode cX3_rings 14 = .ok (.iload_n 1, 1) := by decide +kernel
theorem dX3_rings_15 : decode cX3_rings 15 = .ok (.iaload, 1) := by decide +kernel
theorem dX3_rings_16 : decode cX3_rings 16 = .ok (.iadd, 1) := by decide +kernel
theorem dX3_rings_17 : decode cX3_rings 17 = .ok (.if_icmp .ge 80, 3) := by decide +kernel
theorem dX3_rings_20 : decode cX3_rings 20 = .ok (.aload_n 0, 1) := by decide +kernel
theorem dX3_rings_21 : decode cX3_rings 21 = .ok (.getfield 47, 3) := by decide +kernel
theorem dX3_rings_24 : decode cX3_rings 24 = .ok (.iload_n 2, 1) := by decide +kernel
theorem dX3_rings_25 : decode cX3_rings 25 = .ok (.iaload, 1) := by decide +kernel
theorem dX3_rings_26 : decode cX3_rings 26 = .ok (.aload_n 0, 1) := by decide +kernel
theorem dX3_rings_27 : decode cX3_rings 27 = .ok (.getfield 38, 3) := by decide +kernel
theorem dX3_rings_30 : decode cX3_rings 30 = .ok (.iload_n 1, 1) := by decide +kernel
theorem dX3_rings_31 : decode cX3_rings 31 = .ok (.iaload, 1) := by decide +kernel
theorem dX3_rings_32 : decode cX3_rings 32 = .ok (.if_icmp .lt 35, 3) := by decide +kernel
theorem dX3_rings_35 : decode cX3_rings 35 = .ok (.aload_n 0, 1) := by decide +kernel
theorem dX3_rings_36 : decode cX3_rings 36 = .ok (.getfield 50, 3) := by decide +kernel
theorem dX3_rings_39 : decode cX3_rings 39 = .ok (.iload_n 2, 1) := by decide +kernel
theorem dX3_rings_40 : decode cX3_rings 40 = .ok (.iaload, 1) := by decide +kernel
theorem dX3_rings_41 : decode cX3_rings 41 = .ok (.invokestatic 99, 3) := by decide +kernel
theorem dX3_rings_44 : decode cX3_rings 44 = .ok (.ifCond .ne 23, 3) := by decide +kernel
theorem dX3_rings_47 : decode cX3_rings 47 = .ok (.aload_n 0, 1) := by decide +kernel
theorem dX3_rings_48 : decode cX3_rings 48 = .ok (.getfield 67, 3) := by decide +kernel
theorem dX3_rings_51 : decode cX3_rings 51 = .ok (.aload_n 0, 1) := by decide +kernel
theorem dX3_rings_52 : decode cX3_rings 52 = .ok (.getfield 41, 3) := by decide +kernel
theorem dX3_rings_55 : decode cX3_rings 55 = .ok (.iload_n 1, 1) := by decide +kernel
theorem dX3_rings_56 : decode cX3_rings 56 = .ok (.iaload, 1) := by decide +kernel
theorem dX3_rings_57 : decode cX3_rings 57 = .ok (.bipush 10, 2) := by decide +kernel
theorem dX3_rings_59 : decode cX3_rings 59 = .ok (.iadd, 1) := by decide +kernel
theorem dX3_rings_60 : decode cX3_rings 60 = .ok (.if_icmp .lt 7, 3) := by decide +kernel
theorem dX3_rings_63 : decode cX3_rings 63 = .ok (.iconst 1, 1) := by decide +kernel
theorem dX3_rings_64 : decode cX3_rings 64 = .ok (.goto 4, 3) := by decide +kernel
theorem dX3_rings_67 : decode cX3_rings 67 = .ok (.iconst 0, 1) := by decide +kernel
theorem dX3_rings_68 : decode cX3_rings 68 = .ok (.istore_n 3, 1) := by decide +kernel
theorem dX3_rings_69 : decode cX3_rings 69 = .ok (.aload_n 0, 1) := by decide +kernel
theorem dX3_rings_70 : decode cX3_rings 70 = .ok (.getfield 50, 3) := by decide +kernel
theorem dX3_rings_73 : decode cX3_rings 73 = .ok (.iload_n 2, 1) := by decide +kernel
theorem dX3_rings_74 : decode cX3_rings 74 = .ok (.iload_n 3, 1) := by decide +kernel
theorem dX3_rings_75 : decode cX3_rings 75 = .ok (.ifCond .eq 9, 3) := by decide +kernel
theorem dX3_rings_78 : decode cX3_rings 78 = .ok (.sipush 408, 3) := by decide +kernel
theorem dX3_rings_81 : decode cX3_rings 81 = .ok (.goto 9, 3) := by decide +kernel
theorem dX3_rings_84 : decode cX3_rings 84 = .ok (.aload_n 0, 1) := by decide +kernel
theorem dX3_rings_85 : decode cX3_rings 85 = .ok (.getfield 50, 3) := by decide +kernel
theorem dX3_rings_88 : decode cX3_rings 88 = .ok (.iload_n 2, 1) := by decide +kernel
theorem dX3_rings_89 : decode cX3_rings 89 = .ok (.iaload, 1) := by decide +kernel
theorem dX3_rings_90 : decode cX3_rings 90 = .ok (.iastore, 1) := by decide +kernel
theorem dX3_rings_91 : decode cX3_rings 91 = .ok (.iinc 2 1, 3) := by decide +kernel
theorem dX3_rings_94 : decode cX3_rings 94 = .ok (.goto (-89), 3) := by decide +kernel
theorem dX3_rings_97 : decode cX3_rings 97 = .ok (.return_, 1) := by decide +kernel
theorem dX3_pass_0 : decode cX3_pass 0 = .ok (.aload_n 0, 1) := by decide +kernel
theorem dX3_pass_1 : decode cX3_pass 1 = .ok (.iload_n 1, 1) := by decide +kernel
theorem dX3_pass_2 : decode cX3_pass 2 = .ok (.iconst 1, 1) := by decide +kernel
theorem dX3_pass_3 : decode cX3_pass 3 = .ok (.bipush 100, 2) := by decide +kernel
theorem dX3_pass_5 : decode cX3_pass 5 = .ok (.invokestatic 63, 3) := by decide +kernel
theorem dX3_pass_8 : decode cX3_pass 8 = .ok (.ifCond .eq 7, 3) := by decide +kernel
theorem dX3_pass_11 : decode cX3_pass 11 = .ok (.iconst 0, 1) := by decide +kernel
theorem dX3_pass_12 : decode cX3_pass 12 = .ok (.goto 4, 3) := by decide +kernel
theorem dX3_pass_15 : decode cX3_pass 15 = .ok (.iconst 1, 1) := by decide +kernel
theorem dX3_pass_16 : decode cX3_pass 16 = .ok (.invokevirtual 82, 3) := by decide +kernel
theorem dX3_pass_19 : decode cX3_pass 19 = .ok (.ifCond .ne 5, 3) := by decide +kernel
theorem dX3_pass_22 : decode cX3_pass 22 = .ok (.iconst 0, 1) := by decide +kernel
theorem dX3_pass_23 : decode cX3_pass 23 = .ok (.ireturn, 1) := by decide +kernel
theorem dX3_pass_24 : decode cX3_pass 24 = .ok (.iconst 0, 1) := by decide +kernel
theorem dX3_pass_25 : decode cX3_pass 25 = .ok (.istore_n 2, 1) := by decide +kernel
theorem dX3_pass_26 : decode cX3_pass 26 = .ok (.iconst 0, 1) := by decide +kernel
theorem dX3_pass_27 : decode cX3_pass 27 = .ok (.istore_n 3, 1) := by decide +kernel
theorem dX3_pass_28 : decode cX3_pass 28 = .ok (.iload_n 3, 1) := by decide +kernel
theorem dX3_pass_29 : decode cX3_pass 29 = .ok (.iload_n 1, 1) := by decide +kernel
theorem dX3_pass_30 : decode cX3_pass 30 = .ok (.if_icmp .ge 79, 3) := by decide +kernel
theorem dX3_pass_33 : decode cX3_pass 33 = .ok (.aload_n 0, 1) := by decide +kernel
theorem dX3_pass_34 : decode cX3_pass 34 = .ok (.dup, 1) := by decide +kernel
theorem dX3_pass_35 : decode cX3_pass 35 = .ok (.getfield 67, 3) := by decide +kernel
theorem dX3_pass_38 : decode cX3_pass 38 = .ok (.iconst 1, 1) := by decide +kernel
theorem dX3_pass_39 : decode cX3_pass 39 = .ok (.iadd, 1) := by decide +kernel
theorem dX3_pass_40 : decode cX3_pass 40 = .ok (.putfield 67, 3) := by decide +kernel
theorem dX3_pass_43 : decode cX3_pass 43 = .ok (.iconst 0, 1) := by decide +kernel
theorem dX3_pass_44 : decode cX3_pass 44 = .ok (.istore 4, 2) := by decide +kernel
theorem dX3_pass_46 : decode cX3_pass 46 = .ok (.iload 4, 2) := by decide +kernel
theorem dX3_pass_48 : decode cX3_pass 48 = .ok (.aload_n 0, 1) := by decide +kernel
theorem dX3_pass_49 : decode cX3_pass 49 = .ok (.getfield 108, 3) := by decide +kernel
theorem dX3_pass_52 : decode cX3_pass 52 = .ok (.if_icmp .ge 51, 3) := by decide +kernel
theorem dX3_pass_55 : decode cX3_pass 55 = .ok (.aload_n 0, 1) := by decide +kernel
theorem dX3_pass_56 : decode cX3_pass 56 = .ok (.getfield 29, 3) := by decide +kernel
theorem dX3_pass_59 : decode cX3_pass 59 = .ok (.iload 4, 2) := by decide +kernel
theorem dX3_pass_61 : decode cX3_pass 61 = .ok (.iaload, 1) := by decide +kernel
theorem dX3_pass_62 : decode cX3_pass 62 = .ok (.iconst (-1), 1) := by decide +kernel
theorem dX3_pass_63 : decode cX3_pass 63 = .ok (.if_icmp .ne 34, 3) := by decide +kernel
theorem dX3_pass_66 : decode cX3_pass 66 = .ok (.aload_n 0, 1) := by decide +kernel
theorem dX3_pass_67 : decode cX3_pass 67 = .ok (.iload 4, 2) := by decide +kernel
theorem dX3_pass_69 : decode cX3_pass 69 = .ok (.invokevirtual 136, 3) := by decide +kernel
theorem dX3_pass_72 : decode cX3_pass 72 = .ok (.aload_n 0, 1) := by decide +kernel
theorem dX3_pass_73 : decode cX3_pass 73 = .ok (.iload 4, 2) := by decide +kernel
theorem dX3_pass_75 : decode cX3_pass 75 = .ok (.invokevirtual 115, 3) := by decide +kernel
theorem dX3_pass_78 : decode cX3_pass 78 = .ok (.iload_n 2, 1) := by decide +kernel
theorem dX3_pass_79 : decode cX3_pass 79 = .ok (.aload_n 0, 1) := by decide +kernel
theorem dX3_pass_80 : decode cX3_pass 80 = .ok (.getfield 29, 3) := by decide +kernel
theorem dX3_pass_83 : decode cX3_pass 83 = .ok (.iload 4, 2) := by decide +kernel
theorem dX3_pass_85 : decode cX3_pass 85 = .ok (.iaload, 1) := by decide +kernel
theorem dX3_pass_86 : decode cX3_pass 86 = .ok (.iconst (-1), 1) := by decide +kernel
theorem dX3_pass_87 : decode cX3_pass 87 = .ok (.if_icmp .eq 7, 3) := by decide +kernel
theorem dX3_pass_90 : decode cX3_pass 90 = .ok (.iconst 1, 1) := by decide +kernel
theorem dX3_pass_91 : decode cX3_pass 91 = .ok (.goto 4, 3) := by decide +kernel
theorem dX3_pass_94 : decode cX3_pass 94 = .ok (.iconst 0, 1) := by decide +kernel
theorem dX3_pass_95 : decode cX3_pass 95 = .ok (.iadd, 1) := by decide +kernel
theorem dX3_pass_96 : decode cX3_pass 96 = .ok (.istore_n 2, 1) := by decide +kernel
theorem dX3_pass_97 : decode cX3_pass 97 = .ok (.iinc 4 1, 3) := by decide +kernel
theorem dX3_pass_100 : decode cX3_pass 100 = .ok (.goto (-54), 3) := by decide +kernel
theorem dX3_pass_103 : decode cX3_pass 103 = .ok (.iinc 3 1, 3) := by decide +kernel
theorem dX3_pass_106 : decode cX3_pass 106 = .ok (.goto (-78), 3) := by decide +kernel
theorem dX3_pass_109 : decode cX3_pass 109 = .ok (.iload_n 2, 1) := by decide +kernel
theorem dX3_pass_110 : decode cX3_pass 110 = .ok (.ireturn, 1) := by decide +kernel
theorem dX3_time_0 : decode cX3_time 0 = .ok (.aload_n 0, 1) := by decide +kernel
theorem dX3_time_1 : decode cX3_time 1 = .ok (.iconst 0, 1) := by decide +kernel
theorem dX3_time_2 : decode cX3_time 2 = .ok (.putfield 59, 3) := by decide +kernel
theorem dX3_time_5 : decode cX3_time 5 = .ok (.aload_n 0, 1) := by decide +kernel
theorem dX3_time_6 : decode cX3_time 6 = .ok (.getfield 67, 3) := by decide +kernel
theorem dX3_time_9 : decode cX3_time 9 = .ok (.ireturn, 1) := by decide +kernel
theorem dX3_calls_0 : decode cX3_calls 0 = .ok (.aload_n 0, 1) := by decide +kernel
theorem dX3_calls_1 : decode cX3_calls 1 = .ok (.iconst 0, 1) := by decide +kernel
theorem dX3_calls_2 : decode cX3_calls 2 = .ok (.putfield 59, 3) := by decide +kernel
theorem dX3_calls_5 : decode cX3_calls 5 = .ok (.aload_n 0, 1) := by decide +kernel
theorem dX3_calls_6 : decode cX3_calls 6 = .ok (.getfield 108, 3) := by decide +kernel
theorem dX3_calls_9 : decode cX3_calls 9 = .ok (.ireturn, 1) := by decide +kernel
theorem dX3_finalOf_0 : decode cX3_finalOf 0 = .ok (.aload_n 0, 1) := by decide +kernel
theorem dX3_finalOf_1 : decode cX3_finalOf 1 = .ok (.aload_n 0, 1) := by decide +kernel
theorem dX3_finalOf_2 : decode cX3_finalOf 2 = .ok (.iload_n 1, 1) := by decide +kernel
theorem dX3_finalOf_3 : decode cX3_finalOf 3 = .ok (.invokevirtual 126, 3) := by decide +kernel
theorem dX3_finalOf_6 : decode cX3_finalOf 6 = .ok (.ifCond .eq 7, 3) := by decide +kernel
theorem dX3_finalOf_9 : decode cX3_finalOf 9 = .ok (.iconst 0, 1) := by decide +kernel
theorem dX3_finalOf_10 : decode cX3_finalOf 10 = .ok (.goto 4, 3) := by decide +kernel
theorem dX3_finalOf_13 : decode cX3_finalOf 13 = .ok (.iconst 1, 1) := by decide +kernel
theorem dX3_finalOf_14 : decode cX3_finalOf 14 = .ok (.invokevirtual 82, 3) := by decide +kernel
theorem dX3_finalOf_17 : decode cX3_finalOf 17 = .ok (.ifCond .eq 12, 3) := by decide +kernel
theorem dX3_finalOf_20 : decode cX3_finalOf 20 = .ok (.aload_n 0, 1) := by decide +kernel
theorem dX3_finalOf_21 : decode cX3_finalOf 21 = .ok (.getfield 29, 3) := by decide +kernel
theorem dX3_finalOf_24 : decode cX3_finalOf 24 = .ok (.iload_n 1, 1) := by decide +kernel
theorem dX3_finalOf_25 : decode cX3_finalOf 25 = .ok (.iaload, 1) := by decide +kernel
theorem dX3_finalOf_26 : decode cX3_finalOf 26 = .ok (.goto 4, 3) := by decide +kernel
theorem dX3_finalOf_29 : decode cX3_finalOf 29 = .ok (.iconst 0, 1) := by decide +kernel
theorem dX3_finalOf_30 : decode cX3_finalOf 30 = .ok (.ireturn, 1) := by decide +kernel
theorem dX3_finalBySorting_0 : decode cX3_finalBySorting 0 = .ok (.aload_n 0, 1) := by decide +kernel
theorem dX3_finalBySorting_1 : decode cX3_finalBySorting 1 = .ok (.iload_n 1, 1) := by decide +kernel
theorem dX3_finalBySorting_2 : decode cX3_finalBySorting 2 = .ok (.invokevirtual 126, 3) := by decide +kernel
theorem dX3_finalBySorting_5 : decode cX3_finalBySorting 5 = .ok (.istore_n 2, 1) := by decide +kernel
theorem dX3_finalBySorting_6 : decode cX3_finalBySorting 6 = .ok (.aload_n 0, 1) := by decide +kernel
theorem dX3_finalBySorting_7 : decode cX3_finalBySorting 7 = .ok (.iload_n 2, 1) := by decide +kernel
theorem dX3_finalBySorting_8 : decode cX3_finalBySorting 8 = .ok (.ifCond .ne 7, 3) := by decide +kernel
theorem dX3_finalBySorting_11 : decode cX3_finalBySorting 11 = .ok (.iconst 1, 1) := by decide +kernel
theorem dX3_finalBySorting_12 : decode cX3_finalBySorting 12 = .ok (.goto 18, 3) := by decide +kernel
theorem dX3_finalBySorting_15 : decode cX3_finalBySorting 15 = .ok (.aload_n 0, 1) := by decide +kernel
theorem dX3_finalBySorting_16 : decode cX3_finalBySorting 16 = .ok (.getfield 29, 3) := by decide +kernel
theorem dX3_finalBySorting_19 : decode cX3_finalBySorting 19 = .ok (.iload_n 1, 1) := by decide +kernel
theorem dX3_finalBySorting_20 : decode cX3_finalBySorting 20 = .ok (.iaload, 1) := by decide +kernel
theorem dX3_finalBySorting_21 : decode cX3_finalBySorting 21 = .ok (.iconst (-1), 1) := by decide +kernel
theorem dX3_finalBySorting_22 : decode cX3_finalBySorting 22 = .ok (.if_icmp .ne 7, 3) := by decide +kernel
theorem dX3_finalBySorting_25 : decode cX3_finalBySorting 25 = .ok (.iconst 2, 1) := by decide +kernel
theorem dX3_finalBySorting_26 : decode cX3_finalBySorting 26 = .ok (.goto 4, 3) := by decide +kernel
theorem dX3_finalBySorting_29 : decode cX3_finalBySorting 29 = .ok (.iconst 0, 1) := by decide +kernel
theorem dX3_finalBySorting_30 : decode cX3_finalBySorting 30 = .ok (.invokevirtual 82, 3) := by decide +kernel
theorem dX3_finalBySorting_33 : decode cX3_finalBySorting 33 = .ok (.ifCond .eq 12, 3) := by decide +kernel
theorem dX3_finalBySorting_36 : decode cX3_finalBySorting 36 = .ok (.aload_n 0, 1) := by decide +kernel
theorem dX3_finalBySorting_37 : decode cX3_finalBySorting 37 = .ok (.getfield 29, 3) := by decide +kernel
theorem dX3_finalBySorting_40 : decode cX3_finalBySorting 40 = .ok (.iload_n 1, 1) := by decide +kernel
theorem dX3_finalBySorting_41 : decode cX3_finalBySorting 41 = .ok (.iaload, 1) := by decide +kernel
theorem dX3_finalBySorting_42 : decode cX3_finalBySorting 42 = .ok (.goto 4, 3) := by decide +kernel
theorem dX3_finalBySorting_45 : decode cX3_finalBySorting 45 = .ok (.iconst 0, 1) := by decide +kernel
theorem dX3_finalBySorting_46 : decode cX3_finalBySorting 46 = .ok (.ireturn, 1) := by decide +kernel
theorem dX3_branches_0 : decode cX3_branches 0 = .ok (.aload_n 0, 1) := by decide +kernel
theorem dX3_branches_1 : decode cX3_branches 1 = .ok (.aload_n 0, 1) := by decide +kernel
theorem dX3_branches_2 : decode cX3_branches 2 = .ok (.iload_n 1, 1) := by decide +kernel
theorem dX3_branches_3 : decode cX3_branches 3 = .ok (.invokevirtual 126, 3) := by decide +kernel
theorem dX3_branches_6 : decode cX3_branches 6 = .ok (.ifCond .eq 7, 3) := by decide +kernel
theorem dX3_branches_9 : decode cX3_branches 9 = .ok (.iconst 0, 1) := by decide +kernel
theorem dX3_branches_10 : decode cX3_branches 10 = .ok (.goto 4, 3) := by decide +kernel
theorem dX3_branches_13 : decode cX3_branches 13 = .ok (.iconst 1, 1) := by decide +kernel
theorem dX3_branches_14 : decode cX3_branches 14 = .ok (.invokevirtual 82, 3) := by decide +kernel
theorem dX3_branches_17 : decode cX3_branches 17 = .ok (.ifCond .eq 12, 3) := by decide +kernel
theorem dX3_branches_20 : decode cX3_branches 20 = .ok (.aload_n 0, 1) := by decide +kernel
theorem dX3_branches_21 : decode cX3_branches 21 = .ok (.getfield 35, 3) := by decide +kernel
theorem dX3_branches_24 : decode cX3_branches 24 = .ok (.iload_n 1, 1) := by decide +kernel
theorem dX3_branches_25 : decode cX3_branches 25 = .ok (.iaload, 1) := by decide +kernel
theorem dX3_branches_26 : decode cX3_branches 26 = .ok (.goto 4, 3) := by decide +kernel
theorem dX3_branches_29 : decode cX3_branches 29 = .ok (.iconst 0, 1) := by decide +kernel
theorem dX3_branches_30 : decode cX3_branches 30 = .ok (.ireturn, 1) := by decide +kernel
theorem dX3_isBranch_0 : decode cX3_isBranch 0 = .ok (.aload_n 0, 1) := by decide +kernel
theorem dX3_isBranch_1 : decode cX3_isBranch 1 = .ok (.iload_n 1, 1) := by decide +kernel
theorem dX3_isBranch_2 : decode cX3_isBranch 2 = .ok (.invokevirtual 126, 3) := by decide +kernel
theorem dX3_isBranch_5 : decode cX3_isBranch 5 = .ok (.istore_n 3, 1) := by decide +kernel
theorem dX3_isBranch_6 : decode cX3_isBranch 6 = .ok (.aload_n 0, 1) := by decide +kernel
theorem dX3_isBranch_7 : decode cX3_isBranch 7 = .ok (.iload_n 3, 1) := by decide +kernel
theorem dX3_isBranch_8 : decode cX3_isBranch 8 = .ok (.ifCond .eq 23, 3) := by decide +kernel
theorem dX3_isBranch_11 : decode cX3_isBranch 11 = .ok (.iload_n 2, 1) := by decide +kernel
theorem dX3_isBranch_12 : decode cX3_isBranch 12 = .ok (.iconst 0, 1) := by decide +kernel
theorem dX3_isBranch_13 : decode cX3_isBranch 13 = .ok (.aload_n 0, 1) := by decide +kernel
theorem dX3_isBranch_14 : decode cX3_isBranch 14 = .ok (.getfield 35, 3) := by decide +kernel
theorem dX3_isBranch_17 : decode cX3_isBranch 17 = .ok (.iload_n 1, 1) := by decide +kernel
theorem dX3_isBranch_18 : decode cX3_isBranch 18 = .ok (.iaload, 1) := by decide +kernel
theorem dX3_isBranch_19 : decode cX3_isBranch 19 = .ok (.iconst 1, 1) := by decide +kernel
theorem dX3_isBranch_20 : decode cX3_isBranch 20 = .ok (.isub, 1) := by decide +kernel
theorem dX3_isBranch_21 : decode cX3_isBranch 21 = .ok (.invokestatic 63, 3) := by decide +kernel
theorem dX3_isBranch_24 : decode cX3_isBranch 24 = .ok (.ifCond .eq 7, 3) := by decide +kernel
theorem dX3_isBranch_27 : decode cX3_isBranch 27 = .ok (.iconst 0, 1) := by decide +kernel
theorem dX3_isBranch_28 : decode cX3_isBranch 28 = .ok (.goto 4, 3) := by decide +kernel
theorem dX3_isBranch_31 : decode cX3_isBranch 31 = .ok (.iconst 1, 1) := by decide +kernel
theorem dX3_isBranch_32 : decode cX3_isBranch 32 = .ok (.invokevirtual 82, 3) := by decide +kernel
theorem dX3_isBranch_35 : decode cX3_isBranch 35 = .ok (.ireturn, 1) := by decide +kernel
theorem dX3_device_0 : decode cX3_device 0 = .ok (.aload_n 0, 1) := by decide +kernel
theorem dX3_device_1 : decode cX3_device 1 = .ok (.iload_n 1, 1) := by decide +kernel
theorem dX3_device_2 : decode cX3_device 2 = .ok (.iload_n 2, 1) := by decide +kernel
theorem dX3_device_3 : decode cX3_device 3 = .ok (.invokevirtual 139, 3) := by decide +kernel
theorem dX3_device_6 : decode cX3_device 6 = .ok (.ifCond .eq 17, 3) := by decide +kernel
theorem dX3_device_9 : decode cX3_device 9 = .ok (.aload_n 0, 1) := by decide +kernel
theorem dX3_device_10 : decode cX3_device 10 = .ok (.getfield 44, 3) := by decide +kernel
theorem dX3_device_13 : decode cX3_device 13 = .ok (.bipush 12, 2) := by decide +kernel
theorem dX3_device_15 : decode cX3_device 15 = .ok (.iload_n 1, 1) := by decide +kernel
theorem dX3_device_16 : decode cX3_device 16 = .ok (.imul, 1) := by decide +kernel
theorem dX3_device_17 : decode cX3_device 17 = .ok (.iload_n 2, 1) := by decide +kernel
theorem dX3_device_18 : decode cX3_device 18 = .ok (.iadd, 1) := by decide +kernel
theorem dX3_device_19 : decode cX3_device 19 = .ok (.iaload, 1) := by decide +kernel
theorem dX3_device_20 : decode cX3_device 20 = .ok (.goto 4, 3) := by decide +kernel
theorem dX3_device_23 : decode cX3_device 23 = .ok (.iconst 0, 1) := by decide +kernel
theorem dX3_device_24 : decode cX3_device 24 = .ok (.ireturn, 1) := by decide +kernel
theorem dX3_state_0 : decode cX3_state 0 = .ok (.aload_n 0, 1) := by decide +kernel
theorem dX3_state_1 : decode cX3_state 1 = .ok (.iload_n 1, 1) := by decide +kernel
theorem dX3_state_2 : decode cX3_state 2 = .ok (.iload_n 2, 1) := by decide +kernel
theorem dX3_state_3 : decode cX3_state 3 = .ok (.invokevirtual 139, 3) := by decide +kernel
theorem dX3_state_6 : decode cX3_state 6 = .ok (.ifCond .eq 17, 3) := by decide +kernel
theorem dX3_state_9 : decode cX3_state 9 = .ok (.aload_n 0, 1) := by decide +kernel
theorem dX3_state_10 : decode cX3_state 10 = .ok (.getfield 50, 3) := by decide +kernel
theorem dX3_state_13 : decode cX3_state 13 = .ok (.bipush 12, 2) := by decide +kernel
theorem dX3_state_15 : decode cX3_state 15 = .ok (.iload_n 1, 1) := by decide +kernel
theorem dX3_state_16 : decode cX3_state 16 = .ok (.imul, 1) := by decide +kernel
theorem dX3_state_17 : decode cX3_state 17 = .ok (.iload_n 2, 1) := by decide +kernel
theorem dX3_state_18 : decode cX3_state 18 = .ok (.iadd, 1) := by decide +kernel
theorem dX3_state_19 : decode cX3_state 19 = .ok (.iaload, 1) := by decide +kernel
theorem dX3_state_20 : decode cX3_state 20 = .ok (.goto 4, 3) := by decide +kernel
theorem dX3_state_23 : decode cX3_state 23 = .ok (.iconst 0, 1) := by decide +kernel
theorem dX3_state_24 : decode cX3_state 24 = .ok (.ireturn, 1) := by decide +kernel
theorem dX3_answered_0 : decode cX3_answered 0 = .ok (.aload_n 0, 1) := by decide +kernel
theorem dX3_answered_1 : decode cX3_answered 1 = .ok (.aload_n 0, 1) := by decide +kernel
theorem dX3_answered_2 : decode cX3_answered 2 = .ok (.iload_n 1, 1) := by decide +kernel
theorem dX3_answered_3 : decode cX3_answered 3 = .ok (.invokevirtual 126, 3) := by decide +kernel
theorem dX3_answered_6 : decode cX3_answered 6 = .ok (.ifCond .eq 7, 3) := by decide +kernel
theorem dX3_answered_9 : decode cX3_answered 9 = .ok (.iconst 0, 1) := by decide +kernel
theorem dX3_answered_10 : decode cX3_answered 10 = .ok (.goto 4, 3) := by decide +kernel
theorem dX3_answered_13 : decode cX3_answered 13 = .ok (.iconst 1, 1) := by decide +kernel
theorem dX3_answered_14 : decode cX3_answered 14 = .ok (.invokevirtual 82, 3) := by decide +kernel
theorem dX3_answered_17 : decode cX3_answered 17 = .ok (.ifCond .eq 12, 3) := by decide +kernel
theorem dX3_answered_20 : decode cX3_answered 20 = .ok (.aload_n 0, 1) := by decide +kernel
theorem dX3_answered_21 : decode cX3_answered 21 = .ok (.getfield 32, 3) := by decide +kernel
theorem dX3_answered_24 : decode cX3_answered 24 = .ok (.iload_n 1, 1) := by decide +kernel
theorem dX3_answered_25 : decode cX3_answered 25 = .ok (.iaload, 1) := by decide +kernel
theorem dX3_answered_26 : decode cX3_answered 26 = .ok (.goto 4, 3) := by decide +kernel
theorem dX3_answered_29 : decode cX3_answered 29 = .ok (.iconst 0, 1) := by decide +kernel
theorem dX3_answered_30 : decode cX3_answered 30 = .ok (.ireturn, 1) := by decide +kernel
theorem dX3_hungUp_0 : decode cX3_hungUp 0 = .ok (.aload_n 0, 1) := by decide +kernel
theorem dX3_hungUp_1 : decode cX3_hungUp 1 = .ok (.iload_n 1, 1) := by decide +kernel
theorem dX3_hungUp_2 : decode cX3_hungUp 2 = .ok (.iconst 0, 1) := by decide +kernel
theorem dX3_hungUp_3 : decode cX3_hungUp 3 = .ok (.bipush 9, 2) := by decide +kernel
theorem dX3_hungUp_5 : decode cX3_hungUp 5 = .ok (.invokestatic 63, 3) := by decide +kernel
theorem dX3_hungUp_8 : decode cX3_hungUp 8 = .ok (.ifCond .eq 7, 3) := by decide +kernel
theorem dX3_hungUp_11 : decode cX3_hungUp 11 = .ok (.iconst 0, 1) := by decide +kernel
theorem dX3_hungUp_12 : decode cX3_hungUp 12 = .ok (.goto 4, 3) := by decide +kernel
theorem dX3_hungUp_15 : decode cX3_hungUp 15 = .ok (.iconst 1, 1) := by decide +kernel
theorem dX3_hungUp_16 : decode cX3_hungUp 16 = .ok (.invokevirtual 82, 3) := by decide +kernel
theorem dX3_hungUp_19 : decode cX3_hungUp 19 = .ok (.ifCond .eq 12, 3) := by decide +kernel
theorem dX3_hungUp_22 : decode cX3_hungUp 22 = .ok (.aload_n 0, 1) := by decide +kernel
theorem dX3_hungUp_23 : decode cX3_hungUp 23 = .ok (.getfield 56, 3) := by decide +kernel
theorem dX3_hungUp_26 : decode cX3_hungUp 26 = .ok (.iload_n 1, 1) := by decide +kernel
theorem dX3_hungUp_27 : decode cX3_hungUp 27 = .ok (.iaload, 1) := by decide +kernel
theorem dX3_hungUp_28 : decode cX3_hungUp 28 = .ok (.goto 4, 3) := by decide +kernel
theorem dX3_hungUp_31 : decode cX3_hungUp 31 = .ok (.iconst 0, 1) := by decide +kernel
theorem dX3_hungUp_32 : decode cX3_hungUp 32 = .ok (.ireturn, 1) := by decide +kernel
theorem dJ9_max_7cf53_0 : decode cJ9_max_7cf53 0 = .ok (.iload_n 0, 1) := by decide +kernel
theorem dJ9_max_7cf53_1 : decode cJ9_max_7cf53 1 = .ok (.iload_n 1, 1) := by decide +kernel
theorem dJ9_max_7cf53_2 : decode cJ9_max_7cf53 2 = .ok (.if_icmp .lt 7, 3) := by decide +kernel
theorem dJ9_max_7cf53_5 : decode cJ9_max_7cf53 5 = .ok (.iload_n 0, 1) := by decide +kernel
theorem dJ9_max_7cf53_6 : decode cJ9_max_7cf53 6 = .ok (.goto 4, 3) := by decide +kernel
theorem dJ9_max_7cf53_9 : decode cJ9_max_7cf53 9 = .ok (.iload_n 1, 1) := by decide +kernel
theorem dJ9_max_7cf53_10 : decode cJ9_max_7cf53 10 = .ok (.ireturn, 1) := by decide +kernel
theorem dJ9_min_7cf53_0 : decode cJ9_min_7cf53 0 = .ok (.iload_n 0, 1) := by decide +kernel
theorem dJ9_min_7cf53_1 : decode cJ9_min_7cf53 1 = .ok (.iload_n 1, 1) := by decide +kernel
theorem dJ9_min_7cf53_2 : decode cJ9_min_7cf53 2 = .ok (.if_icmp .gt 7, 3) := by decide +kernel
theorem dJ9_min_7cf53_5 : decode cJ9_min_7cf53 5 = .ok (.iload_n 0, 1) := by decide +kernel
theorem dJ9_min_7cf53_6 : decode cJ9_min_7cf53 6 = .ok (.goto 4, 3) := by decide +kernel
theorem dJ9_min_7cf53_9 : decode cJ9_min_7cf53 9 = .ok (.iload_n 1, 1) := by decide +kernel
theorem dJ9_min_7cf53_10 : decode cJ9_min_7cf53 10 = .ok (.ireturn, 1) := by decide +kernel
theorem dL_register_0 : decode cL_register 0 = .ok (.aload 6, 2) := by decide +kernel
theorem dL_register_2 : decode cL_register 2 = .ok (.iconst 0, 1) := by decide +kernel
theorem dL_register_3 : decode cL_register 3 = .ok (.aload_n 0, 1) := by decide +kernel
theorem dL_register_4 : decode cL_register 4 = .ok (.iload_n 1, 1) := by decide +kernel
theorem dL_register_5 : decode cL_register 5 = .ok (.iload_n 2, 1) := by decide +kernel
theorem dL_register_6 : decode cL_register 6 = .ok (.iload_n 3, 1) := by decide +kernel
theorem dL_register_7 : decode cL_register 7 = .ok (.iload 4, 2) := by decide +kernel
theorem dL_register_9 : decode cL_register 9 = .ok (.iload 5, 2) := by decide +kernel
theorem dL_register_11 : decode cL_register 11 = .ok (.invokevirtual 7, 3) := by decide +kernel
theorem dL_register_14 : decode cL_register 14 = .ok (.i2l, 1) := by decide +kernel
theorem dL_register_15 : decode cL_register 15 = .ok (.lastore, 1) := by decide +kernel
theorem dL_register_16 : decode cL_register 16 = .ok (.goto 11, 3) := by decide +kernel
theorem dL_register_19 : decode cL_register 19 = .ok (.astore 7, 2) := by decide +kernel
theorem dL_register_21 : decode cL_register 21 = .ok (.iconst 1, 1) := by decide +kernel
theorem dL_register_22 : decode cL_register 22 = .ok (.ireturn, 1) := by decide +kernel
theorem dL_register_23 : decode cL_register 23 = .ok (.astore 7, 2) := by decide +kernel
theorem dL_register_25 : decode cL_register 25 = .ok (.iconst 2, 1) := by decide +kernel
theorem dL_register_26 : decode cL_register 26 = .ok (.ireturn, 1) := by decide +kernel
theorem dL_register_27 : decode cL_register 27 = .ok (.iconst 0, 1) := by decide +kernel
theorem dL_register_28 : decode cL_register 28 = .ok (.ireturn, 1) := by decide +kernel
theorem dL_bindings_0 : decode cL_bindings 0 = .ok (.aload_n 2, 1) := by decide +kernel
theorem dL_bindings_1 : decode cL_bindings 1 = .ok (.iconst 0, 1) := by decide +kernel
theorem dL_bindings_2 : decode cL_bindings 2 = .ok (.aload_n 0, 1) := by decide +kernel
theorem dL_bindings_3 : decode cL_bindings 3 = .ok (.iload_n 1, 1) := by decide +kernel
theorem dL_bindings_4 : decode cL_bindings 4 = .ok (.invokevirtual 17, 3) := by decide +kernel
theorem dL_bindings_7 : decode cL_bindings 7 = .ok (.i2l, 1) := by decide +kernel
theorem dL_bindings_8 : decode cL_bindings 8 = .ok (.lastore, 1) := by decide +kernel
theorem dL_bindings_9 : decode cL_bindings 9 = .ok (.goto 6, 3) := by decide +kernel
theorem dL_bindings_12 : decode cL_bindings 12 = .ok (.astore_n 3, 1) := by decide +kernel
theorem dL_bindings_13 : decode cL_bindings 13 = .ok (.iconst 1, 1) := by decide +kernel
theorem dL_bindings_14 : decode cL_bindings 14 = .ok (.ireturn, 1) := by decide +kernel
theorem dL_bindings_15 : decode cL_bindings 15 = .ok (.iconst 0, 1) := by decide +kernel
theorem dL_bindings_16 : decode cL_bindings 16 = .ok (.ireturn, 1) := by decide +kernel
theorem dL_binding_0 : decode cL_binding 0 = .ok (.aload_n 3, 1) := by decide +kernel
theorem dL_binding_1 : decode cL_binding 1 = .ok (.iconst 0, 1) := by decide +kernel
theorem dL_binding_2 : decode cL_binding 2 = .ok (.aload_n 0, 1) := by decide +kernel
theorem dL_binding_3 : decode cL_binding 3 = .ok (.iload_n 1, 1) := by decide +kernel
theorem dL_binding_4 : decode cL_binding 4 = .ok (.iload_n 2, 1) := by decide +kernel
theorem dL_binding_5 : decode cL_binding 5 = .ok (.invokevirtual 21, 3) := by decide +kernel
theorem dL_binding_8 : decode cL_binding 8 = .ok (.i2l, 1) := by decide +kernel
theorem dL_binding_9 : decode cL_binding 9 = .ok (.lastore, 1) := by decide +kernel
theorem dL_binding_10 : decode cL_binding 10 = .ok (.goto 11, 3) := by decide +kernel
theorem dL_binding_13 : decode cL_binding 13 = .ok (.astore 4, 2) := by decide +kernel
theorem dL_binding_15 : decode cL_binding 15 = .ok (.iconst 1, 1) := by decide +kernel
theorem dL_binding_16 : decode cL_binding 16 = .ok (.ireturn, 1) := by decide +kernel
theorem dL_binding_17 : decode cL_binding 17 = .ok (.astore 4, 2) := by decide +kernel
theorem dL_binding_19 : decode cL_binding 19 = .ok (.iconst 2, 1) := by decide +kernel
theorem dL_binding_20 : decode cL_binding 20 = .ok (.ireturn, 1) := by decide +kernel
theorem dL_binding_21 : decode cL_binding 21 = .ok (.iconst 0, 1) := by decide +kernel
theorem dL_binding_22 : decode cL_binding 22 = .ok (.ireturn, 1) := by decide +kernel
theorem dL_call_0 : decode cL_call 0 = .ok (.aload_n 2, 1) := by decide +kernel
theorem dL_call_1 : decode cL_call 1 = .ok (.iconst 0, 1) := by decide +kernel
theorem dL_call_2 : decode cL_call 2 = .ok (.aload_n 0, 1) := by decide +kernel
theorem dL_call_3 : decode cL_call 3 = .ok (.iload_n 1, 1) := by decide +kernel
theorem dL_call_4 : decode cL_call 4 = .ok (.invokevirtual 27, 3) := by decide +kernel
theorem dL_call_7 : decode cL_call 7 = .ok (.i2l, 1) := by decide +kernel
theorem dL_call_8 : decode cL_call 8 = .ok (.lastore, 1) := by decide +kernel
theorem dL_call_9 : decode cL_call 9 = .ok (.goto 9, 3) := by decide +kernel
theorem dL_call_12 : decode cL_call 12 = .ok (.astore_n 3, 1) := by decide +kernel
theorem dL_call_13 : decode cL_call 13 = .ok (.iconst 1, 1) := by decide +kernel
theorem dL_call_14 : decode cL_call 14 = .ok (.ireturn, 1) := by decide +kernel
theorem dL_call_15 : decode cL_call 15 = .ok (.astore_n 3, 1) := by decide +kernel
theorem dL_call_16 : decode cL_call 16 = .ok (.iconst 2, 1) := by decide +kernel
theorem dL_call_17 : decode cL_call 17 = .ok (.ireturn, 1) := by decide +kernel
theorem dL_call_18 : decode cL_call 18 = .ok (.iconst 0, 1) := by decide +kernel
theorem dL_call_19 : decode cL_call 19 = .ok (.ireturn, 1) := by decide +kernel
theorem dL_answer_0 : decode cL_answer 0 = .ok (.aload 4, 2) := by decide +kernel
theorem dL_answer_2 : decode cL_answer 2 = .ok (.iconst 0, 1) := by decide +kernel
theorem dL_answer_3 : decode cL_answer 3 = .ok (.aload_n 0, 1) := by decide +kernel
theorem dL_answer_4 : decode cL_answer 4 = .ok (.iload_n 1, 1) := by decide +kernel
theorem dL_answer_5 : decode cL_answer 5 = .ok (.iload_n 2, 1) := by decide +kernel
theorem dL_answer_6 : decode cL_answer 6 = .ok (.iload_n 3, 1) := by decide +kernel
theorem dL_answer_7 : decode cL_answer 7 = .ok (.invokevirtual 30, 3) := by decide +kernel
theorem dL_answer_10 : decode cL_answer 10 = .ok (.i2l, 1) := by decide +kernel
theorem dL_answer_11 : decode cL_answer 11 = .ok (.lastore, 1) := by decide +kernel
theorem dL_answer_12 : decode cL_answer 12 = .ok (.goto 15, 3) := by decide +kernel
theorem dL_answer_15 : decode cL_answer 15 = .ok (.astore 5, 2) := by decide +kernel
theorem dL_answer_17 : decode cL_answer 17 = .ok (.iconst 1, 1) := by decide +kernel
theorem dL_answer_18 : decode cL_answer 18 = .ok (.ireturn, 1) := by decide +kernel
theorem dL_answer_19 : decode cL_answer 19 = .ok (.astore 5, 2) := by decide +kernel
theorem dL_answer_21 : decode cL_answer 21 = .ok (.iconst 2, 1) := by decide +kernel
theorem dL_answer_22 : decode cL_answer 22 = .ok (.ireturn, 1) := by decide +kernel
theorem dL_answer_23 : decode cL_answer 23 = .ok (.astore 5, 2) := by decide +kernel
theorem dL_answer_25 : decode cL_answer 25 = .ok (.iconst 3, 1) := by decide +kernel
theorem dL_answer_26 : decode cL_answer 26 = .ok (.ireturn, 1) := by decide +kernel
theorem dL_answer_27 : decode cL_answer 27 = .ok (.iconst 0, 1) := by decide +kernel
theorem dL_answer_28 : decode cL_answer 28 = .ok (.ireturn, 1) := by decide +kernel
theorem dL_cancel_0 : decode cL_cancel 0 = .ok (.aload_n 2, 1) := by decide +kernel
theorem dL_cancel_1 : decode cL_cancel 1 = .ok (.iconst 0, 1) := by decide +kernel
theorem dL_cancel_2 : decode cL_cancel 2 = .ok (.aload_n 0, 1) := by decide +kernel
theorem dL_cancel_3 : decode cL_cancel 3 = .ok (.iload_n 1, 1) := by decide +kernel
theorem dL_cancel_4 : decode cL_cancel 4 = .ok (.invokevirtual 34, 3) := by decide +kernel
theorem dL_cancel_7 : decode cL_cancel 7 = .ok (.i2l, 1) := by decide +kernel
theorem dL_cancel_8 : decode cL_cancel 8 = .ok (.lastore, 1) := by decide +kernel
theorem dL_cancel_9 : decode cL_cancel 9 = .ok (.goto 9, 3) := by decide +kernel
theorem dL_cancel_12 : decode cL_cancel 12 = .ok (.astore_n 3, 1) := by decide +kernel
theorem dL_cancel_13 : decode cL_cancel 13 = .ok (.iconst 1, 1) := by decide +kernel
theorem dL_cancel_14 : decode cL_cancel 14 = .ok (.ireturn, 1) := by decide +kernel
theorem dL_cancel_15 : decode cL_cancel 15 = .ok (.astore_n 3, 1) := by decide +kernel
theorem dL_cancel_16 : decode cL_cancel 16 = .ok (.iconst 2, 1) := by decide +kernel
theorem dL_cancel_17 : decode cL_cancel 17 = .ok (.ireturn, 1) := by decide +kernel
theorem dL_cancel_18 : decode cL_cancel 18 = .ok (.iconst 0, 1) := by decide +kernel
theorem dL_cancel_19 : decode cL_cancel 19 = .ok (.ireturn, 1) := by decide +kernel
theorem dL_pass_0 : decode cL_pass 0 = .ok (.aload_n 2, 1) := by decide +kernel
theorem dL_pass_1 : decode cL_pass 1 = .ok (.iconst 0, 1) := by decide +kernel
theorem dL_pass_2 : decode cL_pass 2 = .ok (.aload_n 0, 1) := by decide +kernel
theorem dL_pass_3 : decode cL_pass 3 = .ok (.iload_n 1, 1) := by decide +kernel
theorem dL_pass_4 : decode cL_pass 4 = .ok (.invokevirtual 37, 3) := by decide +kernel
theorem dL_pass_7 : decode cL_pass 7 = .ok (.i2l, 1) := by decide +kernel
theorem dL_pass_8 : decode cL_pass 8 = .ok (.lastore, 1) := by decide +kernel
theorem dL_pass_9 : decode cL_pass 9 = .ok (.goto 6, 3) := by decide +kernel
theorem dL_pass_12 : decode cL_pass 12 = .ok (.astore_n 3, 1) := by decide +kernel
theorem dL_pass_13 : decode cL_pass 13 = .ok (.iconst 1, 1) := by decide +kernel
theorem dL_pass_14 : decode cL_pass 14 = .ok (.ireturn, 1) := by decide +kernel
theorem dL_pass_15 : decode cL_pass 15 = .ok (.iconst 0, 1) := by decide +kernel
theorem dL_pass_16 : decode cL_pass 16 = .ok (.ireturn, 1) := by decide +kernel
theorem dL_finalOf_0 : decode cL_finalOf 0 = .ok (.aload_n 2, 1) := by decide +kernel
theorem dL_finalOf_1 : decode cL_finalOf 1 = .ok (.iconst 0, 1) := by decide +kernel
theorem dL_finalOf_2 : decode cL_finalOf 2 = .ok (.aload_n 0, 1) := by decide +kernel
theorem dL_finalOf_3 : decode cL_finalOf 3 = .ok (.iload_n 1, 1) := by decide +kernel
theorem dL_finalOf_4 : decode cL_finalOf 4 = .ok (.invokevirtual 40, 3) := by decide +kernel
theorem dL_finalOf_7 : decode cL_finalOf 7 = .ok (.i2l, 1) := by decide +kernel
theorem dL_finalOf_8 : decode cL_finalOf 8 = .ok (.lastore, 1) := by decide +kernel
theorem dL_finalOf_9 : decode cL_finalOf 9 = .ok (.goto 6, 3) := by decide +kernel
theorem dL_finalOf_12 : decode cL_finalOf 12 = .ok (.astore_n 3, 1) := by decide +kernel
theorem dL_finalOf_13 : decode cL_finalOf 13 = .ok (.iconst 1, 1) := by decide +kernel
theorem dL_finalOf_14 : decode cL_finalOf 14 = .ok (.ireturn, 1) := by decide +kernel
theorem dL_finalOf_15 : decode cL_finalOf 15 = .ok (.iconst 0, 1) := by decide +kernel
theorem dL_finalOf_16 : decode cL_finalOf 16 = .ok (.ireturn, 1) := by decide +kernel
theorem dL_finalBySorting_0 : decode cL_finalBySorting 0 = .ok (.aload_n 2, 1) := by decide +kernel
theorem dL_finalBySorting_1 : decode cL_finalBySorting 1 = .ok (.iconst 0, 1) := by decide +kernel
theorem dL_finalBySorting_2 : decode cL_finalBySorting 2 = .ok (.aload_n 0, 1) := by decide +kernel
theorem dL_finalBySorting_3 : decode cL_finalBySorting 3 = .ok (.iload_n 1, 1) := by decide +kernel
theorem dL_finalBySorting_4 : decode cL_finalBySorting 4 = .ok (.invokevirtual 43, 3) := by decide +kernel
theorem dL_finalBySorting_7 : decode cL_finalBySorting 7 = .ok (.i2l, 1) := by decide +kernel
theorem dL_finalBySorting_8 : decode cL_finalBySorting 8 = .ok (.lastore, 1) := by decide +kernel
theorem dL_finalBySorting_9 : decode cL_finalBySorting 9 = .ok (.goto 9, 3) := by decide +kernel
theorem dL_finalBySorting_12 : decode cL_finalBySorting 12 = .ok (.astore_n 3, 1) := by decide +kernel
theorem dL_finalBySorting_13 : decode cL_finalBySorting 13 = .ok (.iconst 1, 1) := by decide +kernel
theorem dL_finalBySorting_14 : decode cL_finalBySorting 14 = .ok (.ireturn, 1) := by decide +kernel
theorem dL_finalBySorting_15 : decode cL_finalBySorting 15 = .ok (.astore_n 3, 1) := by decide +kernel
theorem dL_finalBySorting_16 : decode cL_finalBySorting 16 = .ok (.iconst 2, 1) := by decide +kernel
theorem dL_finalBySorting_17 : decode cL_finalBySorting 17 = .ok (.ireturn, 1) := by decide +kernel
theorem dL_finalBySorting_18 : decode cL_finalBySorting 18 = .ok (.iconst 0, 1) := by decide +kernel
theorem dL_finalBySorting_19 : decode cL_finalBySorting 19 = .ok (.ireturn, 1) := by decide +kernel
theorem dL_branches_0 : decode cL_branches 0 = .ok (.aload_n 2, 1) := by decide +kernel
theorem dL_branches_1 : decode cL_branches 1 = .ok (.iconst 0, 1) := by decide +kernel
theorem dL_branches_2 : decode cL_branches 2 = .ok (.aload_n 0, 1) := by decide +kernel
theorem dL_branches_3 : decode cL_branches 3 = .ok (.iload_n 1, 1) := by decide +kernel
theorem dL_branches_4 : decode cL_branches 4 = .ok (.invokevirtual 46, 3) := by decide +kernel
theorem dL_branches_7 : decode cL_branches 7 = .ok (.i2l, 1) := by decide +kernel
theorem dL_branches_8 : decode cL_branches 8 = .ok (.lastore, 1) := by decide +kernel
theorem dL_branches_9 : decode cL_branches 9 = .ok (.goto 6, 3) := by decide +kernel
theorem dL_branches_12 : decode cL_branches 12 = .ok (.astore_n 3, 1) := by decide +kernel
theorem dL_branches_13 : decode cL_branches 13 = .ok (.iconst 1, 1) := by decide +kernel
theorem dL_branches_14 : decode cL_branches 14 = .ok (.ireturn, 1) := by decide +kernel
theorem dL_branches_15 : decode cL_branches 15 = .ok (.iconst 0, 1) := by decide +kernel
theorem dL_branches_16 : decode cL_branches 16 = .ok (.ireturn, 1) := by decide +kernel
theorem dL_device_0 : decode cL_device 0 = .ok (.aload_n 3, 1) := by decide +kernel
theorem dL_device_1 : decode cL_device 1 = .ok (.iconst 0, 1) := by decide +kernel
theorem dL_device_2 : decode cL_device 2 = .ok (.aload_n 0, 1) := by decide +kernel
theorem dL_device_3 : decode cL_device 3 = .ok (.iload_n 1, 1) := by decide +kernel
theorem dL_device_4 : decode cL_device 4 = .ok (.iload_n 2, 1) := by decide +kernel
theorem dL_device_5 : decode cL_device 5 = .ok (.invokevirtual 49, 3) := by decide +kernel
theorem dL_device_8 : decode cL_device 8 = .ok (.i2l, 1) := by decide +kernel
theorem dL_device_9 : decode cL_device 9 = .ok (.lastore, 1) := by decide +kernel
theorem dL_device_10 : decode cL_device 10 = .ok (.goto 7, 3) := by decide +kernel
theorem dL_device_13 : decode cL_device 13 = .ok (.astore 4, 2) := by decide +kernel
theorem dL_device_15 : decode cL_device 15 = .ok (.iconst 1, 1) := by decide +kernel
theorem dL_device_16 : decode cL_device 16 = .ok (.ireturn, 1) := by decide +kernel
theorem dL_device_17 : decode cL_device 17 = .ok (.iconst 0, 1) := by decide +kernel
theorem dL_device_18 : decode cL_device 18 = .ok (.ireturn, 1) := by decide +kernel
theorem dL_state_0 : decode cL_state 0 = .ok (.aload_n 3, 1) := by decide +kernel
theorem dL_state_1 : decode cL_state 1 = .ok (.iconst 0, 1) := by decide +kernel
theorem dL_state_2 : decode cL_state 2 = .ok (.aload_n 0, 1) := by decide +kernel
theorem dL_state_3 : decode cL_state 3 = .ok (.iload_n 1, 1) := by decide +kernel
theorem dL_state_4 : decode cL_state 4 = .ok (.iload_n 2, 1) := by decide +kernel
theorem dL_state_5 : decode cL_state 5 = .ok (.invokevirtual 52, 3) := by decide +kernel
theorem dL_state_8 : decode cL_state 8 = .ok (.i2l, 1) := by decide +kernel
theorem dL_state_9 : decode cL_state 9 = .ok (.lastore, 1) := by decide +kernel
theorem dL_state_10 : decode cL_state 10 = .ok (.goto 7, 3) := by decide +kernel
theorem dL_state_13 : decode cL_state 13 = .ok (.astore 4, 2) := by decide +kernel
theorem dL_state_15 : decode cL_state 15 = .ok (.iconst 1, 1) := by decide +kernel
theorem dL_state_16 : decode cL_state 16 = .ok (.ireturn, 1) := by decide +kernel
theorem dL_state_17 : decode cL_state 17 = .ok (.iconst 0, 1) := by decide +kernel
theorem dL_state_18 : decode cL_state 18 = .ok (.ireturn, 1) := by decide +kernel
theorem dL_answered_0 : decode cL_answered 0 = .ok (.aload_n 2, 1) := by decide +kernel
theorem dL_answered_1 : decode cL_answered 1 = .ok (.iconst 0, 1) := by decide +kernel
theorem dL_answered_2 : decode cL_answered 2 = .ok (.aload_n 0, 1) := by decide +kernel
theorem dL_answered_3 : decode cL_answered 3 = .ok (.iload_n 1, 1) := by decide +kernel
theorem dL_answered_4 : decode cL_answered 4 = .ok (.invokevirtual 55, 3) := by decide +kernel
theorem dL_answered_7 : decode cL_answered 7 = .ok (.i2l, 1) := by decide +kernel
theorem dL_answered_8 : decode cL_answered 8 = .ok (.lastore, 1) := by decide +kernel
theorem dL_answered_9 : decode cL_answered 9 = .ok (.goto 6, 3) := by decide +kernel
theorem dL_answered_12 : decode cL_answered 12 = .ok (.astore_n 3, 1) := by decide +kernel
theorem dL_answered_13 : decode cL_answered 13 = .ok (.iconst 1, 1) := by decide +kernel
theorem dL_answered_14 : decode cL_answered 14 = .ok (.ireturn, 1) := by decide +kernel
theorem dL_answered_15 : decode cL_answered 15 = .ok (.iconst 0, 1) := by decide +kernel
theorem dL_answered_16 : decode cL_answered 16 = .ok (.ireturn, 1) := by decide +kernel
theorem dL_hungUp_0 : decode cL_hungUp 0 = .ok (.aload_n 2, 1) := by decide +kernel
theorem dL_hungUp_1 : decode cL_hungUp 1 = .ok (.iconst 0, 1) := by decide +kernel
theorem dL_hungUp_2 : decode cL_hungUp 2 = .ok (.aload_n 0, 1) := by decide +kernel
theorem dL_hungUp_3 : decode cL_hungUp 3 = .ok (.iload_n 1, 1) := by decide +kernel
theorem dL_hungUp_4 : decode cL_hungUp 4 = .ok (.invokevirtual 58, 3) := by decide +kernel
theorem dL_hungUp_7 : decode cL_hungUp 7 = .ok (.i2l, 1) := by decide +kernel
theorem dL_hungUp_8 : decode cL_hungUp 8 = .ok (.lastore, 1) := by decide +kernel
theorem dL_hungUp_9 : decode cL_hungUp 9 = .ok (.goto 6, 3) := by decide +kernel
theorem dL_hungUp_12 : decode cL_hungUp 12 = .ok (.astore_n 3, 1) := by decide +kernel
theorem dL_hungUp_13 : decode cL_hungUp 13 = .ok (.iconst 1, 1) := by decide +kernel
theorem dL_hungUp_14 : decode cL_hungUp 14 = .ok (.ireturn, 1) := by decide +kernel
theorem dL_hungUp_15 : decode cL_hungUp 15 = .ok (.iconst 0, 1) := by decide +kernel
theorem dL_hungUp_16 : decode cL_hungUp 16 = .ok (.ireturn, 1) := by decide +kernel
theorem dL_law_0 : decode cL_law 0 = .ok (.new 8, 3) := by decide +kernel
theorem dL_law_3 : decode cL_law 3 = .ok (.dup, 1) := by decide +kernel
theorem dL_law_4 : decode cL_law 4 = .ok (.invokespecial 61, 3) := by decide +kernel
theorem dL_law_7 : decode cL_law 7 = .ok (.astore_n 1, 1) := by decide +kernel
theorem dL_law_8 : decode cL_law 8 = .ok (.new 62, 3) := by decide +kernel
theorem dL_law_11 : decode cL_law 11 = .ok (.dup, 1) := by decide +kernel
theorem dL_law_12 : decode cL_law 12 = .ok (.invokespecial 64, 3) := by decide +kernel
theorem dL_law_15 : decode cL_law 15 = .ok (.astore_n 2, 1) := by decide +kernel
theorem dL_law_16 : decode cL_law 16 = .ok (.iconst 1, 1) := by decide +kernel
theorem dL_law_17 : decode cL_law 17 = .ok (.newarray .long, 2) := by decide +kernel
theorem dL_law_19 : decode cL_law 19 = .ok (.astore_n 3, 1) := by decide +kernel
theorem dL_law_20 : decode cL_law 20 = .ok (.iconst 0, 1) := by decide +kernel
theorem dL_law_21 : decode cL_law 21 = .ok (.istore 4, 2) := by decide +kernel
theorem dL_law_23 : decode cL_law 23 = .ok (.iload 4, 2) := by decide +kernel
theorem dL_law_25 : decode cL_law 25 = .ok (.aload_n 0, 1) := by decide +kernel
theorem dL_law_26 : decode cL_law 26 = .ok (.arraylength, 1) := by decide +kernel
theorem dL_law_27 : decode cL_law 27 = .ok (.bipush 6, 2) := by decide +kernel
theorem dL_law_29 : decode cL_law 29 = .ok (.isub, 1) := by decide +kernel
theorem dL_law_30 : decode cL_law 30 = .ok (.if_icmp .gt 1014, 3) := by decide +kernel
theorem dL_law_33 : decode cL_law 33 = .ok (.aload_n 0, 1) := by decide +kernel
theorem dL_law_34 : decode cL_law 34 = .ok (.iload 4, 2) := by decide +kernel
theorem dL_law_36 : decode cL_law 36 = .ok (.iaload, 1) := by decide +kernel
theorem dL_law_37 : decode cL_law 37 = .ok (.bipush 15, 2) := by decide +kernel
theorem dL_law_39 : decode cL_law 39 = .ok (.iand, 1) := by decide +kernel
theorem dL_law_40 : decode cL_law 40 = .ok (.tableswitch 998 0 15 #[80, 184, 240, 308, 364, 444, 500, 556, 569, 582, 638, 694, 750, 818, 886, 942], 80) := by decide +kernel
theorem dL_law_120 : decode cL_law 120 = .ok (.aload_n 1, 1) := by decide +kernel
theorem dL_law_121 : decode cL_law 121 = .ok (.aload_n 0, 1) := by decide +kernel
theorem dL_law_122 : decode cL_law 122 = .ok (.iload 4, 2) := by decide +kernel
theorem dL_law_124 : decode cL_law 124 = .ok (.iconst 1, 1) := by decide +kernel
theorem dL_law_125 : decode cL_law 125 = .ok (.iadd, 1) := by decide +kernel
theorem dL_law_126 : decode cL_law 126 = .ok (.iaload, 1) := by decide +kernel
theorem dL_law_127 : decode cL_law 127 = .ok (.aload_n 0, 1) := by decide +kernel
theorem dL_law_128 : decode cL_law 128 = .ok (.iload 4, 2) := by decide +kernel
theorem dL_law_130 : decode cL_law 130 = .ok (.iconst 2, 1) := by decide +kernel
theorem dL_law_131 : decode cL_law 131 = .ok (.iadd, 1) := by decide +kernel
theorem dL_law_132 : decode cL_law 132 = .ok (.iaload, 1) := by decide +kernel
theorem dL_law_133 : decode cL_law 133 = .ok (.aload_n 0, 1) := by decide +kernel
theorem dL_law_134 : decode cL_law 134 = .ok (.iload 4, 2) := by decide +kernel
theorem dL_law_136 : decode cL_law 136 = .ok (.iconst 3, 1) := by decide +kernel
theorem dL_law_137 : decode cL_law 137 = .ok (.iadd, 1) := by decide +kernel
theorem dL_law_138 : decode cL_law 138 = .ok (.iaload, 1) := by decide +kernel
theorem dL_law_139 : decode cL_law 139 = .ok (.aload_n 0, 1) := by decide +kernel
theorem dL_law_140 : decode cL_law 140 = .ok (.iload 4, 2) := by decide +kernel
theorem dL_law_142 : decode cL_law 142 = .ok (.iconst 4, 1) := by decide +kernel
theorem dL_law_143 : decode cL_law 143 = .ok (.iadd, 1) := by decide +kernel
theorem dL_law_144 : decode cL_law 144 = .ok (.iaload, 1) := by decide +kernel
theorem dL_law_145 : decode cL_law 145 = .ok (.aload_n 0, 1) := by decide +kernel
theorem dL_law_146 : decode cL_law 146 = .ok (.iload 4, 2) := by decide +kernel
theorem dL_law_148 : decode cL_law 148 = .ok (.iconst 5, 1) := by decide +kernel
theorem dL_law_149 : decode cL_law 149 = .ok (.iadd, 1) := by decide +kernel
theorem dL_law_150 : decode cL_law 150 = .ok (.iaload, 1) := by decide +kernel
theorem dL_law_151 : decode cL_law 151 = .ok (.aload_n 3, 1) := by decide +kernel
theorem dL_law_152 : decode cL_law 152 = .ok (.invokestatic 65, 3) := by decide +kernel
theorem dL_law_155 : decode cL_law 155 = .ok (.istore 5, 2) := by decide +kernel
theorem dL_law_157 : decode cL_law 157 = .ok (.aload_n 2, 1) := by decide +kernel
theorem dL_law_158 : decode cL_law 158 = .ok (.aload_n 0, 1) := by decide +kernel
theorem dL_law_159 : decode cL_law 159 = .ok (.iload 4, 2) := by decide +kernel
theorem dL_law_161 : decode cL_law 161 = .ok (.iconst 1, 1) := by decide +kernel
theorem dL_law_162 : decode cL_law 162 = .ok (.iadd, 1) := by decide +kernel
theorem dL_law_163 : decode cL_law 163 = .ok (.iaload, 1) := by decide +kernel
theorem dL_law_164 : decode cL_law 164 = .ok (.aload_n 0, 1) := by decide +kernel
theorem dL_law_165 : decode cL_law 165 = .ok (.iload 4, 2) := by decide +kernel
theorem dL_law_167 : decode cL_law 167 = .ok (.iconst 2, 1) := by decide +kernel
theorem dL_law_168 : decode cL_law 168 = .ok (.iadd, 1) := by decide +kernel
theorem dL_law_169 : decode cL_law 169 = .ok (.iaload, 1) := by decide +kernel
theorem dL_law_170 : decode cL_law 170 = .ok (.aload_n 0, 1) := by decide +kernel
theorem dL_law_171 : decode cL_law 171 = .ok (.iload 4, 2) := by decide +kernel
theorem dL_law_173 : decode cL_law 173 = .ok (.iconst 3, 1) := by decide +kernel
theorem dL_law_174 : decode cL_law 174 = .ok (.iadd, 1) := by decide +kernel
theorem dL_law_175 : decode cL_law 175 = .ok (.iaload, 1) := by decide +kernel
theorem dL_law_176 : decode cL_law 176 = .ok (.aload_n 0, 1) := by decide +kernel
theorem dL_law_177 : decode cL_law 177 = .ok (.iload 4, 2) := by decide +kernel
theorem dL_law_179 : decode cL_law 179 = .ok (.iconst 4, 1) := by decide +kernel
theorem dL_law_180 : decode cL_law 180 = .ok (.iadd, 1) := by decide +kernel
theorem dL_law_181 : decode cL_law 181 = .ok (.iaload, 1) := by decide +kernel
theorem dL_law_182 : decode cL_law 182 = .ok (.aload_n 0, 1) := by decide +kernel
theorem dL_law_183 : decode cL_law 183 = .ok (.iload 4, 2) := by decide +kernel
theorem dL_law_185 : decode cL_law 185 = .ok (.iconst 5, 1) := by decide +kernel
theorem dL_law_186 : decode cL_law 186 = .ok (.iadd, 1) := by decide +kernel
theorem dL_law_187 : decode cL_law 187 = .ok (.iaload, 1) := by decide +kernel
theorem dL_law_188 : decode cL_law 188 = .ok (.invokevirtual 70, 3) := by decide +kernel
theorem dL_law_191 : decode cL_law 191 = .ok (.istore 6, 2) := by decide +kernel
theorem dL_law_193 : decode cL_law 193 = .ok (.aload_n 2, 1) := by decide +kernel
theorem dL_law_194 : decode cL_law 194 = .ok (.invokevirtual 71, 3) := by decide +kernel
theorem dL_law_197 : decode cL_law 197 = .ok (.iload 5, 2) := by decide +kernel
theorem dL_law_199 : decode cL_law 199 = .ok (.if_icmp .eq 5, 3) := by decide +kernel
theorem dL_law_202 : decode cL_law 202 = .ok (.iconst 0, 1) := by decide +kernel
theorem dL_law_203 : decode cL_law 203 = .ok (.ireturn, 1) := by decide +kernel
theorem dL_law_204 : decode cL_law 204 = .ok (.iload 5, 2) := by decide +kernel
theorem dL_law_206 : decode cL_law 206 = .ok (.ifCond .ne 15, 3) := by decide +kernel
theorem dL_law_209 : decode cL_law 209 = .ok (.aload_n 3, 1) := by decide +kernel
theorem dL_law_210 : decode cL_law 210 = .ok (.iconst 0, 1) := by decide +kernel
theorem dL_law_211 : decode cL_law 211 = .ok (.laload, 1) := by decide +kernel
theorem dL_law_212 : decode cL_law 212 = .ok (.iload 6, 2) := by decide +kernel
theorem dL_law_214 : decode cL_law 214 = .ok (.i2l, 1) := by decide +kernel
theorem dL_law_215 : decode cL_law 215 = .ok (.lcmp, 1) := by decide +kernel
theorem dL_law_216 : decode cL_law 216 = .ok (.ifCond .eq 5, 3) := by decide +kernel
theorem dL_law_219 : decode cL_law 219 = .ok (.iconst 0, 1) := by decide +kernel
theorem dL_law_220 : decode cL_law 220 = .ok (.ireturn, 1) := by decide +kernel
theorem dL_law_221 : decode cL_law 221 = .ok (.goto 817, 3) := by decide +kernel
theorem dL_law_224 : decode cL_law 224 = .ok (.aload_n 1, 1) := by decide +kernel
theorem dL_law_225 : decode cL_law 225 = .ok (.aload_n 0, 1) := by decide +kernel
theorem dL_law_226 : decode cL_law 226 = .ok (.iload 4, 2) := by decide +kernel
theorem dL_law_228 : decode cL_law 228 = .ok (.iconst 1, 1) := by decide +kernel
theorem dL_law_229 : decode cL_law 229 = .ok (.iadd, 1) := by decide +kernel
theorem dL_law_230 : decode cL_law 230 = .ok (.iaload, 1) := by decide +kernel
theorem dL_law_231 : decode cL_law 231 = .ok (.aload_n 3, 1) := by decide +kernel
theorem dL_law_232 : decode cL_law 232 = .ok (.invokestatic 75, 3) := by decide +kernel
theorem dL_law_235 : decode cL_law 235 = .ok (.istore 5, 2) := by decide +kernel
theorem dL_law_237 : decode cL_law 237 = .ok (.aload_n 2, 1) := by decide +kernel
theorem dL_law_238 : decode cL_law 238 = .ok (.aload_n 0, 1) := by decide +kernel
theorem dL_law_239 : decode cL_law 239 = .ok (.iload 4, 2) := by decide +kernel
theorem dL_law_241 : decode cL_law 241 = .ok (.iconst 1, 1) := by decide +kernel
theorem dL_law_242 : decode cL_law 242 = .ok (.iadd, 1) := by decide +kernel
theorem dL_law_243 : decode cL_law 243 = .ok (.iaload, 1) := by decide +kernel
theorem dL_law_244 : decode cL_law 244 = .ok (.invokevirtual 78, 3) := by decide +kernel
theorem dL_law_247 : decode cL_law 247 = .ok (.istore 6, 2) := by decide +kernel
theorem dL_law_249 : decode cL_law 249 = .ok (.aload_n 2, 1) := by decide +kernel
theorem dL_law_250 : decode cL_law 250 = .ok (.invokevirtual 71, 3) := by decide +kernel
theorem dL_law_253 : decode cL_law 253 = .ok (.iload 5, 2) := by decide +kernel
theorem dL_law_255 : decode cL_law 255 = .ok (.if_icmp .eq 5, 3) := by decide +kernel
theorem dL_law_258 : decode cL_law 258 = .ok (.iconst 0, 1) := by decide +kernel
theorem dL_law_259 : decode cL_law 259 = .ok (.ireturn, 1) := by decide +kernel
theorem dL_law_260 : decode cL_law 260 = .ok (.iload 5, 2) := by decide +kernel
theorem dL_law_262 : decode cL_law 262 = .ok (.ifCond .ne 15, 3) := by decide +kernel
theorem dL_law_265 : decode cL_law 265 = .ok (.aload_n 3, 1) := by decide +kernel
theorem dL_law_266 : decode cL_law 266 = .ok (.iconst 0, 1) := by decide +kernel
theorem dL_law_267 : decode cL_law 267 = .ok (.laload, 1) := by decide +kernel
theorem dL_law_268 : decode cL_law 268 = .ok (.iload 6, 2) := by decide +kernel
theorem dL_law_270 : decode cL_law 270 = .ok (.i2l, 1) := by decide +kernel
theorem dL_law_271 : decode cL_law 271 = .ok (.lcmp, 1) := by decide +kernel
theorem dL_law_272 : decode cL_law 272 = .ok (.ifCond .eq 5, 3) := by decide +kernel
theorem dL_law_275 : decode cL_law 275 = .ok (.iconst 0, 1) := by decide +kernel
theorem dL_law_276 : decode cL_law 276 = .ok (.ireturn, 1) := by decide +kernel
theorem dL_law_277 : decode cL_law 277 = .ok (.goto 761, 3) := by decide +kernel
theorem dL_law_280 : decode cL_law 280 = .ok (.aload_n 1, 1) := by decide +kernel
theorem dL_law_281 : decode cL_law 281 = .ok (.aload_n 0, 1) := by decide +kernel
theorem dL_law_282 : decode cL_law 282 = .ok (.iload 4, 2) := by decide +kernel
theorem dL_law_284 : decode cL_law 284 = .ok (.iconst 1, 1) := by decide +kernel
theorem dL_law_285 : decode cL_law 285 = .ok (.iadd, 1) := by decide +kernel
theorem dL_law_286 : decode cL_law 286 = .ok (.iaload, 1) := by decide +kernel
theorem dL_law_287 : decode cL_law 287 = .ok (.aload_n 0, 1) := by decide +kernel
theorem dL_law_288 : decode cL_law 288 = .ok (.iload 4, 2) := by decide +kernel
theorem dL_law_290 : decode cL_law 290 = .ok (.iconst 2, 1) := by decide +kernel
theorem dL_law_291 : decode cL_law 291 = .ok (.iadd, 1) := by decide +kernel
theorem dL_law_292 : decode cL_law 292 = .ok (.iaload, 1) := by decide +kernel
theorem dL_law_293 : decode cL_law 293 = .ok (.aload_n 3, 1) := by decide +kernel
theorem dL_law_294 : decode cL_law 294 = .ok (.invokestatic 79, 3) := by decide +kernel
theorem dL_law_297 : decode cL_law 297 = .ok (.istore 5, 2) := by decide +kernel
theorem dL_law_299 : decode cL_law 299 = .ok (.aload_n 2, 1) := by decide +kernel
theorem dL_law_300 : decode cL_law 300 = .ok (.aload_n 0, 1) := by decide +kernel
theorem dL_law_301 : decode cL_law 301 = .ok (.iload 4, 2) := by decide +kernel
theorem dL_law_303 : decode cL_law 303 = .ok (.iconst 1, 1) := by decide +kernel
theorem dL_law_304 : decode cL_law 304 = .ok (.iadd, 1) := by decide +kernel
theorem dL_law_305 : decode cL_law 305 = .ok (.iaload, 1) := by decide +kernel
theorem dL_law_306 : decode cL_law 306 = .ok (.aload_n 0, 1) := by decide +kernel
theorem dL_law_307 : decode cL_law 307 = .ok (.iload 4, 2) := by decide +kernel
theorem dL_law_309 : decode cL_law 309 = .ok (.iconst 2, 1) := by decide +kernel
theorem dL_law_310 : decode cL_law 310 = .ok (.iadd, 1) := by decide +kernel
theorem dL_law_311 : decode cL_law 311 = .ok (.iaload, 1) := by decide +kernel
theorem dL_law_312 : decode cL_law 312 = .ok (.invokevirtual 82, 3) := by decide +kernel
theorem dL_law_315 : decode cL_law 315 = .ok (.istore 6, 2) := by decide +kernel
theorem dL_law_317 : decode cL_law 317 = .ok (.aload_n 2, 1) := by decide +kernel
theorem dL_law_318 : decode cL_law 318 = .ok (.invokevirtual 71, 3) := by decide +kernel
theorem dL_law_321 : decode cL_law 321 = .ok (.iload 5, 2) := by decide +kernel
theorem dL_law_323 : decode cL_law 323 = .ok (.if_icmp .eq 5, 3) := by decide +kernel
theorem dL_law_326 : decode cL_law 326 = .ok (.iconst 0, 1) := by decide +kernel
theorem dL_law_327 : decode cL_law 327 = .ok (.ireturn, 1) := by decide +kernel
theorem dL_law_328 : decode cL_law 328 = .ok (.iload 5, 2) := by decide +kernel
theorem dL_law_330 : decode cL_law 330 = .ok (.ifCond .ne 15, 3) := by decide +kernel
theorem dL_law_333 : decode cL_law 333 = .ok (.aload_n 3, 1) := by decide +kernel
theorem dL_law_334 : decode cL_law 334 = .ok (.iconst 0, 1) := by decide +kernel
theorem dL_law_335 : decode cL_law 335 = .ok (.laload, 1) := by decide +kernel
theorem dL_law_336 : decode cL_law 336 = .ok (.iload 6, 2) := by decide +kernel
theorem dL_law_338 : decode cL_law 338 = .ok (.i2l, 1) := by decide +kernel
theorem dL_law_339 : decode cL_law 339 = .ok (.lcmp, 1) := by decide +kernel
theorem dL_law_340 : decode cL_law 340 = .ok (.ifCond .eq 5, 3) := by decide +kernel
theorem dL_law_343 : decode cL_law 343 = .ok (.iconst 0, 1) := by decide +kernel
theorem dL_law_344 : decode cL_law 344 = .ok (.ireturn, 1) := by decide +kernel
theorem dL_law_345 : decode cL_law 345 = .ok (.goto 693, 3) := by decide +kernel
theorem dL_law_348 : decode cL_law 348 = .ok (.aload_n 1, 1) := by decide +kernel
theorem dL_law_349 : decode cL_law 349 = .ok (.aload_n 0, 1) := by decide +kernel
theorem dL_law_350 : decode cL_law 350 = .ok (.iload 4, 2) := by decide +kernel
theorem dL_law_352 : decode cL_law 352 = .ok (.iconst 1, 1) := by decide +kernel
theorem dL_law_353 : decode cL_law 353 = .ok (.iadd, 1) := by decide +kernel
theorem dL_law_354 : decode cL_law 354 = .ok (.iaload, 1) := by decide +kernel
theorem dL_law_355 : decode cL_law 355 = .ok (.aload_n 3, 1) := by decide +kernel
theorem dL_law_356 : decode cL_law 356 = .ok (.invokestatic 83, 3) := by decide +kernel
theorem dL_law_359 : decode cL_law 359 = .ok (.istore 5, 2) := by decide +kernel
theorem dL_law_361 : decode cL_law 361 = .ok (.aload_n 2, 1) := by decide +kernel
theorem dL_law_362 : decode cL_law 362 = .ok (.aload_n 0, 1) := by decide +kernel
theorem dL_law_363 : decode cL_law 363 = .ok (.iload 4, 2) := by decide +kernel
theorem dL_law_365 : decode cL_law 365 = .ok (.iconst 1, 1) := by decide +kernel
theorem dL_law_366 : decode cL_law 366 = .ok (.iadd, 1) := by decide +kernel
theorem dL_law_367 : decode cL_law 367 = .ok (.iaload, 1) := by decide +kernel
theorem dL_law_368 : decode cL_law 368 = .ok (.invokevirtual 85, 3) := by decide +kernel
theorem dL_law_371 : decode cL_law 371 = .ok (.istore 6, 2) := by decide +kernel
theorem dL_law_373 : decode cL_law 373 = .ok (.aload_n 2, 1) := by decide +kernel
theorem dL_law_374 : decode cL_law 374 = .ok (.invokevirtual 71, 3) := by decide +kernel
theorem dL_law_377 : decode cL_law 377 = .ok (.iload 5, 2) := by decide +kernel
theorem dL_law_379 : decode cL_law 379 = .ok (.if_icmp .eq 5, 3) := by decide +kernel
theorem dL_law_382 : decode cL_law 382 = .ok (.iconst 0, 1) := by decide +kernel
theorem dL_law_383 : decode cL_law 383 = .ok (.ireturn, 1) := by decide +kernel
theorem dL_law_384 : decode cL_law 384 = .ok (.iload 5, 2) := by decide +kernel
theorem dL_law_386 : decode cL_law 386 = .ok (.ifCond .ne 15, 3) := by decide +kernel
theorem dL_law_389 : decode cL_law 389 = .ok (.aload_n 3, 1) := by decide +kernel
theorem dL_law_390 : decode cL_law 390 = .ok (.iconst 0, 1) := by decide +kernel
theorem dL_law_391 : decode cL_law 391 = .ok (.laload, 1) := by decide +kernel
theorem dL_law_392 : decode cL_law 392 = .ok (.iload 6, 2) := by decide +kernel
theorem dL_law_394 : decode cL_law 394 = .ok (.i2l, 1) := by decide +kernel
theorem dL_law_395 : decode cL_law 395 = .ok (.lcmp, 1) := by decide +kernel
theorem dL_law_396 : decode cL_law 396 = .ok (.ifCond .eq 5, 3) := by decide +kernel
theorem dL_law_399 : decode cL_law 399 = .ok (.iconst 0, 1) := by decide +kernel
theorem dL_law_400 : decode cL_law 400 = .ok (.ireturn, 1) := by decide +kernel
theorem dL_law_401 : decode cL_law 401 = .ok (.goto 637, 3) := by decide +kernel
theorem dL_law_404 : decode cL_law 404 = .ok (.aload_n 1, 1) := by decide +kernel
theorem dL_law_405 : decode cL_law 405 = .ok (.aload_n 0, 1) := by decide +kernel
theorem dL_law_406 : decode cL_law 406 = .ok (.iload 4, 2) := by decide +kernel
theorem dL_law_408 : decode cL_law 408 = .ok (.iconst 1, 1) := by decide +kernel
theorem dL_law_409 : decode cL_law 409 = .ok (.iadd, 1) := by decide +kernel
theorem dL_law_410 : decode cL_law 410 = .ok (.iaload, 1) := by decide +kernel
theorem dL_law_411 : decode cL_law 411 = .ok (.aload_n 0, 1) := by decide +kernel
theorem dL_law_412 : decode cL_law 412 = .ok (.iload 4, 2) := by decide +kernel
theorem dL_law_414 : decode cL_law 414 = .ok (.iconst 2, 1) := by decide +kernel
theorem dL_law_415 : decode cL_law 415 = .ok (.iadd, 1) := by decide +kernel
theorem dL_law_416 : decode cL_law 416 = .ok (.iaload, 1) := by decide +kernel
theorem dL_law_417 : decode cL_law 417 = .ok (.aload_n 0, 1) := by decide +kernel
theorem dL_law_418 : decode cL_law 418 = .ok (.iload 4, 2) := by decide +kernel
theorem dL_law_420 : decode cL_law 420 = .ok (.iconst 3, 1) := by decide +kernel
theorem dL_law_421 : decode cL_law 421 = .ok (.iadd, 1) := by decide +kernel
theorem dL_law_422 : decode cL_law 422 = .ok (.iaload, 1) := by decide +kernel
theorem dL_law_423 : decode cL_law 423 = .ok (.aload_n 3, 1) := by decide +kernel
theorem dL_law_424 : decode cL_law 424 = .ok (.invokestatic 86, 3) := by decide +kernel
theorem dL_law_427 : decode cL_law 427 = .ok (.istore 5, 2) := by decide +kernel
theorem dL_law_429 : decode cL_law 429 = .ok (.aload_n 2, 1) := by decide +kernel
theorem dL_law_430 : decode cL_law 430 = .ok (.aload_n 0, 1) := by decide +kernel
theorem dL_law_431 : decode cL_law 431 = .ok (.iload 4, 2) := by decide +kernel
theorem dL_law_433 : decode cL_law 433 = .ok (.iconst 1, 1) := by decide +kernel
theorem dL_law_434 : decode cL_law 434 = .ok (.iadd, 1) := by decide +kernel
theorem dL_law_435 : decode cL_law 435 = .ok (.iaload, 1) := by decide +kernel
theorem dL_law_436 : decode cL_law 436 = .ok (.aload_n 0, 1) := by decide +kernel
theorem dL_law_437 : decode cL_law 437 = .ok (.iload 4, 2) := by decide +kernel
theorem dL_law_439 : decode cL_law 439 = .ok (.iconst 2, 1) := by decide +kernel
theorem dL_law_440 : decode cL_law 440 = .ok (.iadd, 1) := by decide +kernel
theorem dL_law_441 : decode cL_law 441 = .ok (.iaload, 1) := by decide +kernel
theorem dL_law_442 : decode cL_law 442 = .ok (.aload_n 0, 1) := by decide +kernel
theorem dL_law_443 : decode cL_law 443 = .ok (.iload 4, 2) := by decide +kernel
theorem dL_law_445 : decode cL_law 445 = .ok (.iconst 3, 1) := by decide +kernel
theorem dL_law_446 : decode cL_law 446 = .ok (.iadd, 1) := by decide +kernel
theorem dL_law_447 : decode cL_law 447 = .ok (.iaload, 1) := by decide +kernel
theorem dL_law_448 : decode cL_law 448 = .ok (.invokevirtual 89, 3) := by decide +kernel
theorem dL_law_451 : decode cL_law 451 = .ok (.istore 6, 2) := by decide +kernel
theorem dL_law_453 : decode cL_law 453 = .ok (.aload_n 2, 1) := by decide +kernel
theorem dL_law_454 : decode cL_law 454 = .ok (.invokevirtual 71, 3) := by decide +kernel
theorem dL_law_457 : decode cL_law 457 = .ok (.iload 5, 2) := by decide +kernel
theorem dL_law_459 : decode cL_law 459 = .ok (.if_icmp .eq 5, 3) := by decide +kernel
theorem dL_law_462 : decode cL_law 462 = .ok (.iconst 0, 1) := by decide +kernel
theorem dL_law_463 : decode cL_law 463 = .ok (.ireturn, 1) := by decide +kernel
theorem dL_law_464 : decode cL_law 464 = .ok (.iload 5, 2) := by decide +kernel
theorem dL_law_466 : decode cL_law 466 = .ok (.ifCond .ne 15, 3) := by decide +kernel
theorem dL_law_469 : decode cL_law 469 = .ok (.aload_n 3, 1) := by decide +kernel
theorem dL_law_470 : decode cL_law 470 = .ok (.iconst 0, 1) := by decide +kernel
theorem dL_law_471 : decode cL_law 471 = .ok (.laload, 1) := by decide +kernel
theorem dL_law_472 : decode cL_law 472 = .ok (.iload 6, 2) := by decide +kernel
theorem dL_law_474 : decode cL_law 474 = .ok (.i2l, 1) := by decide +kernel
theorem dL_law_475 : decode cL_law 475 = .ok (.lcmp, 1) := by decide +kernel
theorem dL_law_476 : decode cL_law 476 = .ok (.ifCond .eq 5, 3) := by decide +kernel
theorem dL_law_479 : decode cL_law 479 = .ok (.iconst 0, 1) := by decide +kernel
theorem dL_law_480 : decode cL_law 480 = .ok (.ireturn, 1) := by decide +kernel
theorem dL_law_481 : decode cL_law 481 = .ok (.goto 557, 3) := by decide +kernel
theorem dL_law_484 : decode cL_law 484 = .ok (.aload_n 1, 1) := by decide +kernel
theorem dL_law_485 : decode cL_law 485 = .ok (.aload_n 0, 1) := by decide +kernel
theorem dL_law_486 : decode cL_law 486 = .ok (.iload 4, 2) := by decide +kernel
theorem dL_law_488 : decode cL_law 488 = .ok (.iconst 1, 1) := by decide +kernel
theorem dL_law_489 : decode cL_law 489 = .ok (.iadd, 1) := by decide +kernel
theorem dL_law_490 : decode cL_law 490 = .ok (.iaload, 1) := by decide +kernel
theorem dL_law_491 : decode cL_law 491 = .ok (.aload_n 3, 1) := by decide +kernel
theorem dL_law_492 : decode cL_law 492 = .ok (.invokestatic 90, 3) := by decide +kernel
theorem dL_law_495 : decode cL_law 495 = .ok (.istore 5, 2) := by decide +kernel
theorem dL_law_497 : decode cL_law 497 = .ok (.aload_n 2, 1) := by decide +kernel
theorem dL_law_498 : decode cL_law 498 = .ok (.aload_n 0, 1) := by decide +kernel
theorem dL_law_499 : decode cL_law 499 = .ok (.iload 4, 2) := by decide +kernel
theorem dL_law_501 : decode cL_law 501 = .ok (.iconst 1, 1) := by decide +kernel
theorem dL_law_502 : decode cL_law 502 = .ok (.iadd, 1) := by decide +kernel
theorem dL_law_503 : decode cL_law 503 = .ok (.iaload, 1) := by decide +kernel
theorem dL_law_504 : decode cL_law 504 = .ok (.invokevirtual 92, 3) := by decide +kernel
theorem dL_law_507 : decode cL_law 507 = .ok (.istore 6, 2) := by decide +kernel
theorem dL_law_509 : decode cL_law 509 = .ok (.aload_n 2, 1) := by decide +kernel
theorem dL_law_510 : decode cL_law 510 = .ok (.invokevirtual 71, 3) := by decide +kernel
theorem dL_law_513 : decode cL_law 513 = .ok (.iload 5, 2) := by decide +kernel
theorem dL_law_515 : decode cL_law 515 = .ok (.if_icmp .eq 5, 3) := by decide +kernel
theorem dL_law_518 : decode cL_law 518 = .ok (.iconst 0, 1) := by decide +kernel
theorem dL_law_519 : decode cL_law 519 = .ok (.ireturn, 1) := by decide +kernel
theorem dL_law_520 : decode cL_law 520 = .ok (.iload 5, 2) := by decide +kernel
theorem dL_law_522 : decode cL_law 522 = .ok (.ifCond .ne 15, 3) := by decide +kernel
theorem dL_law_525 : decode cL_law 525 = .ok (.aload_n 3, 1) := by decide +kernel
theorem dL_law_526 : decode cL_law 526 = .ok (.iconst 0, 1) := by decide +kernel
theorem dL_law_527 : decode cL_law 527 = .ok (.laload, 1) := by decide +kernel
theorem dL_law_528 : decode cL_law 528 = .ok (.iload 6, 2) := by decide +kernel
theorem dL_law_530 : decode cL_law 530 = .ok (.i2l, 1) := by decide +kernel
theorem dL_law_531 : decode cL_law 531 = .ok (.lcmp, 1) := by decide +kernel
theorem dL_law_532 : decode cL_law 532 = .ok (.ifCond .eq 5, 3) := by decide +kernel
theorem dL_law_535 : decode cL_law 535 = .ok (.iconst 0, 1) := by decide +kernel
theorem dL_law_536 : decode cL_law 536 = .ok (.ireturn, 1) := by decide +kernel
theorem dL_law_537 : decode cL_law 537 = .ok (.goto 501, 3) := by decide +kernel
theorem dL_law_540 : decode cL_law 540 = .ok (.aload_n 1, 1) := by decide +kernel
theorem dL_law_541 : decode cL_law 541 = .ok (.aload_n 0, 1) := by decide +kernel
theorem dL_law_542 : decode cL_law 542 = .ok (.iload 4, 2) := by decide +kernel
theorem dL_law_544 : decode cL_law 544 = .ok (.iconst 1, 1) := by decide +kernel
theorem dL_law_545 : decode cL_law 545 = .ok (.iadd, 1) := by decide +kernel
theorem dL_law_546 : decode cL_law 546 = .ok (.iaload, 1) := by decide +kernel
theorem dL_law_547 : decode cL_law 547 = .ok (.aload_n 3, 1) := by decide +kernel
theorem dL_law_548 : decode cL_law 548 = .ok (.invokestatic 93, 3) := by decide +kernel
theorem dL_law_551 : decode cL_law 551 = .ok (.istore 5, 2) := by decide +kernel
theorem dL_law_553 : decode cL_law 553 = .ok (.aload_n 2, 1) := by decide +kernel
theorem dL_law_554 : decode cL_law 554 = .ok (.aload_n 0, 1) := by decide +kernel
theorem dL_law_555 : decode cL_law 555 = .ok (.iload 4, 2) := by decide +kernel
theorem dL_law_557 : decode cL_law 557 = .ok (.iconst 1, 1) := by decide +kernel
theorem dL_law_558 : decode cL_law 558 = .ok (.iadd, 1) := by decide +kernel
theorem dL_law_559 : decode cL_law 559 = .ok (.iaload, 1) := by decide +kernel
theorem dL_law_560 : decode cL_law 560 = .ok (.invokevirtual 95, 3) := by decide +kernel
theorem dL_law_563 : decode cL_law 563 = .ok (.istore 6, 2) := by decide +kernel
theorem dL_law_565 : decode cL_law 565 = .ok (.aload_n 2, 1) := by decide +kernel
theorem dL_law_566 : decode cL_law 566 = .ok (.invokevirtual 71, 3) := by decide +kernel
theorem dL_law_569 : decode cL_law 569 = .ok (.iload 5, 2) := by decide +kernel
theorem dL_law_571 : decode cL_law 571 = .ok (.if_icmp .eq 5, 3) := by decide +kernel
theorem dL_law_574 : decode cL_law 574 = .ok (.iconst 0, 1) := by decide +kernel
theorem dL_law_575 : decode cL_law 575 = .ok (.ireturn, 1) := by decide +kernel
theorem dL_law_576 : decode cL_law 576 = .ok (.iload 5, 2) := by decide +kernel
theorem dL_law_578 : decode cL_law 578 = .ok (.ifCond .ne 15, 3) := by decide +kernel
theorem dL_law_581 : decode cL_law 581 = .ok (.aload_n 3, 1) := by decide +kernel
theorem dL_law_582 : decode cL_law 582 = .ok (.iconst 0, 1) := by decide +kernel
theorem dL_law_583 : decode cL_law 583 = .ok (.laload, 1) := by decide +kernel
theorem dL_law_584 : decode cL_law 584 = .ok (.iload 6, 2) := by decide +kernel
theorem dL_law_586 : decode cL_law 586 = .ok (.i2l, 1) := by decide +kernel
theorem dL_law_587 : decode cL_law 587 = .ok (.lcmp, 1) := by decide +kernel
theorem dL_law_588 : decode cL_law 588 = .ok (.ifCond .eq 5, 3) := by decide +kernel
theorem dL_law_591 : decode cL_law 591 = .ok (.iconst 0, 1) := by decide +kernel
theorem dL_law_592 : decode cL_law 592 = .ok (.ireturn, 1) := by decide +kernel
theorem dL_law_593 : decode cL_law 593 = .ok (.goto 445, 3) := by decide +kernel
theorem dL_law_596 : decode cL_law 596 = .ok (.aload_n 1, 1) := by decide +kernel
theorem dL_law_597 : decode cL_law 597 = .ok (.invokevirtual 96, 3) := by decide +kernel
theorem dL_law_600 : decode cL_law 600 = .ok (.aload_n 2, 1) := by decide +kernel
theorem dL_law_601 : decode cL_law 601 = .ok (.invokevirtual 99, 3) := by decide +kernel
theorem dL_law_604 : decode cL_law 604 = .ok (.if_icmp .eq 434, 3) := by decide +kernel
theorem dL_law_607 : decode cL_law 607 = .ok (.iconst 0, 1) := by decide +kernel
theorem dL_law_608 : decode cL_law 608 = .ok (.ireturn, 1) := by decide +kernel
theorem dL_law_609 : decode cL_law 609 = .ok (.aload_n 1, 1) := by decide +kernel
theorem dL_law_610 : decode cL_law 610 = .ok (.invokevirtual 100, 3) := by decide +kernel
theorem dL_law_613 : decode cL_law 613 = .ok (.aload_n 2, 1) := by decide +kernel
theorem dL_law_614 : decode cL_law 614 = .ok (.invokevirtual 103, 3) := by decide +kernel
theorem dL_law_617 : decode cL_law 617 = .ok (.if_icmp .eq 421, 3) := by decide +kernel
theorem dL_law_620 : decode cL_law 620 = .ok (.iconst 0, 1) := by decide +kernel
theorem dL_law_621 : decode cL_law 621 = .ok (.ireturn, 1) := by decide +kernel
theorem dL_law_622 : decode cL_law 622 = .ok (.aload_n 1, 1) := by decide +kernel
theorem dL_law_623 : decode cL_law 623 = .ok (.aload_n 0, 1) := by decide +kernel
theorem dL_law_624 : decode cL_law 624 = .ok (.iload 4, 2) := by decide +kernel
theorem dL_law_626 : decode cL_law 626 = .ok (.iconst 1, 1) := by decide +kernel
theorem dL_law_627 : decode cL_law 627 = .ok (.iadd, 1) := by decide +kernel
theorem dL_law_628 : decode cL_law 628 = .ok (.iaload, 1) := by decide +kernel
theorem dL_law_629 : decode cL_law 629 = .ok (.aload_n 3, 1) := by decide +kernel
theorem dL_law_630 : decode cL_law 630 = .ok (.invokestatic 104, 3) := by decide +kernel
theorem dL_law_633 : decode cL_law 633 = .ok (.istore 5, 2) := by decide +kernel
theorem dL_law_635 : decode cL_law 635 = .ok (.aload_n 2, 1) := by decide +kernel
theorem dL_law_636 : decode cL_law 636 = .ok (.aload_n 0, 1) := by decide +kernel
theorem dL_law_637 : decode cL_law 637 = .ok (.iload 4, 2) := by decide +kernel
theorem dL_law_639 : decode cL_law 639 = .ok (.iconst 1, 1) := by decide +kernel
theorem dL_law_640 : decode cL_law 640 = .ok (.iadd, 1) := by decide +kernel
theorem dL_law_641 : decode cL_law 641 = .ok (.iaload, 1) := by decide +kernel
theorem dL_law_642 : decode cL_law 642 = .ok (.invokevirtual 106, 3) := by decide +kernel
theorem dL_law_645 : decode cL_law 645 = .ok (.istore 6, 2) := by decide +kernel
theorem dL_law_647 : decode cL_law 647 = .ok (.aload_n 2, 1) := by decide +kernel
theorem dL_law_648 : decode cL_law 648 = .ok (.invokevirtual 71, 3) := by decide +kernel
theorem dL_law_651 : decode cL_law 651 = .ok (.iload 5, 2) := by decide +kernel
theorem dL_law_653 : decode cL_law 653 = .ok (.if_icmp .eq 5, 3) := by decide +kernel
theorem dL_law_656 : decode cL_law 656 = .ok (.iconst 0, 1) := by decide +kernel
theorem dL_law_657 : decode cL_law 657 = .ok (.ireturn, 1) := by decide +kernel
theorem dL_law_658 : decode cL_law 658 = .ok (.iload 5, 2) := by decide +kernel
theorem dL_law_660 : decode cL_law 660 = .ok (.ifCond .ne 15, 3) := by decide +kernel
theorem dL_law_663 : decode cL_law 663 = .ok (.aload_n 3, 1) := by decide +kernel
theorem dL_law_664 : decode cL_law 664 = .ok (.iconst 0, 1) := by decide +kernel
theorem dL_law_665 : decode cL_law 665 = .ok (.laload, 1) := by decide +kernel
theorem dL_law_666 : decode cL_law 666 = .ok (.iload 6, 2) := by decide +kernel
theorem dL_law_668 : decode cL_law 668 = .ok (.i2l, 1) := by decide +kernel
theorem dL_law_669 : decode cL_law 669 = .ok (.lcmp, 1) := by decide +kernel
theorem dL_law_670 : decode cL_law 670 = .ok (.ifCond .eq 5, 3) := by decide +kernel
theorem dL_law_673 : decode cL_law 673 = .ok (.iconst 0, 1) := by decide +kernel
theorem dL_law_674 : decode cL_law 674 = .ok (.ireturn, 1) := by decide +kernel
theorem dL_law_675 : decode cL_law 675 = .ok (.goto 363, 3) := by decide +kernel
theorem dL_law_678 : decode cL_law 678 = .ok (.aload_n 1, 1) := by decide +kernel
theorem dL_law_679 : decode cL_law 679 = .ok (.aload_n 0, 1) := by decide +kernel
theorem dL_law_680 : decode cL_law 680 = .ok (.iload 4, 2) := by decide +kernel
theorem dL_law_682 : decode cL_law 682 = .ok (.iconst 1, 1) := by decide +kernel
theorem dL_law_683 : decode cL_law 683 = .ok (.iadd, 1) := by decide +kernel
theorem dL_law_684 : decode cL_law 684 = .ok (.iaload, 1) := by decide +kernel
theorem dL_law_685 : decode cL_law 685 = .ok (.aload_n 3, 1) := by decide +kernel
theorem dL_law_686 : decode cL_law 686 = .ok (.invokestatic 107, 3) := by decide +kernel
theorem dL_law_689 : decode cL_law 689 = .ok (.istore 5, 2) := by decide +kernel
theorem dL_law_691 : decode cL_law 691 = .ok (.aload_n 2, 1) := by decide +kernel
theorem dL_law_692 : decode cL_law 692 = .ok (.aload_n 0, 1) := by decide +kernel
theorem dL_law_693 : decode cL_law 693 = .ok (.iload 4, 2) := by decide +kernel
theorem dL_law_695 : decode cL_law 695 = .ok (.iconst 1, 1) := by decide +kernel
theorem dL_law_696 : decode cL_law 696 = .ok (.iadd, 1) := by decide +kernel
theorem dL_law_697 : decode cL_law 697 = .ok (.iaload, 1) := by decide +kernel
theorem dL_law_698 : decode cL_law 698 = .ok (.invokevirtual 109, 3) := by decide +kernel
theorem dL_law_701 : decode cL_law 701 = .ok (.istore 6, 2) := by decide +kernel
theorem dL_law_703 : decode cL_law 703 = .ok (.aload_n 2, 1) := by decide +kernel
theorem dL_law_704 : decode cL_law 704 = .ok (.invokevirtual 71, 3) := by decide +kernel
theorem dL_law_707 : decode cL_law 707 = .ok (.iload 5, 2) := by decide +kernel
theorem dL_law_709 : decode cL_law 709 = .ok (.if_icmp .eq 5, 3) := by decide +kernel
theorem dL_law_712 : decode cL_law 712 = .ok (.iconst 0, 1) := by decide +kernel
theorem dL_law_713 : decode cL_law 713 = .ok (.ireturn, 1) := by decide +kernel
theorem dL_law_714 : decode cL_law 714 = .ok (.iload 5, 2) := by decide +kernel
theorem dL_law_716 : decode cL_law 716 = .ok (.ifCond .ne 15, 3) := by decide +kernel
theorem dL_law_719 : decode cL_law 719 = .ok (.aload_n 3, 1) := by decide +kernel
theorem dL_law_720 : decode cL_law 720 = .ok (.iconst 0, 1) := by decide +kernel
theorem dL_law_721 : decode cL_law 721 = .ok (.laload, 1) := by decide +kernel
theorem dL_law_722 : decode cL_law 722 = .ok (.iload 6, 2) := by decide +kernel
theorem dL_law_724 : decode cL_law 724 = .ok (.i2l, 1) := by decide +kernel
theorem dL_law_725 : decode cL_law 725 = .ok (.lcmp, 1) := by decide +kernel
theorem dL_law_726 : decode cL_law 726 = .ok (.ifCond .eq 5, 3) := by decide +kernel
theorem dL_law_729 : decode cL_law 729 = .ok (.iconst 0, 1) := by decide +kernel
theorem dL_law_730 : decode cL_law 730 = .ok (.ireturn, 1) := by decide +kernel
theorem dL_law_731 : decode cL_law 731 = .ok (.goto 307, 3) := by decide +kernel
theorem dL_law_734 : decode cL_law 734 = .ok (.aload_n 1, 1) := by decide +kernel
theorem dL_law_735 : decode cL_law 735 = .ok (.aload_n 0, 1) := by decide +kernel
theorem dL_law_736 : decode cL_law 736 = .ok (.iload 4, 2) := by decide +kernel
theorem dL_law_738 : decode cL_law 738 = .ok (.iconst 1, 1) := by decide +kernel
theorem dL_law_739 : decode cL_law 739 = .ok (.iadd, 1) := by decide +kernel
theorem dL_law_740 : decode cL_law 740 = .ok (.iaload, 1) := by decide +kernel
theorem dL_law_741 : decode cL_law 741 = .ok (.aload_n 3, 1) := by decide +kernel
theorem dL_law_742 : decode cL_law 742 = .ok (.invokestatic 110, 3) := by decide +kernel
theorem dL_law_745 : decode cL_law 745 = .ok (.istore 5, 2) := by decide +kernel
theorem dL_law_747 : decode cL_law 747 = .ok (.aload_n 2, 1) := by decide +kernel
theorem dL_law_748 : decode cL_law 748 = .ok (.aload_n 0, 1) := by decide +kernel
theorem dL_law_749 : decode cL_law 749 = .ok (.iload 4, 2) := by decide +kernel
theorem dL_law_751 : decode cL_law 751 = .ok (.iconst 1, 1) := by decide +kernel
theorem dL_law_752 : decode cL_law 752 = .ok (.iadd, 1) := by decide +kernel
theorem dL_law_753 : decode cL_law 753 = .ok (.iaload, 1) := by decide +kernel
theorem dL_law_754 : decode cL_law 754 = .ok (.invokevirtual 112, 3) := by decide +kernel
theorem dL_law_757 : decode cL_law 757 = .ok (.istore 6, 2) := by decide +kernel
theorem dL_law_759 : decode cL_law 759 = .ok (.aload_n 2, 1) := by decide +kernel
theorem dL_law_760 : decode cL_law 760 = .ok (.invokevirtual 71, 3) := by decide +kernel
theorem dL_law_763 : decode cL_law 763 = .ok (.iload 5, 2) := by decide +kernel
theorem dL_law_765 : decode cL_law 765 = .ok (.if_icmp .eq 5, 3) := by decide +kernel
theorem dL_law_768 : decode cL_law 768 = .ok (.iconst 0, 1) := by decide +kernel
theorem dL_law_769 : decode cL_law 769 = .ok (.ireturn, 1) := by decide +kernel
theorem dL_law_770 : decode cL_law 770 = .ok (.iload 5, 2) := by decide +kernel
theorem dL_law_772 : decode cL_law 772 = .ok (.ifCond .ne 15, 3) := by decide +kernel
theorem dL_law_775 : decode cL_law 775 = .ok (.aload_n 3, 1) := by decide +kernel
theorem dL_law_776 : decode cL_law 776 = .ok (.iconst 0, 1) := by decide +kernel
theorem dL_law_777 : decode cL_law 777 = .ok (.laload, 1) := by decide +kernel
theorem dL_law_778 : decode cL_law 778 = .ok (.iload 6, 2) := by decide +kernel
theorem dL_law_780 : decode cL_law 780 = .ok (.i2l, 1) := by decide +kernel
theorem dL_law_781 : decode cL_law 781 = .ok (.lcmp, 1) := by decide +kernel
theorem dL_law_782 : decode cL_law 782 = .ok (.ifCond .eq 5, 3) := by decide +kernel
theorem dL_law_785 : decode cL_law 785 = .ok (.iconst 0, 1) := by decide +kernel
theorem dL_law_786 : decode cL_law 786 = .ok (.ireturn, 1) := by decide +kernel
theorem dL_law_787 : decode cL_law 787 = .ok (.goto 251, 3) := by decide +kernel
theorem dL_law_790 : decode cL_law 790 = .ok (.aload_n 1, 1) := by decide +kernel
theorem dL_law_791 : decode cL_law 791 = .ok (.aload_n 0, 1) := by decide +kernel
theorem dL_law_792 : decode cL_law 792 = .ok (.iload 4, 2) := by decide +kernel
theorem dL_law_794 : decode cL_law 794 = .ok (.iconst 1, 1) := by decide +kernel
theorem dL_law_795 : decode cL_law 795 = .ok (.iadd, 1) := by decide +kernel
theorem dL_law_796 : decode cL_law 796 = .ok (.iaload, 1) := by decide +kernel
theorem dL_law_797 : decode cL_law 797 = .ok (.aload_n 0, 1) := by decide +kernel
theorem dL_law_798 : decode cL_law 798 = .ok (.iload 4, 2) := by decide +kernel
theorem dL_law_800 : decode cL_law 800 = .ok (.iconst 2, 1) := by decide +kernel
theorem dL_law_801 : decode cL_law 801 = .ok (.iadd, 1) := by decide +kernel
theorem dL_law_802 : decode cL_law 802 = .ok (.iaload, 1) := by decide +kernel
theorem dL_law_803 : decode cL_law 803 = .ok (.aload_n 3, 1) := by decide +kernel
theorem dL_law_804 : decode cL_law 804 = .ok (.invokestatic 113, 3) := by decide +kernel
theorem dL_law_807 : decode cL_law 807 = .ok (.istore 5, 2) := by decide +kernel
theorem dL_law_809 : decode cL_law 809 = .ok (.aload_n 2, 1) := by decide +kernel
theorem dL_law_810 : decode cL_law 810 = .ok (.aload_n 0, 1) := by decide +kernel
theorem dL_law_811 : decode cL_law 811 = .ok (.iload 4, 2) := by decide +kernel
theorem dL_law_813 : decode cL_law 813 = .ok (.iconst 1, 1) := by decide +kernel
theorem dL_law_814 : decode cL_law 814 = .ok (.iadd, 1) := by decide +kernel
theorem dL_law_815 : decode cL_law 815 = .ok (.iaload, 1) := by decide +kernel
theorem dL_law_816 : decode cL_law 816 = .ok (.aload_n 0, 1) := by decide +kernel
theorem dL_law_817 : decode cL_law 817 = .ok (.iload 4, 2) := by decide +kernel
theorem dL_law_819 : decode cL_law 819 = .ok (.iconst 2, 1) := by decide +kernel
theorem dL_law_820 : decode cL_law 820 = .ok (.iadd, 1) := by decide +kernel
theorem dL_law_821 : decode cL_law 821 = .ok (.iaload, 1) := by decide +kernel
theorem dL_law_822 : decode cL_law 822 = .ok (.invokevirtual 115, 3) := by decide +kernel
theorem dL_law_825 : decode cL_law 825 = .ok (.istore 6, 2) := by decide +kernel
theorem dL_law_827 : decode cL_law 827 = .ok (.aload_n 2, 1) := by decide +kernel
theorem dL_law_828 : decode cL_law 828 = .ok (.invokevirtual 71, 3) := by decide +kernel
theorem dL_law_831 : decode cL_law 831 = .ok (.iload 5, 2) := by decide +kernel
theorem dL_law_833 : decode cL_law 833 = .ok (.if_icmp .eq 5, 3) := by decide +kernel
theorem dL_law_836 : decode cL_law 836 = .ok (.iconst 0, 1) := by decide +kernel
theorem dL_law_837 : decode cL_law 837 = .ok (.ireturn, 1) := by decide +kernel
theorem dL_law_838 : decode cL_law 838 = .ok (.iload 5, 2) := by decide +kernel
theorem dL_law_840 : decode cL_law 840 = .ok (.ifCond .ne 15, 3) := by decide +kernel
theorem dL_law_843 : decode cL_law 843 = .ok (.aload_n 3, 1) := by decide +kernel
theorem dL_law_844 : decode cL_law 844 = .ok (.iconst 0, 1) := by decide +kernel
theorem dL_law_845 : decode cL_law 845 = .ok (.laload, 1) := by decide +kernel
theorem dL_law_846 : decode cL_law 846 = .ok (.iload 6, 2) := by decide +kernel
theorem dL_law_848 : decode cL_law 848 = .ok (.i2l, 1) := by decide +kernel
theorem dL_law_849 : decode cL_law 849 = .ok (.lcmp, 1) := by decide +kernel
theorem dL_law_850 : decode cL_law 850 = .ok (.ifCond .eq 5, 3) := by decide +kernel
theorem dL_law_853 : decode cL_law 853 = .ok (.iconst 0, 1) := by decide +kernel
theorem dL_law_854 : decode cL_law 854 = .ok (.ireturn, 1) := by decide +kernel
theorem dL_law_855 : decode cL_law 855 = .ok (.goto 183, 3) := by decide +kernel
theorem dL_law_858 : decode cL_law 858 = .ok (.aload_n 1, 1) := by decide +kernel
theorem dL_law_859 : decode cL_law 859 = .ok (.aload_n 0, 1) := by decide +kernel
theorem dL_law_860 : decode cL_law 860 = .ok (.iload 4, 2) := by decide +kernel
theorem dL_law_862 : decode cL_law 862 = .ok (.iconst 1, 1) := by decide +kernel
theorem dL_law_863 : decode cL_law 863 = .ok (.iadd, 1) := by decide +kernel
theorem dL_law_864 : decode cL_law 864 = .ok (.iaload, 1) := by decide +kernel
theorem dL_law_865 : decode cL_law 865 = .ok (.aload_n 0, 1) := by decide +kernel
theorem dL_law_866 : decode cL_law 866 = .ok (.iload 4, 2) := by decide +kernel
theorem dL_law_868 : decode cL_law 868 = .ok (.iconst 2, 1) := by decide +kernel
theorem dL_law_869 : decode cL_law 869 = .ok (.iadd, 1) := by decide +kernel
theorem dL_law_870 : decode cL_law 870 = .ok (.iaload, 1) := by decide +kernel
theorem dL_law_871 : decode cL_law 871 = .ok (.aload_n 3, 1) := by decide +kernel
theorem dL_law_872 : decode cL_law 872 = .ok (.invokestatic 116, 3) := by decide +kernel
theorem dL_law_875 : decode cL_law 875 = .ok (.istore 5, 2) := by decide +kernel
theorem dL_law_877 : decode cL_law 877 = .ok (.aload_n 2, 1) := by decide +kernel
theorem dL_law_878 : decode cL_law 878 = .ok (.aload_n 0, 1) := by decide +kernel
theorem dL_law_879 : decode cL_law 879 = .ok (.iload 4, 2) := by decide +kernel
theorem dL_law_881 : decode cL_law 881 = .ok (.iconst 1, 1) := by decide +kernel
theorem dL_law_882 : decode cL_law 882 = .ok (.iadd, 1) := by decide +kernel
theorem dL_law_883 : decode cL_law 883 = .ok (.iaload, 1) := by decide +kernel
theorem dL_law_884 : decode cL_law 884 = .ok (.aload_n 0, 1) := by decide +kernel
theorem dL_law_885 : decode cL_law 885 = .ok (.iload 4, 2) := by decide +kernel
theorem dL_law_887 : decode cL_law 887 = .ok (.iconst 2, 1) := by decide +kernel
theorem dL_law_888 : decode cL_law 888 = .ok (.iadd, 1) := by decide +kernel
theorem dL_law_889 : decode cL_law 889 = .ok (.iaload, 1) := by decide +kernel
theorem dL_law_890 : decode cL_law 890 = .ok (.invokevirtual 118, 3) := by decide +kernel
theorem dL_law_893 : decode cL_law 893 = .ok (.istore 6, 2) := by decide +kernel
theorem dL_law_895 : decode cL_law 895 = .ok (.aload_n 2, 1) := by decide +kernel
theorem dL_law_896 : decode cL_law 896 = .ok (.invokevirtual 71, 3) := by decide +kernel
theorem dL_law_899 : decode cL_law 899 = .ok (.iload 5, 2) := by decide +kernel
theorem dL_law_901 : decode cL_law 901 = .ok (.if_icmp .eq 5, 3) := by decide +kernel
theorem dL_law_904 : decode cL_law 904 = .ok (.iconst 0, 1) := by decide +kernel
theorem dL_law_905 : decode cL_law 905 = .ok (.ireturn, 1) := by decide +kernel
theorem dL_law_906 : decode cL_law 906 = .ok (.iload 5, 2) := by decide +kernel
theorem dL_law_908 : decode cL_law 908 = .ok (.ifCond .ne 15, 3) := by decide +kernel
theorem dL_law_911 : decode cL_law 911 = .ok (.aload_n 3, 1) := by decide +kernel
theorem dL_law_912 : decode cL_law 912 = .ok (.iconst 0, 1) := by decide +kernel
theorem dL_law_913 : decode cL_law 913 = .ok (.laload, 1) := by decide +kernel
theorem dL_law_914 : decode cL_law 914 = .ok (.iload 6, 2) := by decide +kernel
theorem dL_law_916 : decode cL_law 916 = .ok (.i2l, 1) := by decide +kernel
theorem dL_law_917 : decode cL_law 917 = .ok (.lcmp, 1) := by decide +kernel
theorem dL_law_918 : decode cL_law 918 = .ok (.ifCond .eq 5, 3) := by decide +kernel
theorem dL_law_921 : decode cL_law 921 = .ok (.iconst 0, 1) := by decide +kernel
theorem dL_law_922 : decode cL_law 922 = .ok (.ireturn, 1) := by decide +kernel
theorem dL_law_923 : decode cL_law 923 = .ok (.goto 115, 3) := by decide +kernel
theorem dL_law_926 : decode cL_law 926 = .ok (.aload_n 1, 1) := by decide +kernel
theorem dL_law_927 : decode cL_law 927 = .ok (.aload_n 0, 1) := by decide +kernel
theorem dL_law_928 : decode cL_law 928 = .ok (.iload 4, 2) := by decide +kernel
theorem dL_law_930 : decode cL_law 930 = .ok (.iconst 1, 1) := by decide +kernel
theorem dL_law_931 : decode cL_law 931 = .ok (.iadd, 1) := by decide +kernel
theorem dL_law_932 : decode cL_law 932 = .ok (.iaload, 1) := by decide +kernel
theorem dL_law_933 : decode cL_law 933 = .ok (.aload_n 3, 1) := by decide +kernel
theorem dL_law_934 : decode cL_law 934 = .ok (.invokestatic 119, 3) := by decide +kernel
theorem dL_law_937 : decode cL_law 937 = .ok (.istore 5, 2) := by decide +kernel
theorem dL_law_939 : decode cL_law 939 = .ok (.aload_n 2, 1) := by decide +kernel
theorem dL_law_940 : decode cL_law 940 = .ok (.aload_n 0, 1) := by decide +kernel
theorem dL_law_941 : decode cL_law 941 = .ok (.iload 4, 2) := by decide +kernel
theorem dL_law_943 : decode cL_law 943 = .ok (.iconst 1, 1) := by decide +kernel
theorem dL_law_944 : decode cL_law 944 = .ok (.iadd, 1) := by decide +kernel
theorem dL_law_945 : decode cL_law 945 = .ok (.iaload, 1) := by decide +kernel
theorem dL_law_946 : decode cL_law 946 = .ok (.invokevirtual 121, 3) := by decide +kernel
theorem dL_law_949 : decode cL_law 949 = .ok (.istore 6, 2) := by decide +kernel
theorem dL_law_951 : decode cL_law 951 = .ok (.aload_n 2, 1) := by decide +kernel
theorem dL_law_952 : decode cL_law 952 = .ok (.invokevirtual 71, 3) := by decide +kernel
theorem dL_law_955 : decode cL_law 955 = .ok (.iload 5, 2) := by decide +kernel
theorem dL_law_957 : decode cL_law 957 = .ok (.if_icmp .eq 5, 3) := by decide +kernel
theorem dL_law_960 : decode cL_law 960 = .ok (.iconst 0, 1) := by decide +kernel
theorem dL_law_961 : decode cL_law 961 = .ok (.ireturn, 1) := by decide +kernel
theorem dL_law_962 : decode cL_law 962 = .ok (.iload 5, 2) := by decide +kernel
theorem dL_law_964 : decode cL_law 964 = .ok (.ifCond .ne 15, 3) := by decide +kernel
theorem dL_law_967 : decode cL_law 967 = .ok (.aload_n 3, 1) := by decide +kernel
theorem dL_law_968 : decode cL_law 968 = .ok (.iconst 0, 1) := by decide +kernel
theorem dL_law_969 : decode cL_law 969 = .ok (.laload, 1) := by decide +kernel
theorem dL_law_970 : decode cL_law 970 = .ok (.iload 6, 2) := by decide +kernel
theorem dL_law_972 : decode cL_law 972 = .ok (.i2l, 1) := by decide +kernel
theorem dL_law_973 : decode cL_law 973 = .ok (.lcmp, 1) := by decide +kernel
theorem dL_law_974 : decode cL_law 974 = .ok (.ifCond .eq 5, 3) := by decide +kernel
theorem dL_law_977 : decode cL_law 977 = .ok (.iconst 0, 1) := by decide +kernel
theorem dL_law_978 : decode cL_law 978 = .ok (.ireturn, 1) := by decide +kernel
theorem dL_law_979 : decode cL_law 979 = .ok (.goto 59, 3) := by decide +kernel
theorem dL_law_982 : decode cL_law 982 = .ok (.aload_n 1, 1) := by decide +kernel
theorem dL_law_983 : decode cL_law 983 = .ok (.aload_n 0, 1) := by decide +kernel
theorem dL_law_984 : decode cL_law 984 = .ok (.iload 4, 2) := by decide +kernel
theorem dL_law_986 : decode cL_law 986 = .ok (.iconst 1, 1) := by decide +kernel
theorem dL_law_987 : decode cL_law 987 = .ok (.iadd, 1) := by decide +kernel
theorem dL_law_988 : decode cL_law 988 = .ok (.iaload, 1) := by decide +kernel
theorem dL_law_989 : decode cL_law 989 = .ok (.aload_n 3, 1) := by decide +kernel
theorem dL_law_990 : decode cL_law 990 = .ok (.invokestatic 122, 3) := by decide +kernel
theorem dL_law_993 : decode cL_law 993 = .ok (.istore 5, 2) := by decide +kernel
theorem dL_law_995 : decode cL_law 995 = .ok (.aload_n 2, 1) := by decide +kernel
theorem dL_law_996 : decode cL_law 996 = .ok (.aload_n 0, 1) := by decide +kernel
theorem dL_law_997 : decode cL_law 997 = .ok (.iload 4, 2) := by decide +kernel
theorem dL_law_999 : decode cL_law 999 = .ok (.iconst 1, 1) := by decide +kernel
theorem dL_law_1000 : decode cL_law 1000 = .ok (.iadd, 1) := by decide +kernel
theorem dL_law_1001 : decode cL_law 1001 = .ok (.iaload, 1) := by decide +kernel
theorem dL_law_1002 : decode cL_law 1002 = .ok (.invokevirtual 124, 3) := by decide +kernel
theorem dL_law_1005 : decode cL_law 1005 = .ok (.istore 6, 2) := by decide +kernel
theorem dL_law_1007 : decode cL_law 1007 = .ok (.aload_n 2, 1) := by decide +kernel
theorem dL_law_1008 : decode cL_law 1008 = .ok (.invokevirtual 71, 3) := by decide +kernel
theorem dL_law_1011 : decode cL_law 1011 = .ok (.iload 5, 2) := by decide +kernel
theorem dL_law_1013 : decode cL_law 1013 = .ok (.if_icmp .eq 5, 3) := by decide +kernel
theorem dL_law_1016 : decode cL_law 1016 = .ok (.iconst 0, 1) := by decide +kernel
theorem dL_law_1017 : decode cL_law 1017 = .ok (.ireturn, 1) := by decide +kernel
theorem dL_law_1018 : decode cL_law 1018 = .ok (.iload 5, 2) := by decide +kernel
theorem dL_law_1020 : decode cL_law 1020 = .ok (.ifCond .ne 15, 3) := by decide +kernel
theorem dL_law_1023 : decode cL_law 1023 = .ok (.aload_n 3, 1) := by decide +kernel
theorem dL_law_1024 : decode cL_law 1024 = .ok (.iconst 0, 1) := by decide +kernel
theorem dL_law_1025 : decode cL_law 1025 = .ok (.laload, 1) := by decide +kernel
theorem dL_law_1026 : decode cL_law 1026 = .ok (.iload 6, 2) := by decide +kernel
theorem dL_law_1028 : decode cL_law 1028 = .ok (.i2l, 1) := by decide +kernel
theorem dL_law_1029 : decode cL_law 1029 = .ok (.lcmp, 1) := by decide +kernel
theorem dL_law_1030 : decode cL_law 1030 = .ok (.ifCond .eq 5, 3) := by decide +kernel
theorem dL_law_1033 : decode cL_law 1033 = .ok (.iconst 0, 1) := by decide +kernel
theorem dL_law_1034 : decode cL_law 1034 = .ok (.ireturn, 1) := by decide +kernel
theorem dL_law_1035 : decode cL_law 1035 = .ok (.goto 3, 3) := by decide +kernel
theorem dL_law_1038 : decode cL_law 1038 = .ok (.iinc 4 6, 3) := by decide +kernel
theorem dL_law_1041 : decode cL_law 1041 = .ok (.goto (-1018), 3) := by decide +kernel
theorem dL_law_1044 : decode cL_law 1044 = .ok (.iconst 1, 1) := by decide +kernel
theorem dL_law_1045 : decode cL_law 1045 = .ok (.ireturn, 1) := by decide +kernel
abbrev vwCl : List vw_C := [(RX0, TX0, 5), (RX1, TX1, 10), (RX2, TX2, 7), (RX3, TX3, 19)]

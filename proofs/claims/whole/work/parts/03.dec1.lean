theorem dX0_init_0 : decode cX0_init 0 = .ok (.aload_n 0, 1) := by decide +kernel
theorem dX0_init_1 : decode cX0_init 1 = .ok (.invokespecial 3, 3) := by decide +kernel
theorem dX0_init_4 : decode cX0_init 4 = .ok (.aload_n 0, 1) := by decide +kernel
theorem dX0_init_5 : decode cX0_init 5 = .ok (.bipush 26, 2) := by decide +kernel
theorem dX0_init_7 : decode cX0_init 7 = .ok (.newarray .int, 2) := by decide +kernel
theorem dX0_init_9 : decode cX0_init 9 = .ok (.putfield 11, 3) := by decide +kernel
theorem dX0_init_12 : decode cX0_init 12 = .ok (.aload_n 0, 1) := by decide +kernel
theorem dX0_init_13 : decode cX0_init 13 = .ok (.iconst 1, 1) := by decide +kernel
theorem dX0_init_14 : decode cX0_init 14 = .ok (.putfield 15, 3) := by decide +kernel
theorem dX0_init_17 : decode cX0_init 17 = .ok (.return_, 1) := by decide +kernel
theorem dX0_become_0 : decode cX0_become 0 = .ok (.aload_n 0, 1) := by decide +kernel
theorem dX0_become_1 : decode cX0_become 1 = .ok (.getfield 11, 3) := by decide +kernel
theorem dX0_become_4 : decode cX0_become 4 = .ok (.iconst 0, 1) := by decide +kernel
theorem dX0_become_5 : decode cX0_become 5 = .ok (.iload_n 1, 1) := by decide +kernel
theorem dX0_become_6 : decode cX0_become 6 = .ok (.iastore, 1) := by decide +kernel
theorem dX0_become_7 : decode cX0_become 7 = .ok (.aload_n 0, 1) := by decide +kernel
theorem dX0_become_8 : decode cX0_become 8 = .ok (.iconst 1, 1) := by decide +kernel
theorem dX0_become_9 : decode cX0_become 9 = .ok (.putfield 15, 3) := by decide +kernel
theorem dX0_become_12 : decode cX0_become 12 = .ok (.return_, 1) := by decide +kernel
theorem dX0_multiply_0 : decode cX0_multiply 0 = .ok (.iconst 0, 1) := by decide +kernel
theorem dX0_multiply_1 : decode cX0_multiply 1 = .ok (.istore_n 2, 1) := by decide +kernel
theorem dX0_multiply_2 : decode cX0_multiply 2 = .ok (.iconst 0, 1) := by decide +kernel
theorem dX0_multiply_3 : decode cX0_multiply 3 = .ok (.istore_n 3, 1) := by decide +kernel
theorem dX0_multiply_4 : decode cX0_multiply 4 = .ok (.iload_n 3, 1) := by decide +kernel
theorem dX0_multiply_5 : decode cX0_multiply 5 = .ok (.aload_n 0, 1) := by decide +kernel
theorem dX0_multiply_6 : decode cX0_multiply 6 = .ok (.getfield 15, 3) := by decide +kernel
theorem dX0_multiply_9 : decode cX0_multiply 9 = .ok (.if_icmp .ge 38, 3) := by decide +kernel
theorem dX0_multiply_12 : decode cX0_multiply 12 = .ok (.aload_n 0, 1) := by decide +kernel
theorem dX0_multiply_13 : decode cX0_multiply 13 = .ok (.getfield 11, 3) := by decide +kernel
theorem dX0_multiply_16 : decode cX0_multiply 16 = .ok (.iload_n 3, 1) := by decide +kernel
theorem dX0_multiply_17 : decode cX0_multiply 17 = .ok (.iaload, 1) := by decide +kernel
theorem dX0_multiply_18 : decode cX0_multiply 18 = .ok (.iload_n 1, 1) := by decide +kernel
theorem dX0_multiply_19 : decode cX0_multiply 19 = .ok (.imul, 1) := by decide +kernel
theorem dX0_multiply_20 : decode cX0_multiply 20 = .ok (.iload_n 2, 1) := by decide +kernel
theorem dX0_multiply_21 : decode cX0_multiply 21 = .ok (.iadd, 1) := by decide +kernel
theorem dX0_multiply_22 : decode cX0_multiply 22 = .ok (.istore 4, 2) := by decide +kernel
theorem dX0_multiply_24 : decode cX0_multiply 24 = .ok (.aload_n 0, 1) := by decide +kernel
theorem dX0_multiply_25 : decode cX0_multiply 25 = .ok (.getfield 11, 3) := by decide +kernel
theorem dX0_multiply_28 : decode cX0_multiply 28 = .ok (.iload_n 3, 1) := by decide +kernel
theorem dX0_multiply_29 : decode cX0_multiply 29 = .ok (.iload 4, 2) := by decide +kernel
theorem dX0_multiply_31 : decode cX0_multiply 31 = .ok (.bipush 10, 2) := by decide +kernel
theorem dX0_multiply_33 : decode cX0_multiply 33 = .ok (.irem, 1) := by decide +kernel
theorem dX0_multiply_34 : decode cX0_multiply 34 = .ok (.iastore, 1) := by decide +kernel
theorem dX0_multiply_35 : decode cX0_multiply 35 = .ok (.iload 4, 2) := by decide +kernel
theorem dX0_multiply_37 : decode cX0_multiply 37 = .ok (.bipush 10, 2) := by decide +kernel
theorem dX0_multiply_39 : decode cX0_multiply 39 = .ok (.idiv, 1) := by decide +kernel
theorem dX0_multiply_40 : decode cX0_multiply 40 = .ok (.istore_n 2, 1) := by decide +kernel
theorem dX0_multiply_41 : decode cX0_multiply 41 = .ok (.iinc 3 1, 3) := by decide +kernel
theorem dX0_multiply_44 : decode cX0_multiply 44 = .ok (.goto (-40), 3) := by decide +kernel
theorem dX0_multiply_47 : decode cX0_multiply 47 = .ok (.iload_n 2, 1) := by decide +kernel
theorem dX0_multiply_48 : decode cX0_multiply 48 = .ok (.ifCond .le 32, 3) := by decide +kernel
theorem dX0_multiply_51 : decode cX0_multiply 51 = .ok (.aload_n 0, 1) := by decide +kernel
theorem dX0_multiply_52 : decode cX0_multiply 52 = .ok (.getfield 15, 3) := by decide +kernel
theorem dX0_multiply_55 : decode cX0_multiply 55 = .ok (.bipush 26, 2) := by decide +kernel
theorem dX0_multiply_57 : decode cX0_multiply 57 = .ok (.if_icmp .ge 23, 3) := by decide +kernel
theorem dX0_multiply_60 : decode cX0_multiply 60 = .ok (.aload_n 0, 1) := by decide +kernel
theorem dX0_multiply_61 : decode cX0_multiply 61 = .ok (.getfield 11, 3) := by decide +kernel
theorem dX0_multiply_64 : decode cX0_multiply 64 = .ok (.aload_n 0, 1) := by decide +kernel
theorem dX0_multiply_65 : decode cX0_multiply 65 = .ok (.getfield 15, 3) := by decide +kernel
theorem dX0_multiply_68 : decode cX0_multiply 68 = .ok (.iload_n 2, 1) := by decide +kernel
theorem dX0_multiply_69 : decode cX0_multiply 69 = .ok (.iastore, 1) := by decide +kernel
theorem dX0_multiply_70 : decode cX0_multiply 70 = .ok (.aload_n 0, 1) := by decide +kernel
theorem dX0_multiply_71 : decode cX0_multiply 71 = .ok (.dup, 1) := by decide +kernel
theorem dX0_multiply_72 : decode cX0_multiply 72 = .ok (.getfield 15, 3) := by decide +kernel
theorem dX0_multiply_75 : decode cX0_multiply 75 = .ok (.iconst 1, 1) := by decide +kernel
theorem dX0_multiply_76 : decode cX0_multiply 76 = .ok (.iadd, 1) := by decide +kernel
theorem dX0_multiply_77 : decode cX0_multiply 77 = .ok (.putfield 15, 3) := by decide +kernel
theorem dX0_multiply_80 : decode cX0_multiply 80 = .ok (.return_, 1) := by decide +kernel
theorem dX0_digit_0 : decode cX0_digit 0 = .ok (.iload_n 1, 1) := by decide +kernel
theorem dX0_digit_1 : decode cX0_digit 1 = .ok (.ifCond .lt 11, 3) := by decide +kernel
theorem dX0_digit_4 : decode cX0_digit 4 = .ok (.iload_n 1, 1) := by decide +kernel
theorem dX0_digit_5 : decode cX0_digit 5 = .ok (.aload_n 0, 1) := by decide +kernel
theorem dX0_digit_6 : decode cX0_digit 6 = .ok (.getfield 15, 3) := by decide +kernel
theorem dX0_digit_9 : decode cX0_digit 9 = .ok (.if_icmp .lt 7, 3) := by decide +kernel
theorem dX0_digit_12 : decode cX0_digit 12 = .ok (.iconst (-1), 1) := by decide +kernel
theorem dX0_digit_13 : decode cX0_digit 13 = .ok (.goto 9, 3) := by decide +kernel
theorem dX0_digit_16 : decode cX0_digit 16 = .ok (.aload_n 0, 1) := by decide +kernel
theorem dX0_digit_17 : decode cX0_digit 17 = .ok (.getfield 11, 3) := by decide +kernel
theorem dX0_digit_20 : decode cX0_digit 20 = .ok (.iload_n 1, 1) := by decide +kernel
theorem dX0_digit_21 : decode cX0_digit 21 = .ok (.iaload, 1) := by decide +kernel
theorem dX0_digit_22 : decode cX0_digit 22 = .ok (.ireturn, 1) := by decide +kernel
theorem dX1_init_0 : decode cX1_init 0 = .ok (.aload_n 0, 1) := by decide +kernel
theorem dX1_init_1 : decode cX1_init 1 = .ok (.invokespecial 3, 3) := by decide +kernel
theorem dX1_init_4 : decode cX1_init 4 = .ok (.aload_n 0, 1) := by decide +kernel
theorem dX1_init_5 : decode cX1_init 5 = .ok (.iload_n 1, 1) := by decide +kernel
theorem dX1_init_6 : decode cX1_init 6 = .ok (.putfield 9, 3) := by decide +kernel
theorem dX1_init_9 : decode cX1_init 9 = .ok (.aload_n 0, 1) := by decide +kernel
theorem dX1_init_10 : decode cX1_init 10 = .ok (.iload_n 2, 1) := by decide +kernel
theorem dX1_init_11 : decode cX1_init 11 = .ok (.putfield 15, 3) := by decide +kernel
theorem dX1_init_14 : decode cX1_init 14 = .ok (.aload_n 0, 1) := by decide +kernel
theorem dX1_init_15 : decode cX1_init 15 = .ok (.iload_n 1, 1) := by decide +kernel
theorem dX1_init_16 : decode cX1_init 16 = .ok (.iload_n 1, 1) := by decide +kernel
theorem dX1_init_17 : decode cX1_init 17 = .ok (.iconst 1, 1) := by decide +kernel
theorem dX1_init_18 : decode cX1_init 18 = .ok (.iadd, 1) := by decide +kernel
theorem dX1_init_19 : decode cX1_init 19 = .ok (.multianewarray 18 2, 4) := by decide +kernel
theorem dX1_init_23 : decode cX1_init 23 = .ok (.putfield 20, 3) := by decide +kernel
theorem dX1_init_26 : decode cX1_init 26 = .ok (.aload_n 0, 1) := by decide +kernel
theorem dX1_init_27 : decode cX1_init 27 = .ok (.iload_n 1, 1) := by decide +kernel
theorem dX1_init_28 : decode cX1_init 28 = .ok (.newarray .int, 2) := by decide +kernel
theorem dX1_init_30 : decode cX1_init 30 = .ok (.putfield 23, 3) := by decide +kernel
theorem dX1_init_33 : decode cX1_init 33 = .ok (.aload_n 0, 1) := by decide +kernel
theorem dX1_init_34 : decode cX1_init 34 = .ok (.iload_n 1, 1) := by decide +kernel
theorem dX1_init_35 : decode cX1_init 35 = .ok (.iload_n 1, 1) := by decide +kernel
theorem dX1_init_36 : decode cX1_init 36 = .ok (.multianewarray 18 2, 4) := by decide +kernel
theorem dX1_init_40 : decode cX1_init 40 = .ok (.putfield 27, 3) := by decide +kernel
theorem dX1_init_43 : decode cX1_init 43 = .ok (.aload_n 0, 1) := by decide +kernel
theorem dX1_init_44 : decode cX1_init 44 = .ok (.iconst 0, 1) := by decide +kernel
theorem dX1_init_45 : decode cX1_init 45 = .ok (.putfield 30, 3) := by decide +kernel
theorem dX1_init_48 : decode cX1_init 48 = .ok (.aload_n 0, 1) := by decide +kernel
theorem dX1_init_49 : decode cX1_init 49 = .ok (.iconst 0, 1) := by decide +kernel
theorem dX1_init_50 : decode cX1_init 50 = .ok (.putfield 33, 3) := by decide +kernel
theorem dX1_init_53 : decode cX1_init 53 = .ok (.return_, 1) := by decide +kernel
theorem dX1_take_0 : decode cX1_take 0 = .ok (.iconst 0, 1) := by decide +kernel
theorem dX1_take_1 : decode cX1_take 1 = .ok (.istore 4, 2) := by decide +kernel
theorem dX1_take_3 : decode cX1_take 3 = .ok (.iload 4, 2) := by decide +kernel
theorem dX1_take_5 : decode cX1_take 5 = .ok (.aload_n 0, 1) := by decide +kernel
theorem dX1_take_6 : decode cX1_take 6 = .ok (.getfield 9, 3) := by decide +kernel
theorem dX1_take_9 : decode cX1_take 9 = .ok (.if_icmp .ge 76, 3) := by decide +kernel
theorem dX1_take_12 : decode cX1_take 12 = .ok (.aload_n 0, 1) := by decide +kernel
theorem dX1_take_13 : decode cX1_take 13 = .ok (.getfield 20, 3) := by decide +kernel
theorem dX1_take_16 : decode cX1_take 16 = .ok (.iload 4, 2) := by decide +kernel
theorem dX1_take_18 : decode cX1_take 18 = .ok (.aaload, 1) := by decide +kernel
theorem dX1_take_19 : decode cX1_take 19 = .ok (.astore 5, 2) := by decide +kernel
theorem dX1_take_21 : decode cX1_take 21 = .ok (.iconst 0, 1) := by decide +kernel
theorem dX1_take_22 : decode cX1_take 22 = .ok (.istore 6, 2) := by decide +kernel
theorem dX1_take_24 : decode cX1_take 24 = .ok (.iload 6, 2) := by decide +kernel
theorem dX1_take_26 : decode cX1_take 26 = .ok (.aload_n 0, 1) := by decide +kernel
theorem dX1_take_27 : decode cX1_take 27 = .ok (.getfield 9, 3) := by decide +kernel
theorem dX1_take_30 : decode cX1_take 30 = .ok (.if_icmp .ge 23, 3) := by decide +kernel
theorem dX1_take_33 : decode cX1_take 33 = .ok (.aload 5, 2) := by decide +kernel
theorem dX1_take_35 : decode cX1_take 35 = .ok (.iload 6, 2) := by decide +kernel
theorem dX1_take_37 : decode cX1_take 37 = .ok (.aload_n 1, 1) := by decide +kernel
theorem dX1_take_38 : decode cX1_take 38 = .ok (.iload 6, 2) := by decide +kernel
theorem dX1_take_40 : decode cX1_take 40 = .ok (.iaload, 1) := by decide +kernel
theorem dX1_take_41 : decode cX1_take 41 = .ok (.iload 4, 2) := by decide +kernel
theorem dX1_take_43 : decode cX1_take 43 = .ok (.ishr, 1) := by decide +kernel
theorem dX1_take_44 : decode cX1_take 44 = .ok (.iconst 1, 1) := by decide +kernel
theorem dX1_take_45 : decode cX1_take 45 = .ok (.iand, 1) := by decide +kernel
theorem dX1_take_46 : decode cX1_take 46 = .ok (.iastore, 1) := by decide +kernel
theorem dX1_take_47 : decode cX1_take 47 = .ok (.iinc 6 1, 3) := by decide +kernel
theorem dX1_take_50 : decode cX1_take 50 = .ok (.goto (-26), 3) := by decide +kernel
theorem dX1_take_53 : decode cX1_take 53 = .ok (.aload 5, 2) := by decide +kernel
theorem dX1_take_55 : decode cX1_take 55 = .ok (.aload_n 0, 1) := by decide +kernel
theorem dX1_take_56 : decode cX1_take 56 = .ok (.getfield 9, 3) := by decide +kernel
theorem dX1_take_59 : decode cX1_take 59 = .ok (.aload_n 3, 1) := by decide +kernel
theorem dX1_take_60 : decode cX1_take 60 = .ok (.iload 4, 2) := by decide +kernel
theorem dX1_take_62 : decode cX1_take 62 = .ok (.iaload, 1) := by decide +kernel
theorem dX1_take_63 : decode cX1_take 63 = .ok (.aload_n 2, 1) := by decide +kernel
theorem dX1_take_64 : decode cX1_take 64 = .ok (.iload 4, 2) := by decide +kernel
theorem dX1_take_66 : decode cX1_take 66 = .ok (.iaload, 1) := by decide +kernel
theorem dX1_take_67 : decode cX1_take 67 = .ok (.isub, 1) := by decide +kernel
theorem dX1_take_68 : decode cX1_take 68 = .ok (.aload_n 0, 1) := by decide +kernel
theorem dX1_take_69 : decode cX1_take 69 = .ok (.getfield 15, 3) := by decide +kernel
theorem dX1_take_72 : decode cX1_take 72 = .ok (.iadd, 1) := by decide +kernel
theorem dX1_take_73 : decode cX1_take 73 = .ok (.aload_n 0, 1) := by decide +kernel
theorem dX1_take_74 : decode cX1_take 74 = .ok (.getfield 15, 3) := by decide +kernel
theorem dX1_take_77 : decode cX1_take 77 = .ok (.irem, 1) := by decide +kernel
theorem dX1_take_78 : decode cX1_take 78 = .ok (.iastore, 1) := by decide +kernel
theorem dX1_take_79 : decode cX1_take 79 = .ok (.iinc 4 1, 3) := by decide +kernel
theorem dX1_take_82 : decode cX1_take 82 = .ok (.goto (-79), 3) := by decide +kernel
theorem dX1_take_85 : decode cX1_take 85 = .ok (.return_, 1) := by decide +kernel
theorem dX1_reduce_0 : decode cX1_reduce 0 = .ok (.aload_n 0, 1) := by decide +kernel
theorem dX1_reduce_1 : decode cX1_reduce 1 = .ok (.iconst 0, 1) := by decide +kernel
theorem dX1_reduce_2 : decode cX1_reduce 2 = .ok (.putfield 30, 3) := by decide +kernel
theorem dX1_reduce_5 : decode cX1_reduce 5 = .ok (.iconst 0, 1) := by decide +kernel
theorem dX1_reduce_6 : decode cX1_reduce 6 = .ok (.istore_n 1, 1) := by decide +kernel
theorem dX1_reduce_7 : decode cX1_reduce 7 = .ok (.iload_n 1, 1) := by decide +kernel
theorem dX1_reduce_8 : decode cX1_reduce 8 = .ok (.aload_n 0, 1) := by decide +kernel
theorem dX1_reduce_9 : decode cX1_reduce 9 = .ok (.getfield 9, 3) := by decide +kernel
theorem dX1_reduce_12 : decode cX1_reduce 12 = .ok (.if_icmp .ge 81, 3) := by decide +kernel
theorem dX1_reduce_15 : decode cX1_reduce 15 = .ok (.aload_n 0, 1) := by decide +kernel
theorem dX1_reduce_16 : decode cX1_reduce 16 = .ok (.iload_n 1, 1) := by decide +kernel
theorem dX1_reduce_17 : decode cX1_reduce 17 = .ok (.invokevirtual 36, 3) := by decide +kernel
theorem dX1_reduce_20 : decode cX1_reduce 20 = .ok (.istore_n 2, 1) := by decide +kernel
theorem dX1_reduce_21 : decode cX1_reduce 21 = .ok (.aload_n 0, 1) := by decide +kernel
theorem dX1_reduce_22 : decode cX1_reduce 22 = .ok (.getfield 23, 3) := by decide +kernel
theorem dX1_reduce_25 : decode cX1_reduce 25 = .ok (.iload_n 1, 1) := by decide +kernel
theorem dX1_reduce_26 : decode cX1_reduce 26 = .ok (.iload_n 2, 1) := by decide +kernel
theorem dX1_reduce_27 : decode cX1_reduce 27 = .ok (.iconst (-1), 1) := by decide +kernel
theorem dX1_reduce_28 : decode cX1_reduce 28 = .ok (.if_icmp .ne 7, 3) := by decide +kernel
theorem dX1_reduce_31 : decode cX1_reduce 31 = .ok (.iconst (-1), 1) := by decide +kernel
theorem dX1_reduce_32 : decode cX1_reduce 32 = .ok (.goto 7, 3) := by decide +kernel
theorem dX1_reduce_35 : decode cX1_reduce 35 = .ok (.aload_n 0, 1) := by decide +kernel
theorem dX1_reduce_36 : decode cX1_reduce 36 = .ok (.getfield 30, 3) := by decide +kernel
theorem dX1_reduce_39 : decode cX1_reduce 39 = .ok (.iastore, 1) := by decide +kernel
theorem dX1_reduce_40 : decode cX1_reduce 40 = .ok (.iload_n 2, 1) := by decide +kernel
theorem dX1_reduce_41 : decode cX1_reduce 41 = .ok (.iconst (-1), 1) := by decide +kernel
theorem dX1_reduce_42 : decode cX1_reduce 42 = .ok (.if_icmp .eq 45, 3) := by decide +kernel
theorem dX1_reduce_45 : decode cX1_reduce 45 = .ok (.aload_n 0, 1) := by decide +kernel
theorem dX1_reduce_46 : decode cX1_reduce 46 = .ok (.iload_n 2, 1) := by decide +kernel
theorem dX1_reduce_47 : decode cX1_reduce 47 = .ok (.aload_n 0, 1) := by decide +kernel
theorem dX1_reduce_48 : decode cX1_reduce 48 = .ok (.getfield 30, 3) := by decide +kernel
theorem dX1_reduce_51 : decode cX1_reduce 51 = .ok (.invokevirtual 40, 3) := by decide +kernel
theorem dX1_reduce_54 : decode cX1_reduce 54 = .ok (.aload_n 0, 1) := by decide +kernel
theorem dX1_reduce_55 : decode cX1_reduce 55 = .ok (.aload_n 0, 1) := by decide +kernel
theorem dX1_reduce_56 : decode cX1_reduce 56 = .ok (.getfield 20, 3) := by decide +kernel
theorem dX1_reduce_59 : decode cX1_reduce 59 = .ok (.aload_n 0, 1) := by decide +kernel
theorem dX1_reduce_60 : decode cX1_reduce 60 = .ok (.getfield 30, 3) := by decide +kernel
theorem dX1_reduce_63 : decode cX1_reduce 63 = .ok (.aaload, 1) := by decide +kernel
theorem dX1_reduce_64 : decode cX1_reduce 64 = .ok (.iload_n 1, 1) := by decide +kernel
theorem dX1_reduce_65 : decode cX1_reduce 65 = .ok (.invokevirtual 44, 3) := by decide +kernel
theorem dX1_reduce_68 : decode cX1_reduce 68 = .ok (.aload_n 0, 1) := by decide +kernel
theorem dX1_reduce_69 : decode cX1_reduce 69 = .ok (.aload_n 0, 1) := by decide +kernel
theorem dX1_reduce_70 : decode cX1_reduce 70 = .ok (.getfield 30, 3) := by decide +kernel
theorem dX1_reduce_73 : decode cX1_reduce 73 = .ok (.iload_n 1, 1) := by decide +kernel
theorem dX1_reduce_74 : decode cX1_reduce 74 = .ok (.invokevirtual 48, 3) := by decide +kernel
theorem dX1_reduce_77 : decode cX1_reduce 77 = .ok (.aload_n 0, 1) := by decide +kernel
theorem dX1_reduce_78 : decode cX1_reduce 78 = .ok (.dup, 1) := by decide +kernel
theorem dX1_reduce_79 : decode cX1_reduce 79 = .ok (.getfield 30, 3) := by decide +kernel
theorem dX1_reduce_82 : decode cX1_reduce 82 = .ok (.iconst 1, 1) := by decide +kernel
theorem dX1_reduce_83 : decode cX1_reduce 83 = .ok (.iadd, 1) := by decide +kernel
theorem dX1_reduce_84 : decode cX1_reduce 84 = .ok (.putfield 30, 3) := by decide +kernel
theorem dX1_reduce_87 : decode cX1_reduce 87 = .ok (.iinc 1 1, 3) := by decide +kernel
theorem dX1_reduce_90 : decode cX1_reduce 90 = .ok (.goto (-83), 3) := by decide +kernel
theorem dX1_reduce_93 : decode cX1_reduce 93 = .ok (.aload_n 0, 1) := by decide +kernel
theorem dX1_reduce_94 : decode cX1_reduce 94 = .ok (.invokevirtual 51, 3) := by decide +kernel
theorem dX1_reduce_97 : decode cX1_reduce 97 = .ok (.return_, 1) := by decide +kernel
theorem dX1_boundLamps_0 : decode cX1_boundLamps 0 = .ok (.aload_n 0, 1) := by decide +kernel
theorem dX1_boundLamps_1 : decode cX1_boundLamps 1 = .ok (.getfield 30, 3) := by decide +kernel
theorem dX1_boundLamps_4 : decode cX1_boundLamps 4 = .ok (.ireturn, 1) := by decide +kernel
theorem dX1_freeLamps_0 : decode cX1_freeLamps 0 = .ok (.aload_n 0, 1) := by decide +kernel
theorem dX1_freeLamps_1 : decode cX1_freeLamps 1 = .ok (.getfield 33, 3) := by decide +kernel
theorem dX1_freeLamps_4 : decode cX1_freeLamps 4 = .ok (.ireturn, 1) := by decide +kernel
theorem dX1_agree_0 : decode cX1_agree 0 = .ok (.aload_n 0, 1) := by decide +kernel
theorem dX1_agree_1 : decode cX1_agree 1 = .ok (.getfield 30, 3) := by decide +kernel
theorem dX1_agree_4 : decode cX1_agree 4 = .ok (.istore_n 1, 1) := by decide +kernel
theorem dX1_agree_5 : decode cX1_agree 5 = .ok (.iload_n 1, 1) := by decide +kernel
theorem dX1_agree_6 : decode cX1_agree 6 = .ok (.aload_n 0, 1) := by decide +kernel
theorem dX1_agree_7 : decode cX1_agree 7 = .ok (.getfield 9, 3) := by decide +kernel
theorem dX1_agree_10 : decode cX1_agree 10 = .ok (.if_icmp .ge 25, 3) := by decide +kernel
theorem dX1_agree_13 : decode cX1_agree 13 = .ok (.aload_n 0, 1) := by decide +kernel
theorem dX1_agree_14 : decode cX1_agree 14 = .ok (.getfield 20, 3) := by decide +kernel
theorem dX1_agree_17 : decode cX1_agree 17 = .ok (.iload_n 1, 1) := by decide +kernel
theorem dX1_agree_18 : decode cX1_agree 18 = .ok (.aaload, 1) := by decide +kernel
theorem dX1_agree_19 : decode cX1_agree 19 = .ok (.aload_n 0, 1) := by decide +kernel
theorem dX1_agree_20 : decode cX1_agree 20 = .ok (.getfield 9, 3) := by decide +kernel
theorem dX1_agree_23 : decode cX1_agree 23 = .ok (.iaload, 1) := by decide +kernel
theorem dX1_agree_24 : decode cX1_agree 24 = .ok (.ifCond .eq 5, 3) := by decide +kernel
theorem dX1_agree_27 : decode cX1_agree 27 = .ok (.iconst 0, 1) := by decide +kernel
theorem dX1_agree_28 : decode cX1_agree 28 = .ok (.ireturn, 1) := by decide +kernel
theorem dX1_agree_29 : decode cX1_agree 29 = .ok (.iinc 1 1, 3) := by decide +kernel
theorem dX1_agree_32 : decode cX1_agree 32 = .ok (.goto (-27), 3) := by decide +kernel
theorem dX1_agree_35 : decode cX1_agree 35 = .ok (.iconst 1, 1) := by decide +kernel
theorem dX1_agree_36 : decode cX1_agree 36 = .ok (.ireturn, 1) := by decide +kernel
theorem dX1_pressesOf_0 : decode cX1_pressesOf 0 = .ok (.aload_n 0, 1) := by decide +kernel
theorem dX1_pressesOf_1 : decode cX1_pressesOf 1 = .ok (.getfield 23, 3) := by decide +kernel
theorem dX1_pressesOf_4 : decode cX1_pressesOf 4 = .ok (.iload_n 1, 1) := by decide +kernel
theorem dX1_pressesOf_5 : decode cX1_pressesOf 5 = .ok (.iaload, 1) := by decide +kernel
theorem dX1_pressesOf_6 : decode cX1_pressesOf 6 = .ok (.istore_n 2, 1) := by decide +kernel
theorem dX1_pressesOf_7 : decode cX1_pressesOf 7 = .ok (.iload_n 2, 1) := by decide +kernel
theorem dX1_pressesOf_8 : decode cX1_pressesOf 8 = .ok (.iconst (-1), 1) := by decide +kernel
theorem dX1_pressesOf_9 : decode cX1_pressesOf 9 = .ok (.if_icmp .ne 7, 3) := by decide +kernel
theorem dX1_pressesOf_12 : decode cX1_pressesOf 12 = .ok (.iconst 0, 1) := by decide +kernel
theorem dX1_pressesOf_13 : decode cX1_pressesOf 13 = .ok (.goto 14, 3) := by decide +kernel
theorem dX1_pressesOf_16 : decode cX1_pressesOf 16 = .ok (.aload_n 0, 1) := by decide +kernel
theorem dX1_pressesOf_17 : decode cX1_pressesOf 17 = .ok (.getfield 20, 3) := by decide +kernel
theorem dX1_pressesOf_20 : decode cX1_pressesOf 20 = .ok (.iload_n 2, 1) := by decide +kernel
theorem dX1_pressesOf_21 : decode cX1_pressesOf 21 = .ok (.aaload, 1) := by decide +kernel
theorem dX1_pressesOf_22 : decode cX1_pressesOf 22 = .ok (.aload_n 0, 1) := by decide +kernel
theorem dX1_pressesOf_23 : decode cX1_pressesOf 23 = .ok (.getfield 9, 3) := by decide +kernel
theorem dX1_pressesOf_26 : decode cX1_pressesOf 26 = .ok (.iaload, 1) := by decide +kernel
theorem dX1_pressesOf_27 : decode cX1_pressesOf 27 = .ok (.ireturn, 1) := by decide +kernel
theorem dX1_quietPattern_0 : decode cX1_quietPattern 0 = .ok (.aload_n 0, 1) := by decide +kernel
theorem dX1_quietPattern_1 : decode cX1_quietPattern 1 = .ok (.getfield 27, 3) := by decide +kernel
theorem dX1_quietPattern_4 : decode cX1_quietPattern 4 = .ok (.iload_n 1, 1) := by decide +kernel
theorem dX1_quietPattern_5 : decode cX1_quietPattern 5 = .ok (.aaload, 1) := by decide +kernel
theorem dX1_quietPattern_6 : decode cX1_quietPattern 6 = .ok (.areturn, 1) := by decide +kernel
theorem dX1_answersUpTo_0 : decode cX1_answersUpTo 0 = .ok (.aload_n 0, 1) := by decide +kernel
theorem dX1_answersUpTo_1 : decode cX1_answersUpTo 1 = .ok (.invokevirtual 54, 3) := by decide +kernel
theorem dX1_answersUpTo_4 : decode cX1_answersUpTo 4 = .ok (.ifCond .ne 5, 3) := by decide +kernel
theorem dX1_answersUpTo_7 : decode cX1_answersUpTo 7 = .ok (.iconst 0, 1) := by decide +kernel
theorem dX1_answersUpTo_8 : decode cX1_answersUpTo 8 = .ok (.ireturn, 1) := by decide +kernel
theorem dX1_answersUpTo_9 : decode cX1_answersUpTo 9 = .ok (.iconst 1, 1) := by decide +kernel
theorem dX1_answersUpTo_10 : decode cX1_answersUpTo 10 = .ok (.istore_n 2, 1) := by decide +kernel
theorem dX1_answersUpTo_11 : decode cX1_answersUpTo 11 = .ok (.iconst 0, 1) := by decide +kernel
theorem dX1_answersUpTo_12 : decode cX1_answersUpTo 12 = .ok (.istore_n 3, 1) := by decide +kernel
theorem dX1_answersUpTo_13 : decode cX1_answersUpTo 13 = .ok (.iload_n 3, 1) := by decide +kernel
theorem dX1_answersUpTo_14 : decode cX1_answersUpTo 14 = .ok (.aload_n 0, 1) := by decide +kernel
theorem dX1_answersUpTo_15 : decode cX1_answersUpTo 15 = .ok (.getfield 33, 3) := by decide +kernel
theorem dX1_answersUpTo_18 : decode cX1_answersUpTo 18 = .ok (.if_icmp .ge 21, 3) := by decide +kernel
theorem dX1_answersUpTo_21 : decode cX1_answersUpTo 21 = .ok (.iload_n 2, 1) := by decide +kernel
theorem dX1_answersUpTo_22 : decode cX1_answersUpTo 22 = .ok (.iload_n 1, 1) := by decide +kernel
theorem dX1_answersUpTo_23 : decode cX1_answersUpTo 23 = .ok (.if_icmp .gt 16, 3) := by decide +kernel
theorem dX1_answersUpTo_26 : decode cX1_answersUpTo 26 = .ok (.iload_n 2, 1) := by decide +kernel
theorem dX1_answersUpTo_27 : decode cX1_answersUpTo 27 = .ok (.aload_n 0, 1) := by decide +kernel
theorem dX1_answersUpTo_28 : decode cX1_answersUpTo 28 = .ok (.getfield 15, 3) := by decide +kernel
theorem dX1_answersUpTo_31 : decode cX1_answersUpTo 31 = .ok (.imul, 1) := by decide +kernel
theorem dX1_answersUpTo_32 : decode cX1_answersUpTo 32 = .ok (.istore_n 2, 1) := by decide +kernel
theorem dX1_answersUpTo_33 : decode cX1_answersUpTo 33 = .ok (.iinc 3 1, 3) := by decide +kernel
theorem dX1_answersUpTo_36 : decode cX1_answersUpTo 36 = .ok (.goto (-23), 3) := by decide +kernel
theorem dX1_answersUpTo_39 : decode cX1_answersUpTo 39 = .ok (.iload_n 2, 1) := by decide +kernel
theorem dX1_answersUpTo_40 : decode cX1_answersUpTo 40 = .ok (.ireturn, 1) := by decide +kernel
theorem dX1_unusedRowWith_0 : decode cX1_unusedRowWith 0 = .ok (.aload_n 0, 1) := by decide +kernel
theorem dX1_unusedRowWith_1 : decode cX1_unusedRowWith 1 = .ok (.getfield 30, 3) := by decide +kernel
theorem dX1_unusedRowWith_4 : decode cX1_unusedRowWith 4 = .ok (.istore_n 2, 1) := by decide +kernel
theorem dX1_unusedRowWith_5 : decode cX1_unusedRowWith 5 = .ok (.iload_n 2, 1) := by decide +kernel
theorem dX1_unusedRowWith_6 : decode cX1_unusedRowWith 6 = .ok (.aload_n 0, 1) := by decide +kernel
theorem dX1_unusedRowWith_7 : decode cX1_unusedRowWith 7 = .ok (.getfield 9, 3) := by decide +kernel
theorem dX1_unusedRowWith_10 : decode cX1_unusedRowWith 10 = .ok (.if_icmp .ge 22, 3) := by decide +kernel
theorem dX1_unusedRowWith_13 : decode cX1_unusedRowWith 13 = .ok (.aload_n 0, 1) := by decide +kernel
theorem dX1_unusedRowWith_14 : decode cX1_unusedRowWith 14 = .ok (.getfield 20, 3) := by decide +kernel
theorem dX1_unusedRowWith_17 : decode cX1_unusedRowWith 17 = .ok (.iload_n 2, 1) := by decide +kernel
theorem dX1_unusedRowWith_18 : decode cX1_unusedRowWith 18 = .ok (.aaload, 1) := by decide +kernel
theorem dX1_unusedRowWith_19 : decode cX1_unusedRowWith 19 = .ok (.iload_n 1, 1) := by decide +kernel
theorem dX1_unusedRowWith_20 : decode cX1_unusedRowWith 20 = .ok (.iaload, 1) := by decide +kernel
theorem dX1_unusedRowWith_21 : decode cX1_unusedRowWith 21 = .ok (.ifCond .eq 5, 3) := by decide +kernel
theorem dX1_unusedRowWith_24 : decode cX1_unusedRowWith 24 = .ok (.iload_n 2, 1) := by decide +kernel
theorem dX1_unusedRowWith_25 : decode cX1_unusedRowWith 25 = .ok (.ireturn, 1) := by decide +kernel
theorem dX1_unusedRowWith_26 : decode cX1_unusedRowWith 26 = .ok (.iinc 2 1, 3) := by decide +kernel
theorem dX1_unusedRowWith_29 : decode cX1_unusedRowWith 29 = .ok (.goto (-24), 3) := by decide +kernel
theorem dX1_unusedRowWith_32 : decode cX1_unusedRowWith 32 = .ok (.iconst (-1), 1) := by decide +kernel
theorem dX1_unusedRowWith_33 : decode cX1_unusedRowWith 33 = .ok (.ireturn, 1) := by decide +kernel
theorem dX1_swap_0 : decode cX1_swap 0 = .ok (.aload_n 0, 1) := by decide +kernel
theorem dX1_swap_1 : decode cX1_swap 1 = .ok (.getfield 20, 3) := by decide +kernel
theorem dX1_swap_4 : decode cX1_swap 4 = .ok (.iload_n 1, 1) := by decide +kernel
theorem dX1_swap_5 : decode cX1_swap 5 = .ok (.aaload, 1) := by decide +kernel
theorem dX1_swap_6 : decode cX1_swap 6 = .ok (.astore_n 3, 1) := by decide +kernel
theorem dX1_swap_7 : decode cX1_swap 7 = .ok (.aload_n 0, 1) := by decide +kernel
theorem dX1_swap_8 : decode cX1_swap 8 = .ok (.getfield 20, 3) := by decide +kernel
theorem dX1_swap_11 : decode cX1_swap 11 = .ok (.iload_n 1, 1) := by decide +kernel
theorem dX1_swap_12 : decode cX1_swap 12 = .ok (.aload_n 0, 1) := by decide +kernel
theorem dX1_swap_13 : decode cX1_swap 13 = .ok (.getfield 20, 3) := by decide +kernel
theorem dX1_swap_16 : decode cX1_swap 16 = .ok (.iload_n 2, 1) := by decide +kernel
theorem dX1_swap_17 : decode cX1_swap 17 = .ok (.aaload, 1) := by decide +kernel
theorem dX1_swap_18 : decode cX1_swap 18 = .ok (.aastore, 1) := by decide +kernel
theorem dX1_swap_19 : decode cX1_swap 19 = .ok (.aload_n 0, 1) := by decide +kernel
theorem dX1_swap_20 : decode cX1_swap 20 = .ok (.getfield 20, 3) := by decide +kernel
theorem dX1_swap_23 : decode cX1_swap 23 = .ok (.iload_n 2, 1) := by decide +kernel
theorem dX1_swap_24 : decode cX1_swap 24 = .ok (.aload_n 3, 1) := by decide +kernel
theorem dX1_swap_25 : decode cX1_swap 25 = .ok (.aastore, 1) := by decide +kernel
theorem dX1_swap_26 : decode cX1_swap 26 = .ok (.return_, 1) := by decide +kernel
theorem dX1_makeUnit_0 : decode cX1_makeUnit 0 = .ok (.aload_n 0, 1) := by decide +kernel
theorem dX1_makeUnit_1 : decode cX1_makeUnit 1 = .ok (.aload_n 1, 1) := by decide +kernel
theorem dX1_makeUnit_2 : decode cX1_makeUnit 2 = .ok (.iload_n 2, 1) := by decide +kernel
theorem dX1_makeUnit_3 : decode cX1_makeUnit 3 = .ok (.iaload, 1) := by decide +kernel
theorem dX1_makeUnit_4 : decode cX1_makeUnit 4 = .ok (.invokevirtual 58, 3) := by decide +kernel
theorem dX1_makeUnit_7 : decode cX1_makeUnit 7 = .ok (.istore_n 3, 1) := by decide +kernel
theorem dX1_makeUnit_8 : decode cX1_makeUnit 8 = .ok (.iconst 0, 1) := by decide +kernel
theorem dX1_makeUnit_9 : decode cX1_makeUnit 9 = .ok (.istore 4, 2) := by decide +kernel
theorem dX1_makeUnit_11 : decode cX1_makeUnit 11 = .ok (.iload 4, 2) := by decide +kernel
theorem dX1_makeUnit_13 : decode cX1_makeUnit 13 = .ok (.aload_n 0, 1) := by decide +kernel
theorem dX1_makeUnit_14 : decode cX1_makeUnit 14 = .ok (.getfield 9, 3) := by decide +kernel
theorem dX1_makeUnit_17 : decode cX1_makeUnit 17 = .ok (.if_icmp .gt 24, 3) := by decide +kernel
theorem dX1_makeUnit_20 : decode cX1_makeUnit 20 = .ok (.aload_n 1, 1) := by decide +kernel
theorem dX1_makeUnit_21 : decode cX1_makeUnit 21 = .ok (.iload 4, 2) := by decide +kernel
theorem dX1_makeUnit_23 : decode cX1_makeUnit 23 = .ok (.aload_n 1, 1) := by decide +kernel
theorem dX1_makeUnit_24 : decode cX1_makeUnit 24 = .ok (.iload 4, 2) := by decide +kernel
theorem dX1_makeUnit_26 : decode cX1_makeUnit 26 = .ok (.iaload, 1) := by decide +kernel
theorem dX1_makeUnit_27 : decode cX1_makeUnit 27 = .ok (.iload_n 3, 1) := by decide +kernel
theorem dX1_makeUnit_28 : decode cX1_makeUnit 28 = .ok (.imul, 1) := by decide +kernel
theorem dX1_makeUnit_29 : decode cX1_makeUnit 29 = .ok (.aload_n 0, 1) := by decide +kernel
theorem dX1_makeUnit_30 : decode cX1_makeUnit 30 = .ok (.getfield 15, 3) := by decide +kernel
theorem dX1_makeUnit_33 : decode cX1_makeUnit 33 = .ok (.irem, 1) := by decide +kernel
theorem dX1_makeUnit_34 : decode cX1_makeUnit 34 = .ok (.iastore, 1) := by decide +kernel
theorem dX1_makeUnit_35 : decode cX1_makeUnit 35 = .ok (.iinc 4 1, 3) := by decide +kernel
theorem dX1_makeUnit_38 : decode cX1_makeUnit 38 = .ok (.goto (-27), 3) := by decide +kernel
theorem dX1_makeUnit_41 : decode cX1_makeUnit 41 = .ok (.return_, 1) := by decide +kernel
theorem dX1_inverse_0 : decode cX1_inverse 0 = .ok (.iconst 2, 1) := by decide +kernel
theorem dX1_inverse_1 : decode cX1_inverse 1 = .ok (.istore_n 2, 1) := by decide +kernel
theorem dX1_inverse_2 : decode cX1_inverse 2 = .ok (.iload_n 2, 1) := by decide +kernel
theorem dX1_inverse_3 : decode cX1_inverse 3 = .ok (.aload_n 0, 1) := by decide +kernel
theorem dX1_inverse_4 : decode cX1_inverse 4 = .ok (.getfield 15, 3) := by decide +kernel
theorem dX1_inverse_7 : decode cX1_inverse 7 = .ok (.if_icmp .ge 23, 3) := by decide +kernel
theorem dX1_inverse_10 : decode cX1_inverse 10 = .ok (.iload_n 1, 1) := by decide +kernel
theorem dX1_inverse_11 : decode cX1_inverse 11 = .ok (.iload_n 2, 1) := by decide +kernel
theorem dX1_inverse_12 : decode cX1_inverse 12 = .ok (.imul, 1) := by decide +kernel
theorem dX1_inverse_13 : decode cX1_inverse 13 = .ok (.aload_n 0, 1) := by decide +kernel
theorem dX1_inverse_14 : decode cX1_inverse 14 = .ok (.getfield 15, 3) := by decide +kernel
theorem dX1_inverse_17 : decode cX1_inverse 17 = .ok (.irem, 1) := by decide +kernel
theorem dX1_inverse_18 : decode cX1_inverse 18 = .ok (.iconst 1, 1) := by decide +kernel
theorem dX1_inverse_19 : decode cX1_inverse 19 = .ok (.if_icmp .ne 5, 3) := by decide +kernel
theorem dX1_inverse_22 : decode cX1_inverse 22 = .ok (.iload_n 2, 1) := by decide +kernel
theorem dX1_inverse_23 : decode cX1_inverse 23 = .ok (.ireturn, 1) := by decide +kernel
theorem dX1_inverse_24 : decode cX1_inverse 24 = .ok (.iinc 2 1, 3) := by decide +kernel
theorem dX1_inverse_27 : decode cX1_inverse 27 = .ok (.goto (-25), 3) := by decide +kernel
theorem dX1_inverse_30 : decode cX1_inverse 30 = .ok (.iconst 1, 1) := by decide +kernel
theorem dX1_inverse_31 : decode cX1_inverse 31 = .ok (.ireturn, 1) := by decide +kernel
theorem dX1_clearElsewhere_0 : decode cX1_clearElsewhere 0 = .ok (.iconst 0, 1) := by decide +kernel
theorem dX1_clearElsewhere_1 : decode cX1_clearElsewhere 1 = .ok (.istore_n 3, 1) := by decide +kernel
theorem dX1_clearElsewhere_2 : decode cX1_clearElsewhere 2 = .ok (.iload_n 3, 1) := by decide +kernel
theorem dX1_clearElsewhere_3 : decode cX1_clearElsewhere 3 = .ok (.aload_n 0, 1) := by decide +kernel
theorem dX1_clearElsewhere_4 : decode cX1_clearElsewhere 4 = .ok (.getfield 9, 3) := by decide +kernel
theorem dX1_clearElsewhere_7 : decode cX1_clearElsewhere 7 = .ok (.if_icmp .ge 54, 3) := by decide +kernel
theorem dX1_clearElsewhere_10 : decode cX1_clearElsewhere 10 = .ok (.iload_n 3, 1) := by decide +kernel
theorem dX1_clearElsewhere_11 : decode cX1_clearElsewhere 11 = .ok (.iload_n 1, 1) := by decide +kernel
theorem dX1_clearElsewhere_12 : decode cX1_clearElsewhere 12 = .ok (.if_icmp .eq 43, 3) := by decide +kernel
theorem dX1_clearElsewhere_15 : decode cX1_clearElsewhere 15 = .ok (.aload_n 0, 1) := by decide +kernel
theorem dX1_clearElsewhere_16 : decode cX1_clearElsewhere 16 = .ok (.getfield 20, 3) := by decide +kernel
theorem dX1_clearElsewhere_19 : decode cX1_clearElsewhere 19 = .ok (.iload_n 3, 1) := by decide +kernel
theorem dX1_clearElsewhere_20 : decode cX1_clearElsewhere 20 = .ok (.aaload, 1) := by decide +kernel
theorem dX1_clearElsewhere_21 : decode cX1_clearElsewhere 21 = .ok (.iload_n 2, 1) := by decide +kernel
theorem dX1_clearElsewhere_22 : decode cX1_clearElsewhere 22 = .ok (.iaload, 1) := by decide +kernel
theorem dX1_clearElsewhere_23 : decode cX1_clearElsewhere 23 = .ok (.ifCond .eq 32, 3) := by decide +kernel
theorem dX1_clearElsewhere_26 : decode cX1_clearElsewhere 26 = .ok (.aload_n 0, 1) := by decide +kernel
theorem dX1_clearElsewhere_27 : decode cX1_clearElsewhere 27 = .ok (.aload_n 0, 1) := by decide +kernel
theorem dX1_clearElsewhere_28 : decode cX1_clearElsewhere 28 = .ok (.getfield 20, 3) := by decide +kernel
theorem dX1_clearElsewhere_31 : decode cX1_clearElsewhere 31 = .ok (.iload_n 3, 1) := by decide +kernel
theorem dX1_clearElsewhere_32 : decode cX1_clearElsewhere 32 = .ok (.aaload, 1) := by decide +kernel
theorem dX1_clearElsewhere_33 : decode cX1_clearElsewhere 33 = .ok (.aload_n 0, 1) := by decide +kernel
theorem dX1_clearElsewhere_34 : decode cX1_clearElsewhere 34 = .ok (.getfield 20, 3) := by decide +kernel
theorem dX1_clearElsewhere_37 : decode cX1_clearElsewhere 37 = .ok (.iload_n 1, 1) := by decide +kernel
theorem dX1_clearElsewhere_38 : decode cX1_clearElsewhere 38 = .ok (.aaload, 1) := by decide +kernel
theorem dX1_clearElsewhere_39 : decode cX1_clearElsewhere 39 = .ok (.aload_n 0, 1) := by decide +kernel
theorem dX1_clearElsewhere_40 : decode cX1_clearElsewhere 40 = .ok (.getfield 15, 3) := by decide +kernel
theorem dX1_clearElsewhere_43 : decode cX1_clearElsewhere 43 = .ok (.aload_n 0, 1) := by decide +kernel
theorem dX1_clearElsewhere_44 : decode cX1_clearElsewhere 44 = .ok (.getfield 20, 3) := by decide +kernel
theorem dX1_clearElsewhere_47 : decode cX1_clearElsewhere 47 = .ok (.iload_n 3, 1) := by decide +kernel
theorem dX1_clearElsewhere_48 : decode cX1_clearElsewhere 48 = .ok (.aaload, 1) := by decide +kernel
theorem dX1_clearElsewhere_49 : decode cX1_clearElsewhere 49 = .ok (.iload_n 2, 1) := by decide +kernel
theorem dX1_clearElsewhere_50 : decode cX1_clearElsewhere 50 = .ok (.iaload, 1) := by decide +kernel
theorem dX1_clearElsewhere_51 : decode cX1_clearElsewhere 51 = .ok (.isub, 1) := by decide +kernel
theorem dX1_clearElsewhere_52 : decode cX1_clearElsewhere 52 = .ok (.invokevirtual 61, 3) := by decide +kernel
theorem dX1_clearElsewhere_55 : decode cX1_clearElsewhere 55 = .ok (.iinc 3 1, 3) := by decide +kernel
theorem dX1_clearElsewhere_58 : decode cX1_clearElsewhere 58 = .ok (.goto (-56), 3) := by decide +kernel
theorem dX1_clearElsewhere_61 : decode cX1_clearElsewhere 61 = .ok (.return_, 1) := by decide +kernel
theorem dX1_addMultiple_0 : decode cX1_addMultiple 0 = .ok (.iconst 0, 1) := by decide +kernel
theorem dX1_addMultiple_1 : decode cX1_addMultiple 1 = .ok (.istore 4, 2) := by decide +kernel
theorem dX1_addMultiple_3 : decode cX1_addMultiple 3 = .ok (.iload 4, 2) := by decide +kernel
theorem dX1_addMultiple_5 : decode cX1_addMultiple 5 = .ok (.aload_n 0, 1) := by decide +kernel
theorem dX1_addMultiple_6 : decode cX1_addMultiple 6 = .ok (.getfield 9, 3) := by decide +kernel
theorem dX1_addMultiple_9 : decode cX1_addMultiple 9 = .ok (.if_icmp .gt 29, 3) := by decide +kernel
theorem dX1_addMultiple_12 : decode cX1_addMultiple 12 = .ok (.aload_n 1, 1) := by decide +kernel
theorem dX1_addMultiple_13 : decode cX1_addMultiple 13 = .ok (.iload 4, 2) := by decide +kernel
theorem dX1_addMultiple_15 : decode cX1_addMultiple 15 = .ok (.aload_n 1, 1) := by decide +kernel
theorem dX1_addMultiple_16 : decode cX1_addMultiple 16 = .ok (.iload 4, 2) := by decide +kernel
theorem dX1_addMultiple_18 : decode cX1_addMultiple 18 = .ok (.iaload, 1) := by decide +kernel
theorem dX1_addMultiple_19 : decode cX1_addMultiple 19 = .ok (.aload_n 2, 1) := by decide +kernel
theorem dX1_addMultiple_20 : decode cX1_addMultiple 20 = .ok (.iload 4, 2) := by decide +kernel
theorem dX1_addMultiple_22 : decode cX1_addMultiple 22 = .ok (.iaload, 1) := by decide +kernel
theorem dX1_addMultiple_23 : decode cX1_addMultiple 23 = .ok (.iload_n 3, 1) := by decide +kernel
theorem dX1_addMultiple_24 : decode cX1_addMultiple 24 = .ok (.imul, 1) := by decide +kernel
theorem dX1_addMultiple_25 : decode cX1_addMultiple 25 = .ok (.iadd, 1) := by decide +kernel
theorem dX1_addMultiple_26 : decode cX1_addMultiple 26 = .ok (.aload_n 0, 1) := by decide +kernel
theorem dX1_addMultiple_27 : decode cX1_addMultiple 27 = .ok (.getfield 15, 3) := by decide +kernel
theorem dX1_addMultiple_30 : decode cX1_addMultiple 30 = .ok (.irem, 1) := by decide +kernel
theorem dX1_addMultiple_31 : decode cX1_addMultiple 31 = .ok (.iastore, 1) := by decide +kernel
theorem dX1_addMultiple_32 : decode cX1_addMultiple 32 = .ok (.iinc 4 1, 3) := by decide +kernel
theorem dX1_addMultiple_35 : decode cX1_addMultiple 35 = .ok (.goto (-32), 3) := by decide +kernel
theorem dX1_addMultiple_38 : decode cX1_addMultiple 38 = .ok (.return_, 1) := by decide +kernel
theorem dX1_readQuietPatterns_0 : decode cX1_readQuietPatterns 0 = .ok (.aload_n 0, 1) := by decide +kernel
theorem dX1_readQuietPatterns_1 : decode cX1_readQuietPatterns 1 = .ok (.iconst 0, 1) := by decide +kernel
theorem dX1_readQuietPatterns_2 : decode cX1_readQuietPatterns 2 = .ok (.putfield 33, 3) := by decide +kernel
theorem dX1_readQuietPatterns_5 : decode cX1_readQuietPatterns 5 = .ok (.iconst 0, 1) := by decide +kernel
theorem dX1_readQuietPatterns_6 : decode cX1_readQuietPatterns 6 = .ok (.istore_n 1, 1) := by decide +kernel
theorem dX1_readQuietPatterns_7 : decode cX1_readQuietPatterns 7 = .ok (.iload_n 1, 1) := by decide +kernel
theorem dX1_readQuietPatterns_8 : decode cX1_readQuietPatterns 8 = .ok (.aload_n 0, 1) := by decide +kernel
theorem dX1_readQuietPatterns_9 : decode cX1_readQuietPatterns 9 = .ok (.getfield 9, 3) := by decide +kernel
theorem dX1_readQuietPatterns_12 : decode cX1_readQuietPatterns 12 = .ok (.if_icmp .ge 43, 3) := by decide +kernel
theorem dX1_readQuietPatterns_15 : decode cX1_readQuietPatterns 15 = .ok (.aload_n 0, 1) := by decide +kernel
theorem dX1_readQuietPatterns_16 : decode cX1_readQuietPatterns 16 = .ok (.getfield 23, 3) := by decide +kernel
theorem dX1_readQuietPatterns_19 : decode cX1_readQuietPatterns 19 = .ok (.iload_n 1, 1) := by decide +kernel
theorem dX1_readQuietPatterns_20 : decode cX1_readQuietPatterns 20 = .ok (.iaload, 1) := by decide +kernel
theorem dX1_readQuietPatterns_21 : decode cX1_readQuietPatterns 21 = .ok (.iconst (-1), 1) := by decide +kernel
theorem dX1_readQuietPatterns_22 : decode cX1_readQuietPatterns 22 = .ok (.if_icmp .ne 27, 3) := by decide +kernel
theorem dX1_readQuietPatterns_25 : decode cX1_readQuietPatterns 25 = .ok (.aload_n 0, 1) := by decide +kernel
theorem dX1_readQuietPatterns_26 : decode cX1_readQuietPatterns 26 = .ok (.aload_n 0, 1) := by decide +kernel
theorem dX1_readQuietPatterns_27 : decode cX1_readQuietPatterns 27 = .ok (.getfield 27, 3) := by decide +kernel
theorem dX1_readQuietPatterns_30 : decode cX1_readQuietPatterns 30 = .ok (.aload_n 0, 1) := by decide +kernel
theorem dX1_readQuietPatterns_31 : decode cX1_readQuietPatterns 31 = .ok (.getfield 33, 3) := by decide +kernel
theorem dX1_readQuietPatterns_34 : decode cX1_readQuietPatterns 34 = .ok (.aaload, 1) := by decide +kernel
theorem dX1_readQuietPatterns_35 : decode cX1_readQuietPatterns 35 = .ok (.iload_n 1, 1) := by decide +kernel
theorem dX1_readQuietPatterns_36 : decode cX1_readQuietPatterns 36 = .ok (.invokevirtual 65, 3) := by decide +kernel
theorem dX1_readQuietPatterns_39 : decode cX1_readQuietPatterns 39 = .ok (.aload_n 0, 1) := by decide +kernel
theorem dX1_readQuietPatterns_40 : decode cX1_readQuietPatterns 40 = .ok (.dup, 1) := by decide +kernel
theorem dX1_readQuietPatterns_41 : decode cX1_readQuietPatterns 41 = .ok (.getfield 33, 3) := by decide +kernel
theorem dX1_readQuietPatterns_44 : decode cX1_readQuietPatterns 44 = .ok (.iconst 1, 1) := by decide +kernel
theorem dX1_readQuietPatterns_45 : decode cX1_readQuietPatterns 45 = .ok (.iadd, 1) := by decide +kernel
theorem dX1_readQuietPatterns_46 : decode cX1_readQuietPatterns 46 = .ok (.putfield 33, 3) := by decide +kernel
theorem dX1_readQuietPatterns_49 : decode cX1_readQuietPatterns 49 = .ok (.iinc 1 1, 3) := by decide +kernel
theorem dX1_readQuietPatterns_52 : decode cX1_readQuietPatterns 52 = .ok (.goto (-45), 3) := by decide +kernel
theorem dX1_readQuietPatterns_55 : decode cX1_readQuietPatterns 55 = .ok (.return_, 1) := by decide +kernel
theorem dX1_readQuietPattern_0 : decode cX1_readQuietPattern 0 = .ok (.iconst 0, 1) := by decide +kernel
theorem dX1_readQuietPattern_1 : decode cX1_readQuietPattern 1 = .ok (.istore_n 3, 1) := by decide +kernel
theorem dX1_readQuietPattern_2 : decode cX1_readQuietPattern 2 = .ok (.iload_n 3, 1) := by decide +kernel
theorem dX1_readQuietPattern_3 : decode cX1_readQuietPattern 3 = .ok (.aload_n 0, 1) := by decide +kernel
theorem dX1_readQuietPattern_4 : decode cX1_readQuietPattern 4 = .ok (.getfield 9, 3) := by decide +kernel
theorem dX1_readQuietPattern_7 : decode cX1_readQuietPattern 7 = .ok (.if_icmp .ge 49, 3) := by decide +kernel
theorem dX1_readQuietPattern_10 : decode cX1_readQuietPattern 10 = .ok (.aload_n 0, 1) := by decide +kernel
theorem dX1_readQuietPattern_11 : decode cX1_readQuietPattern 11 = .ok (.getfield 23, 3) := by decide +kernel
theorem dX1_readQuietPattern_14 : decode cX1_readQuietPattern 14 = .ok (.iload_n 3, 1) := by decide +kernel
theorem dX1_readQuietPattern_15 : decode cX1_readQuietPattern 15 = .ok (.iaload, 1) := by decide +kernel
theorem dX1_readQuietPattern_16 : decode cX1_readQuietPattern 16 = .ok (.istore 4, 2) := by decide +kernel
theorem dX1_readQuietPattern_18 : decode cX1_readQuietPattern 18 = .ok (.aload_n 1, 1) := by decide +kernel
theorem dX1_readQuietPattern_19 : decode cX1_readQuietPattern 19 = .ok (.iload_n 3, 1) := by decide +kernel
theorem dX1_readQuietPattern_20 : decode cX1_readQuietPattern 20 = .ok (.iload 4, 2) := by decide +kernel
theorem dX1_readQuietPattern_22 : decode cX1_readQuietPattern 22 = .ok (.iconst (-1), 1) := by decide +kernel
theorem dX1_readQuietPattern_23 : decode cX1_readQuietPattern 23 = .ok (.if_icmp .ne 7, 3) := by decide +kernel
theorem dX1_readQuietPattern_26 : decode cX1_readQuietPattern 26 = .ok (.iconst 0, 1) := by decide +kernel
theorem dX1_readQuietPattern_27 : decode cX1_readQuietPattern 27 = .ok (.goto 22, 3) := by decide +kernel
theorem dX1_readQuietPattern_30 : decode cX1_readQuietPattern 30 = .ok (.aload_n 0, 1) := by decide +kernel
theorem dX1_readQuietPattern_31 : decode cX1_readQuietPattern 31 = .ok (.getfield 15, 3) := by decide +kernel
theorem dX1_readQuietPattern_34 : decode cX1_readQuietPattern 34 = .ok (.aload_n 0, 1) := by decide +kernel
theorem dX1_readQuietPattern_35 : decode cX1_readQuietPattern 35 = .ok (.getfield 20, 3) := by decide +kernel
theorem dX1_readQuietPattern_38 : decode cX1_readQuietPattern 38 = .ok (.iload 4, 2) := by decide +kernel
theorem dX1_readQuietPattern_40 : decode cX1_readQuietPattern 40 = .ok (.aaload, 1) := by decide +kernel
theorem dX1_readQuietPattern_41 : decode cX1_readQuietPattern 41 = .ok (.iload_n 2, 1) := by decide +kernel
theorem dX1_readQuietPattern_42 : decode cX1_readQuietPattern 42 = .ok (.iaload, 1) := by decide +kernel
theorem dX1_readQuietPattern_43 : decode cX1_readQuietPattern 43 = .ok (.isub, 1) := by decide +kernel
theorem dX1_readQuietPattern_44 : decode cX1_readQuietPattern 44 = .ok (.aload_n 0, 1) := by decide +kernel
theorem dX1_readQuietPattern_45 : decode cX1_readQuietPattern 45 = .ok (.getfield 15, 3) := by decide +kernel
theorem dX1_readQuietPattern_48 : decode cX1_readQuietPattern 48 = .ok (.irem, 1) := by decide +kernel
theorem dX1_readQuietPattern_49 : decode cX1_readQuietPattern 49 = .ok (.iastore, 1) := by decide +kernel
theorem dX1_readQuietPattern_50 : decode cX1_readQuietPattern 50 = .ok (.iinc 3 1, 3) := by decide +kernel
theorem dX1_readQuietPattern_53 : decode cX1_readQuietPattern 53 = .ok (.goto (-51), 3) := by decide +kernel
theorem dX1_readQuietPattern_56 : decode cX1_readQuietPattern 56 = .ok (.aload_n 1, 1) := by decide +kernel
theorem dX1_readQuietPattern_57 : decode cX1_readQuietPattern 57 = .ok (.iload_n 2, 1) := by decide +kernel
theorem dX1_readQuietPattern_58 : decode cX1_readQuietPattern 58 = .ok (.iconst 1, 1) := by decide +kernel
theorem dX1_readQuietPattern_59 : decode cX1_readQuietPattern 59 = .ok (.iastore, 1) := by decide +kernel
theorem dX1_readQuietPattern_60 : decode cX1_readQuietPattern 60 = .ok (.return_, 1) := by decide +kernel
theorem dX2_init_0 : decode cX2_init 0 = .ok (.aload_n 0, 1) := by decide +kernel
theorem dX2_init_1 : decode cX2_init 1 = .ok (.invokespecial 3, 3) := by decide +kernel
theorem dX2_init_4 : decode cX2_init 4 = .ok (.aload_n 0, 1) := by decide +kernel
theorem dX2_init_5 : decode cX2_init 5 = .ok (.iload_n 1, 1) := by decide +kernel
theorem dX2_init_6 : decode cX2_init 6 = .ok (.putfield 9, 3) := by decide +kernel
theorem dX2_init_9 : decode cX2_init 9 = .ok (.aload_n 0, 1) := by decide +kernel
theorem dX2_init_10 : decode cX2_init 10 = .ok (.iload_n 2, 1) := by decide +kernel
theorem dX2_init_11 : decode cX2_init 11 = .ok (.putfield 15, 3) := by decide +kernel
theorem dX2_init_14 : decode cX2_init 14 = .ok (.aload_n 0, 1) := by decide +kernel
theorem dX2_init_15 : decode cX2_init 15 = .ok (.iload_n 1, 1) := by decide +kernel
theorem dX2_init_16 : decode cX2_init 16 = .ok (.newarray .int, 2) := by decide +kernel
theorem dX2_init_18 : decode cX2_init 18 = .ok (.putfield 18, 3) := by decide +kernel
theorem dX2_init_21 : decode cX2_init 21 = .ok (.aload_n 0, 1) := by decide +kernel
theorem dX2_init_22 : decode cX2_init 22 = .ok (.iload_n 1, 1) := by decide +kernel
theorem dX2_init_23 : decode cX2_init 23 = .ok (.newarray .int, 2) := by decide +kernel
theorem dX2_init_25 : decode cX2_init 25 = .ok (.putfield 22, 3) := by decide +kernel
theorem dX2_init_28 : decode cX2_init 28 = .ok (.aload_n 0, 1) := by decide +kernel
theorem dX2_init_29 : decode cX2_init 29 = .ok (.iload_n 1, 1) := by decide +kernel
theorem dX2_init_30 : decode cX2_init 30 = .ok (.newarray .int, 2) := by decide +kernel
theorem dX2_init_32 : decode cX2_init 32 = .ok (.putfield 25, 3) := by decide +kernel
theorem dX2_init_35 : decode cX2_init 35 = .ok (.aload_n 0, 1) := by decide +kernel
theorem dX2_init_36 : decode cX2_init 36 = .ok (.iconst (-1), 1) := by decide +kernel
theorem dX2_init_37 : decode cX2_init 37 = .ok (.putfield 28, 3) := by decide +kernel
theorem dX2_init_40 : decode cX2_init 40 = .ok (.return_, 1) := by decide +kernel
theorem dX2_leastTotal_0 : decode cX2_leastTotal 0 = .ok (.aload_n 0, 1) := by decide +kernel
theorem dX2_leastTotal_1 : decode cX2_leastTotal 1 = .ok (.getfield 28, 3) := by decide +kernel
theorem dX2_leastTotal_4 : decode cX2_leastTotal 4 = .ok (.ireturn, 1) := by decide +kernel
theorem dX2_leastPresses_0 : decode cX2_leastPresses 0 = .ok (.aload_n 0, 1) := by decide +kernel
theorem dX2_leastPresses_1 : decode cX2_leastPresses 1 = .ok (.getfield 22, 3) := by decide +kernel
theorem dX2_leastPresses_4 : decode cX2_leastPresses 4 = .ok (.iload_n 1, 1) := by decide +kernel
theorem dX2_leastPresses_5 : decode cX2_leastPresses 5 = .ok (.iaload, 1) := by decide +kernel
theorem dX2_leastPresses_6 : decode cX2_leastPresses 6 = .ok (.ireturn, 1) := by decide +kernel
theorem dX2_run_0 : decode cX2_run 0 = .ok (.aload_n 1, 1) := by decide +kernel
theorem dX2_run_1 : decode cX2_run 1 = .ok (.sipush 20000, 3) := by decide +kernel
theorem dX2_run_4 : decode cX2_run 4 = .ok (.invokevirtual 31, 3) := by decide +kernel
theorem dX2_run_7 : decode cX2_run 7 = .ok (.istore_n 2, 1) := by decide +kernel
theorem dX2_run_8 : decode cX2_run 8 = .ok (.iload_n 2, 1) := by decide +kernel
theorem dX2_run_9 : decode cX2_run 9 = .ok (.ifCond .ne 11, 3) := by decide +kernel
theorem dX2_run_12 : decode cX2_run 12 = .ok (.aload_n 0, 1) := by decide +kernel
theorem dX2_run_13 : decode cX2_run 13 = .ok (.iconst (-1), 1) := by decide +kernel
theorem dX2_run_14 : decode cX2_run 14 = .ok (.putfield 28, 3) := by decide +kernel
theorem dX2_run_17 : decode cX2_run 17 = .ok (.goto 46, 3) := by decide +kernel
theorem dX2_run_20 : decode cX2_run 20 = .ok (.iload_n 2, 1) := by decide +kernel
theorem dX2_run_21 : decode cX2_run 21 = .ok (.sipush 20000, 3) := by decide +kernel
theorem dX2_run_24 : decode cX2_run 24 = .ok (.if_icmp .le 12, 3) := by decide +kernel
theorem dX2_run_27 : decode cX2_run 27 = .ok (.aload_n 0, 1) := by decide +kernel
theorem dX2_run_28 : decode cX2_run 28 = .ok (.bipush (-2), 2) := by decide +kernel
theorem dX2_run_30 : decode cX2_run 30 = .ok (.putfield 28, 3) := by decide +kernel
theorem dX2_run_33 : decode cX2_run 33 = .ok (.goto 30, 3) := by decide +kernel
theorem dX2_run_36 : decode cX2_run 36 = .ok (.aload_n 0, 1) := by decide +kernel
theorem dX2_run_37 : decode cX2_run 37 = .ok (.aload_n 1, 1) := by decide +kernel
theorem dX2_run_38 : decode cX2_run 38 = .ok (.invokevirtual 37, 3) := by decide +kernel
theorem dX2_run_41 : decode cX2_run 41 = .ok (.iconst 1, 1) := by decide +kernel
theorem dX2_run_42 : decode cX2_run 42 = .ok (.istore_n 3, 1) := by decide +kernel
theorem dX2_run_43 : decode cX2_run 43 = .ok (.iload_n 3, 1) := by decide +kernel
theorem dX2_run_44 : decode cX2_run 44 = .ok (.iload_n 2, 1) := by decide +kernel
theorem dX2_run_45 : decode cX2_run 45 = .ok (.if_icmp .ge 18, 3) := by decide +kernel
theorem dX2_run_48 : decode cX2_run 48 = .ok (.aload_n 0, 1) := by decide +kernel
theorem dX2_run_49 : decode cX2_run 49 = .ok (.aload_n 1, 1) := by decide +kernel
theorem dX2_run_50 : decode cX2_run 50 = .ok (.invokevirtual 41, 3) := by decide +kernel
theorem dX2_run_53 : decode cX2_run 53 = .ok (.aload_n 0, 1) := by decide +kernel
theorem dX2_run_54 : decode cX2_run 54 = .ok (.invokevirtual 44, 3) := by decide +kernel
theorem dX2_run_57 : decode cX2_run 57 = .ok (.iinc 3 1, 3) := by decide +kernel
theorem dX2_run_60 : decode cX2_run 60 = .ok (.goto (-17), 3) := by decide +kernel
theorem dX2_run_63 : decode cX2_run 63 = .ok (.return_, 1) := by decide +kernel
theorem dX2_begin_0 : decode cX2_begin 0 = .ok (.iconst 0, 1) := by decide +kernel
theorem dX2_begin_1 : decode cX2_begin 1 = .ok (.istore_n 2, 1) := by decide +kernel
theorem dX2_begin_2 : decode cX2_begin 2 = .ok (.iload_n 2, 1) := by decide +kernel
theorem dX2_begin_3 : decode cX2_begin 3 = .ok (.aload_n 0, 1) := by decide +kernel
theorem dX2_begin_4 : decode cX2_begin 4 = .ok (.getfield 9, 3) := by decide +kernel
theorem dX2_begin_7 : decode cX2_begin 7 = .ok (.if_icmp .ge 27, 3) := by decide +kernel
theorem dX2_begin_10 : decode cX2_begin 10 = .ok (.aload_n 0, 1) := by decide +kernel
theorem dX2_begin_11 : decode cX2_begin 11 = .ok (.getfield 18, 3) := by decide +kernel
theorem dX2_begin_14 : decode cX2_begin 14 = .ok (.iload_n 2, 1) := by decide +kernel
theorem dX2_begin_15 : decode cX2_begin 15 = .ok (.aload_n 1, 1) := by decide +kernel
theorem dX2_begin_16 : decode cX2_begin 16 = .ok (.iload_n 2, 1) := by decide +kernel
theorem dX2_begin_17 : decode cX2_begin 17 = .ok (.invokevirtual 47, 3) := by decide +kernel
theorem dX2_begin_20 : decode cX2_begin 20 = .ok (.iastore, 1) := by decide +kernel
theorem dX2_begin_21 : decode cX2_begin 21 = .ok (.aload_n 0, 1) := by decide +kernel
theorem dX2_begin_22 : decode cX2_begin 22 = .ok (.getfield 25, 3) := by decide +kernel
theorem dX2_begin_25 : decode cX2_begin 25 = .ok (.iload_n 2, 1) := by decide +kernel
theorem dX2_begin_26 : decode cX2_begin 26 = .ok (.iconst 0, 1) := by decide +kernel
theorem dX2_begin_27 : decode cX2_begin 27 = .ok (.iastore, 1) := by decide +kernel
theorem dX2_begin_28 : decode cX2_begin 28 = .ok (.iinc 2 1, 3) := by decide +kernel
theorem dX2_begin_31 : decode cX2_begin 31 = .ok (.goto (-29), 3) := by decide +kernel
theorem dX2_begin_34 : decode cX2_begin 34 = .ok (.aload_n 0, 1) := by decide +kernel
theorem dX2_begin_35 : decode cX2_begin 35 = .ok (.aload_n 0, 1) := by decide +kernel
theorem dX2_begin_36 : decode cX2_begin 36 = .ok (.invokevirtual 50, 3) := by decide +kernel
theorem dX2_begin_39 : decode cX2_begin 39 = .ok (.invokevirtual 54, 3) := by decide +kernel
theorem dX2_begin_42 : decode cX2_begin 42 = .ok (.return_, 1) := by decide +kernel
theorem dX2_advance_0 : decode cX2_advance 0 = .ok (.iconst 0, 1) := by decide +kernel
theorem dX2_advance_1 : decode cX2_advance 1 = .ok (.istore_n 2, 1) := by decide +kernel
theorem dX2_advance_2 : decode cX2_advance 2 = .ok (.iload_n 2, 1) := by decide +kernel
theorem dX2_advance_3 : decode cX2_advance 3 = .ok (.aload_n 1, 1) := by decide +kernel
theorem dX2_advance_4 : decode cX2_advance 4 = .ok (.invokevirtual 58, 3) := by decide +kernel
theorem dX2_advance_7 : decode cX2_advance 7 = .ok (.if_icmp .ge 49, 3) := by decide +kernel
theorem dX2_advance_10 : decode cX2_advance 10 = .ok (.aload_n 0, 1) := by decide +kernel
theorem dX2_advance_11 : decode cX2_advance 11 = .ok (.aload_n 1, 1) := by decide +kernel
theorem dX2_advance_12 : decode cX2_advance 12 = .ok (.iload_n 2, 1) := by decide +kernel
theorem dX2_advance_13 : decode cX2_advance 13 = .ok (.invokevirtual 61, 3) := by decide +kernel
theorem dX2_advance_16 : decode cX2_advance 16 = .ok (.invokevirtual 65, 3) := by decide +kernel
theorem dX2_advance_19 : decode cX2_advance 19 = .ok (.aload_n 0, 1) := by decide +kernel
theorem dX2_advance_20 : decode cX2_advance 20 = .ok (.getfield 25, 3) := by decide +kernel
theorem dX2_advance_23 : decode cX2_advance 23 = .ok (.iload_n 2, 1) := by decide +kernel
theorem dX2_advance_24 : decode cX2_advance 24 = .ok (.dup2, 1) := by decide +kernel
theorem dX2_advance_25 : decode cX2_advance 25 = .ok (.iaload, 1) := by decide +kernel
theorem dX2_advance_26 : decode cX2_advance 26 = .ok (.iconst 1, 1) := by decide +kernel
theorem dX2_advance_27 : decode cX2_advance 27 = .ok (.iadd, 1) := by decide +kernel
theorem dX2_advance_28 : decode cX2_advance 28 = .ok (.iastore, 1) := by decide +kernel
theorem dX2_advance_29 : decode cX2_advance 29 = .ok (.aload_n 0, 1) := by decide +kernel
theorem dX2_advance_30 : decode cX2_advance 30 = .ok (.getfield 25, 3) := by decide +kernel
theorem dX2_advance_33 : decode cX2_advance 33 = .ok (.iload_n 2, 1) := by decide +kernel
theorem dX2_advance_34 : decode cX2_advance 34 = .ok (.iaload, 1) := by decide +kernel
theorem dX2_advance_35 : decode cX2_advance 35 = .ok (.aload_n 0, 1) := by decide +kernel
theorem dX2_advance_36 : decode cX2_advance 36 = .ok (.getfield 15, 3) := by decide +kernel
theorem dX2_advance_39 : decode cX2_advance 39 = .ok (.if_icmp .ge 4, 3) := by decide +kernel
theorem dX2_advance_42 : decode cX2_advance 42 = .ok (.return_, 1) := by decide +kernel
theorem dX2_advance_43 : decode cX2_advance 43 = .ok (.aload_n 0, 1) := by decide +kernel
theorem dX2_advance_44 : decode cX2_advance 44 = .ok (.getfield 25, 3) := by decide +kernel
theorem dX2_advance_47 : decode cX2_advance 47 = .ok (.iload_n 2, 1) := by decide +kernel
theorem dX2_advance_48 : decode cX2_advance 48 = .ok (.iconst 0, 1) := by decide +kernel
theorem dX2_advance_49 : decode cX2_advance 49 = .ok (.iastore, 1) := by decide +kernel
theorem dX2_advance_50 : decode cX2_advance 50 = .ok (.iinc 2 1, 3) := by decide +kernel
theorem dX2_advance_53 : decode cX2_advance 53 = .ok (.goto (-51), 3) := by decide +kernel
theorem dX2_advance_56 : decode cX2_advance 56 = .ok (.return_, 1) := by decide +kernel
theorem dX2_addToTried_0 : decode cX2_addToTried 0 = .ok (.iconst 0, 1) := by decide +kernel
theorem dX2_addToTried_1 : decode cX2_addToTried 1 = .ok (.istore_n 2, 1) := by decide +kernel
theorem dX2_addToTried_2 : decode cX2_addToTried 2 = .ok (.iload_n 2, 1) := by decide +kernel
theorem dX2_addToTried_3 : decode cX2_addToTried 3 = .ok (.aload_n 0, 1) := by decide +kernel
theorem dX2_addToTried_4 : decode cX2_addToTried 4 = .ok (.getfield 9, 3) := by decide +kernel
theorem dX2_addToTried_7 : decode cX2_addToTried 7 = .ok (.if_icmp .ge 44, 3) := by decide +kernel
theorem dX2_addToTried_10 : decode cX2_addToTried 10 = .ok (.aload_n 0, 1) := by decide +kernel
theorem dX2_addToTried_11 : decode cX2_addToTried 11 = .ok (.getfield 18, 3) := by decide +kernel
theorem dX2_addToTried_14 : decode cX2_addToTried 14 = .ok (.iload_n 2, 1) := by decide +kernel
theorem dX2_addToTried_15 : decode cX2_addToTried 15 = .ok (.iaload, 1) := by decide +kernel
theorem dX2_addToTried_16 : decode cX2_addToTried 16 = .ok (.aload_n 1, 1) := by decide +kernel
theorem dX2_addToTried_17 : decode cX2_addToTried 17 = .ok (.iload_n 2, 1) := by decide +kernel
theorem dX2_addToTried_18 : decode cX2_addToTried 18 = .ok (.iaload, 1) := by decide +kernel
theorem dX2_addToTried_19 : decode cX2_addToTried 19 = .ok (.iadd, 1) := by decide +kernel
theorem dX2_addToTried_20 : decode cX2_addToTried 20 = .ok (.istore_n 3, 1) := by decide +kernel
theorem dX2_addToTried_21 : decode cX2_addToTried 21 = .ok (.aload_n 0, 1) := by decide +kernel
theorem dX2_addToTried_22 : decode cX2_addToTried 22 = .ok (.getfield 18, 3) := by decide +kernel
theorem dX2_addToTried_25 : decode cX2_addToTried 25 = .ok (.iload_n 2, 1) := by decide +kernel
theorem dX2_addToTried_26 : decode cX2_addToTried 26 = .ok (.iload_n 3, 1) := by decide +kernel
theorem dX2_addToTried_27 : decode cX2_addToTried 27 = .ok (.aload_n 0, 1) := by decide +kernel
theorem dX2_addToTried_28 : decode cX2_addToTried 28 = .ok (.getfield 15, 3) := by decide +kernel
theorem dX2_addToTried_31 : decode cX2_addToTried 31 = .ok (.if_icmp .ge 7, 3) := by decide +kernel
theorem dX2_addToTried_34 : decode cX2_addToTried 34 = .ok (.iload_n 3, 1) := by decide +kernel
theorem dX2_addToTried_35 : decode cX2_addToTried 35 = .ok (.goto 9, 3) := by decide +kernel
theorem dX2_addToTried_38 : decode cX2_addToTried 38 = .ok (.iload_n 3, 1) := by decide +kernel
theorem dX2_addToTried_39 : decode cX2_addToTried 39 = .ok (.aload_n 0, 1) := by decide +kernel
theorem dX2_addToTried_40 : decode cX2_addToTried 40 = .ok (.getfield 15, 3) := by decide +kernel
theorem dX2_addToTried_43 : decode cX2_addToTried 43 = .ok (.isub, 1) := by decide +kernel
theorem dX2_addToTried_44 : decode cX2_addToTried 44 = .ok (.iastore, 1) := by decide +kernel
theorem dX2_addToTried_45 : decode cX2_addToTried 45 = .ok (.iinc 2 1, 3) := by decide +kernel
theorem dX2_addToTried_48 : decode cX2_addToTried 48 = .ok (.goto (-46), 3) := by decide +kernel
theorem dX2_addToTried_51 : decode cX2_addToTried 51 = .ok (.return_, 1) := by decide +kernel
theorem dX2_keepIfLess_0 : decode cX2_keepIfLess 0 = .ok (.aload_n 0, 1) := by decide +kernel
theorem dX2_keepIfLess_1 : decode cX2_keepIfLess 1 = .ok (.invokevirtual 50, 3) := by decide +kernel
theorem dX2_keepIfLess_4 : decode cX2_keepIfLess 4 = .ok (.istore_n 1, 1) := by decide +kernel
theorem dX2_keepIfLess_5 : decode cX2_keepIfLess 5 = .ok (.iload_n 1, 1) := by decide +kernel
theorem dX2_keepIfLess_6 : decode cX2_keepIfLess 6 = .ok (.aload_n 0, 1) := by decide +kernel
theorem dX2_keepIfLess_7 : decode cX2_keepIfLess 7 = .ok (.getfield 28, 3) := by decide +kernel
theorem dX2_keepIfLess_10 : decode cX2_keepIfLess 10 = .ok (.if_icmp .lt 18, 3) := by decide +kernel
theorem dX2_keepIfLess_13 : decode cX2_keepIfLess 13 = .ok (.iload_n 1, 1) := by decide +kernel
theorem dX2_keepIfLess_14 : decode cX2_keepIfLess 14 = .ok (.aload_n 0, 1) := by decide +kernel
theorem dX2_keepIfLess_15 : decode cX2_keepIfLess 15 = .ok (.getfield 28, 3) := by decide +kernel
theorem dX2_keepIfLess_18 : decode cX2_keepIfLess 18 = .ok (.if_icmp .ne 15, 3) := by decide +kernel
theorem dX2_keepIfLess_21 : decode cX2_keepIfLess 21 = .ok (.aload_n 0, 1) := by decide +kernel
theorem dX2_keepIfLess_22 : decode cX2_keepIfLess 22 = .ok (.invokevirtual 69, 3) := by decide +kernel
theorem dX2_keepIfLess_25 : decode cX2_keepIfLess 25 = .ok (.ifCond .eq 8, 3) := by decide +kernel
theorem dX2_keepIfLess_28 : decode cX2_keepIfLess 28 = .ok (.aload_n 0, 1) := by decide +kernel
theorem dX2_keepIfLess_29 : decode cX2_keepIfLess 29 = .ok (.iload_n 1, 1) := by decide +kernel
theorem dX2_keepIfLess_30 : decode cX2_keepIfLess 30 = .ok (.invokevirtual 54, 3) := by decide +kernel
theorem dX2_keepIfLess_33 : decode cX2_keepIfLess 33 = .ok (.return_, 1) := by decide +kernel
theorem dX2_totalTried_0 : decode cX2_totalTried 0 = .ok (.iconst 0, 1) := by decide +kernel
theorem dX2_totalTried_1 : decode cX2_totalTried 1 = .ok (.istore_n 1, 1) := by decide +kernel
theorem dX2_totalTried_2 : decode cX2_totalTried 2 = .ok (.iconst 0, 1) := by decide +kernel
theorem dX2_totalTried_3 : decode cX2_totalTried 3 = .ok (.istore_n 2, 1) := by decide +kernel
theorem dX2_totalTried_4 : decode cX2_totalTried 4 = .ok (.iload_n 2, 1) := by decide +kernel
theorem dX2_totalTried_5 : decode cX2_totalTried 5 = .ok (.aload_n 0, 1) := by decide +kernel
theorem dX2_totalTried_6 : decode cX2_totalTried 6 = .ok (.getfield 9, 3) := by decide +kernel
theorem dX2_totalTried_9 : decode cX2_totalTried 9 = .ok (.if_icmp .ge 18, 3) := by decide +kernel
theorem dX2_totalTried_12 : decode cX2_totalTried 12 = .ok (.iload_n 1, 1) := by decide +kernel
theorem dX2_totalTried_13 : decode cX2_totalTried 13 = .ok (.aload_n 0, 1) := by decide +kernel
theorem dX2_totalTried_14 : decode cX2_totalTried 14 = .ok (.getfield 18, 3) := by decide +kernel
theorem dX2_totalTried_17 : decode cX2_totalTried 17 = .ok (.iload_n 2, 1) := by decide +kernel
theorem dX2_totalTried_18 : decode cX2_totalTried 18 = .ok (.iaload, 1) := by decide +kernel
theorem dX2_totalTried_19 : decode cX2_totalTried 19 = .ok (.iadd, 1) := by decide +kernel
theorem dX2_totalTried_20 : decode cX2_totalTried 20 = .ok (.istore_n 1, 1) := by decide +kernel
theorem dX2_totalTried_21 : decode cX2_totalTried 21 = .ok (.iinc 2 1, 3) := by decide +kernel
theorem dX2_totalTried_24 : decode cX2_totalTried 24 = .ok (.goto (-20), 3) := by decide +kernel
theorem dX2_totalTried_27 : decode cX2_totalTried 27 = .ok (.iload_n 1, 1) := by decide +kernel
theorem dX2_totalTried_28 : decode cX2_totalTried 28 = .ok (.ireturn, 1) := by decide +kernel
theorem dX2_triedIsAhead_0 : decode cX2_triedIsAhead 0 = .ok (.iconst 0, 1) := by decide +kernel
theorem dX2_triedIsAhead_1 : decode cX2_triedIsAhead 1 = .ok (.istore_n 1, 1) := by decide +kernel
theorem dX2_triedIsAhead_2 : decode cX2_triedIsAhead 2 = .ok (.iload_n 1, 1) := by decide +kernel
theorem dX2_triedIsAhead_3 : decode cX2_triedIsAhead 3 = .ok (.aload_n 0, 1) := by decide +kernel
theorem dX2_triedIsAhead_4 : decode cX2_triedIsAhead 4 = .ok (.getfield 9, 3) := by decide +kernel
theorem dX2_triedIsAhead_7 : decode cX2_triedIsAhead 7 = .ok (.if_icmp .ge 45, 3) := by decide +kernel
theorem dX2_triedIsAhead_10 : decode cX2_triedIsAhead 10 = .ok (.aload_n 0, 1) := by decide +kernel
theorem dX2_triedIsAhead_11 : decode cX2_triedIsAhead 11 = .ok (.getfield 18, 3) := by decide +kernel
theorem dX2_triedIsAhead_14 : decode cX2_triedIsAhead 14 = .ok (.iload_n 1, 1) := by decide +kernel
theorem dX2_triedIsAhead_15 : decode cX2_triedIsAhead 15 = .ok (.iaload, 1) := by decide +kernel
theorem dX2_triedIsAhead_16 : decode cX2_triedIsAhead 16 = .ok (.aload_n 0, 1) := by decide +kernel
theorem dX2_triedIsAhead_17 : decode cX2_triedIsAhead 17 = .ok (.getfield 22, 3) := by decide +kernel
theorem dX2_triedIsAhead_20 : decode cX2_triedIsAhead 20 = .ok (.iload_n 1, 1) := by decide +kernel
theorem dX2_triedIsAhead_21 : decode cX2_triedIsAhead 21 = .ok (.iaload, 1) := by decide +kernel
theorem dX2_triedIsAhead_22 : decode cX2_triedIsAhead 22 = .ok (.if_icmp .eq 24, 3) := by decide +kernel
theorem dX2_triedIsAhead_25 : decode cX2_triedIsAhead 25 = .ok (.aload_n 0, 1) := by decide +kernel
theorem dX2_triedIsAhead_26 : decode cX2_triedIsAhead 26 = .ok (.getfield 18, 3) := by decide +kernel
theorem dX2_triedIsAhead_29 : decode cX2_triedIsAhead 29 = .ok (.iload_n 1, 1) := by decide +kernel
theorem dX2_triedIsAhead_30 : decode cX2_triedIsAhead 30 = .ok (.iaload, 1) := by decide +kernel
theorem dX2_triedIsAhead_31 : decode cX2_triedIsAhead 31 = .ok (.aload_n 0, 1) := by decide +kernel
theorem dX2_triedIsAhead_32 : decode cX2_triedIsAhead 32 = .ok (.getfield 22, 3) := by decide +kernel
theorem dX2_triedIsAhead_35 : decode cX2_triedIsAhead 35 = .ok (.iload_n 1, 1) := by decide +kernel
theorem dX2_triedIsAhead_36 : decode cX2_triedIsAhead 36 = .ok (.iaload, 1) := by decide +kernel
theorem dX2_triedIsAhead_37 : decode cX2_triedIsAhead 37 = .ok (.if_icmp .ge 7, 3) := by decide +kernel
theorem dX2_triedIsAhead_40 : decode cX2_triedIsAhead 40 = .ok (.iconst 1, 1) := by decide +kernel
theorem dX2_triedIsAhead_41 : decode cX2_triedIsAhead 41 = .ok (.goto 4, 3) := by decide +kernel
theorem dX2_triedIsAhead_44 : decode cX2_triedIsAhead 44 = .ok (.iconst 0, 1) := by decide +kernel
theorem dX2_triedIsAhead_45 : decode cX2_triedIsAhead 45 = .ok (.ireturn, 1) := by decide +kernel
theorem dX2_triedIsAhead_46 : decode cX2_triedIsAhead 46 = .ok (.iinc 1 1, 3) := by decide +kernel
theorem dX2_triedIsAhead_49 : decode cX2_triedIsAhead 49 = .ok (.goto (-47), 3) := by decide +kernel
theorem dX2_triedIsAhead_52 : decode cX2_triedIsAhead 52 = .ok (.iconst 0, 1) := by decide +kernel
theorem dX2_triedIsAhead_53 : decode cX2_triedIsAhead 53 = .ok (.ireturn, 1) := by decide +kernel
theorem dX2_keep_0 : decode cX2_keep 0 = .ok (.aload_n 0, 1) := by decide +kernel
theorem dX2_keep_1 : decode cX2_keep 1 = .ok (.iload_n 1, 1) := by decide +kernel
theorem dX2_keep_2 : decode cX2_keep 2 = .ok (.putfield 28, 3) := by decide +kernel
theorem dX2_keep_5 : decode cX2_keep 5 = .ok (.aload_n 0, 1) := by decide +kernel
theorem dX2_keep_6 : decode cX2_keep 6 = .ok (.getfield 18, 3) := by decide +kernel
theorem dX2_keep_9 : decode cX2_keep 9 = .ok (.iconst 0, 1) := by decide +kernel
theorem dX2_keep_10 : decode cX2_keep 10 = .ok (.aload_n 0, 1) := by decide +kernel
theorem dX2_keep_11 : decode cX2_keep 11 = .ok (.getfield 22, 3) := by decide +kernel
theorem dX2_keep_14 : decode cX2_keep 14 = .ok (.iconst 0, 1) := by decide +kernel
theorem dX2_keep_15 : decode cX2_keep 15 = .ok (.aload_n 0, 1) := by decide +kernel
theorem dX2_keep_16 : decode cX2_keep 16 = .ok (.getfield 9, 3) := by decide +kernel
theorem dX2_keep_19 : decode cX2_keep 19 = .ok (.invokestatic 73, 3) := by decide +kernel
theorem dX2_keep_22 : decode cX2_keep 22 = .ok (.return_, 1) := by decide +kernel
theorem dX3_init_0 : decode cX3_init 0 = .ok (.aload_n 0, 1) := by decide +kernel
theorem dX3_init_1 : decode cX3_init 1 = .ok (.invokespecial 1, 3) := by decide +kernel
theorem dX3_init_4 : decode cX3_init 4 = .ok (.aload_n 0, 1) := by decide +kernel
theorem dX3_init_5 : decode cX3_init 5 = .ok (.iconst 1, 1) := by decide +kernel
theorem dX3_init_6 : decode cX3_init 6 = .ok (.bipush 30, 2) := by decide +kernel
theorem dX3_init_8 : decode cX3_init 8 = .ok (.iload_n 1, 1) := by decide +kernel
theorem dX3_init_9 : decode cX3_init 9 = .ok (.invokestatic 9, 3) := by decide +kernel
theorem dX3_init_12 : decode cX3_init 12 = .ok (.invokestatic 15, 3) := by decide +kernel
theorem dX3_init_15 : decode cX3_init 15 = .ok (.putfield 18, 3) := by decide +kernel
theorem dX3_init_18 : decode cX3_init 18 = .ok (.aload_n 0, 1) := by decide +kernel
theorem dX3_init_19 : decode cX3_init 19 = .ok (.iload_n 2, 1) := by decide +kernel
theorem dX3_init_20 : decode cX3_init 20 = .ok (.invokestatic 22, 3) := by decide +kernel
theorem dX3_init_23 : decode cX3_init 23 = .ok (.putfield 26, 3) := by decide +kernel
theorem dX3_init_26 : decode cX3_init 26 = .ok (.aload_n 0, 1) := by decide +kernel
theorem dX3_init_27 : decode cX3_init 27 = .ok (.aload_n 0, 1) := by decide +kernel
theorem dX3_init_28 : decode cX3_init 28 = .ok (.getfield 18, 3) := by decide +kernel
theorem dX3_init_31 : decode cX3_init 31 = .ok (.newarray .int, 2) := by decide +kernel
theorem dX3_init_33 : decode cX3_init 33 = .ok (.putfield 29, 3) := by decide +kernel
theorem dX3_init_36 : decode cX3_init 36 = .ok (.aload_n 0, 1) := by decide +kernel
theorem dX3_init_37 : decode cX3_init 37 = .ok (.aload_n 0, 1) := by decide +kernel
theorem dX3_init_38 : decode cX3_init 38 = .ok (.getfield 18, 3) := by decide +kernel
theorem dX3_init_41 : decode cX3_init 41 = .ok (.newarray .int, 2) := by decide +kernel
theorem dX3_init_43 : decode cX3_init 43 = .ok (.putfield 33, 3) := by decide +kernel
theorem dX3_init_46 : decode cX3_init 46 = .ok (.aload_n 0, 1) := by decide +kernel
theorem dX3_init_47 : decode cX3_init 47 = .ok (.aload_n 0, 1) := by decide +kernel
theorem dX3_init_48 : decode cX3_init 48 = .ok (.getfield 18, 3) := by decide +kernel
theorem dX3_init_51 : decode cX3_init 51 = .ok (.newarray .int, 2) := by decide +kernel
theorem dX3_init_53 : decode cX3_init 53 = .ok (.putfield 36, 3) := by decide +kernel
theorem dX3_init_56 : decode cX3_init 56 = .ok (.iconst 0, 1) := by decide +kernel
theorem dX3_init_57 : decode cX3_init 57 = .ok (.istore_n 3, 1) := by decide +kernel
theorem dX3_init_58 : decode cX3_init 58 = .ok (.iload_n 3, 1) := by decide +kernel
theorem dX3_init_59 : decode cX3_init 59 = .ok (.aload_n 0, 1) := by decide +kernel
theorem dX3_init_60 : decode cX3_init 60 = .ok (.getfield 18, 3) := by decide +kernel
theorem dX3_init_63 : decode cX3_init 63 = .ok (.if_icmp .ge 18, 3) := by decide +kernel
theorem dX3_init_66 : decode cX3_init 66 = .ok (.aload_n 0, 1) := by decide +kernel
theorem dX3_init_67 : decode cX3_init 67 = .ok (.getfield 36, 3) := by decide +kernel
theorem dX3_init_70 : decode cX3_init 70 = .ok (.iload_n 3, 1) := by decide +kernel
theorem dX3_init_71 : decode cX3_init 71 = .ok (.iconst 1, 1) := by decide +kernel
theorem dX3_init_72 : decode cX3_init 72 = .ok (.iload_n 3, 1) := by decide +kernel
theorem dX3_init_73 : decode cX3_init 73 = .ok (.ishl, 1) := by decide +kernel
theorem dX3_init_74 : decode cX3_init 74 = .ok (.iastore, 1) := by decide +kernel
theorem dX3_init_75 : decode cX3_init 75 = .ok (.iinc 3 1, 3) := by decide +kernel
theorem dX3_init_78 : decode cX3_init 78 = .ok (.goto (-20), 3) := by decide +kernel
theorem dX3_init_81 : decode cX3_init 81 = .ok (.aload_n 0, 1) := by decide +kernel
theorem dX3_init_82 : decode cX3_init 82 = .ok (.new 39, 3) := by decide +kernel
theorem dX3_init_85 : decode cX3_init 85 = .ok (.dup, 1) := by decide +kernel
theorem dX3_init_86 : decode cX3_init 86 = .ok (.aload_n 0, 1) := by decide +kernel
theorem dX3_init_87 : decode cX3_init 87 = .ok (.getfield 18, 3) := by decide +kernel
theorem dX3_init_90 : decode cX3_init 90 = .ok (.aload_n 0, 1) := by decide +kernel
theorem dX3_init_91 : decode cX3_init 91 = .ok (.getfield 26, 3) := by decide +kernel
theorem dX3_init_94 : decode cX3_init 94 = .ok (.invokespecial 41, 3) := by decide +kernel
theorem dX3_init_97 : decode cX3_init 97 = .ok (.putfield 44, 3) := by decide +kernel
theorem dX3_init_100 : decode cX3_init 100 = .ok (.aload_n 0, 1) := by decide +kernel
theorem dX3_init_101 : decode cX3_init 101 = .ok (.new 48, 3) := by decide +kernel
theorem dX3_init_104 : decode cX3_init 104 = .ok (.dup, 1) := by decide +kernel
theorem dX3_init_105 : decode cX3_init 105 = .ok (.aload_n 0, 1) := by decide +kernel
theorem dX3_init_106 : decode cX3_init 106 = .ok (.getfield 18, 3) := by decide +kernel
theorem dX3_init_109 : decode cX3_init 109 = .ok (.aload_n 0, 1) := by decide +kernel
theorem dX3_init_110 : decode cX3_init 110 = .ok (.getfield 26, 3) := by decide +kernel
theorem dX3_init_113 : decode cX3_init 113 = .ok (.invokespecial 50, 3) := by decide +kernel
theorem dX3_init_116 : decode cX3_init 116 = .ok (.putfield 51, 3) := by decide +kernel
theorem dX3_init_119 : decode cX3_init 119 = .ok (.aload_n 0, 1) := by decide +kernel
theorem dX3_init_120 : decode cX3_init 120 = .ok (.new 55, 3) := by decide +kernel
theorem dX3_init_123 : decode cX3_init 123 = .ok (.dup, 1) := by decide +kernel
theorem dX3_init_124 : decode cX3_init 124 = .ok (.invokespecial 57, 3) := by decide +kernel
theorem dX3_init_127 : decode cX3_init 127 = .ok (.putfield 58, 3) := by decide +kernel
theorem dX3_init_130 : decode cX3_init 130 = .ok (.aload_n 0, 1) := by decide +kernel
theorem dX3_init_131 : decode cX3_init 131 = .ok (.iconst 0, 1) := by decide +kernel
theorem dX3_init_132 : decode cX3_init 132 = .ok (.putfield 62, 3) := by decide +kernel
theorem dX3_init_135 : decode cX3_init 135 = .ok (.aload_n 0, 1) := by decide +kernel
theorem dX3_init_136 : decode cX3_init 136 = .ok (.iconst 0, 1) := by decide +kernel
theorem dX3_init_137 : decode cX3_init 137 = .ok (.putfield 66, 3) := by decide +kernel
theorem dX3_init_140 : decode cX3_init 140 = .ok (.return_, 1) := by decide +kernel
theorem dX3_join_0 : decode cX3_join 0 = .ok (.aload_n 0, 1) := by decide +kernel
theorem dX3_join_1 : decode cX3_join 1 = .ok (.iload_n 1, 1) := by decide +kernel
theorem dX3_join_2 : decode cX3_join 2 = .ok (.invokevirtual 69, 3) := by decide +kernel
theorem dX3_join_5 : decode cX3_join 5 = .ok (.aload_n 0, 1) := by decide +kernel
theorem dX3_join_6 : decode cX3_join 6 = .ok (.iload_n 2, 1) := by decide +kernel
theorem dX3_join_7 : decode cX3_join 7 = .ok (.invokevirtual 69, 3) := by decide +kernel
theorem dX3_join_10 : decode cX3_join 10 = .ok (.iload_n 1, 1) := by decide +kernel
theorem dX3_join_11 : decode cX3_join 11 = .ok (.iload_n 2, 1) := by decide +kernel
theorem dX3_join_12 : decode cX3_join 12 = .ok (.if_icmp .eq 12, 3) := by decide +kernel
theorem dX3_join_15 : decode cX3_join 15 = .ok (.aload_n 0, 1) := by decide +kernel
theorem dX3_join_16 : decode cX3_join 16 = .ok (.iload_n 1, 1) := by decide +kernel
theorem dX3_join_17 : decode cX3_join 17 = .ok (.iload_n 2, 1) := by decide +kernel
theorem dX3_join_18 : decode cX3_join 18 = .ok (.invokevirtual 73, 3) := by decide +kernel
theorem dX3_join_21 : decode cX3_join 21 = .ok (.ifCond .eq 5, 3) := by decide +kernel
theorem dX3_join_24 : decode cX3_join 24 = .ok (.iconst 0, 1) := by decide +kernel
theorem dX3_join_25 : decode cX3_join 25 = .ok (.ireturn, 1) := by decide +kernel
theorem dX3_join_26 : decode cX3_join 26 = .ok (.aload_n 0, 1) := by decide +kernel
theorem dX3_join_27 : decode cX3_join 27 = .ok (.getfield 36, 3) := by decide +kernel
theorem dX3_join_30 : decode cX3_join 30 = .ok (.iload_n 1, 1) := by decide +kernel
theorem dX3_join_31 : decode cX3_join 31 = .ok (.dup2, 1) := by decide +kernel
theorem dX3_join_32 : decode cX3_join 32 = .ok (.iaload, 1) := by decide +kernel
theorem dX3_join_33 : decode cX3_join 33 = .ok (.iconst 1, 1) := by decide +kernel
theorem dX3_join_34 : decode cX3_join 34 = .ok (.iload_n 2, 1) := by decide +kernel
theorem dX3_join_35 : decode cX3_join 35 = .ok (.ishl, 1) := by decide +kernel
theorem dX3_join_36 : decode cX3_join 36 = .ok (.ior, 1) := by decide +kernel
theorem dX3_join_37 : decode cX3_join 37 = .ok (.iastore, 1) := by decide +kernel
theorem dX3_join_38 : decode cX3_join 38 = .ok (.aload_n 0, 1) := by decide +kernel
theorem dX3_join_39 : decode cX3_join 39 = .ok (.getfield 36, 3) := by decide +kernel
theorem dX3_join_42 : decode cX3_join 42 = .ok (.iload_n 2, 1) := by decide +kernel
theorem dX3_join_43 : decode cX3_join 43 = .ok (.dup2, 1) := by decide +kernel
theorem dX3_join_44 : decode cX3_join 44 = .ok (.iaload, 1) := by decide +kernel
theorem dX3_join_45 : decode cX3_join 45 = .ok (.iconst 1, 1) := by decide +kernel
theorem dX3_join_46 : decode cX3_join 46 = .ok (.iload_n 1, 1) := by decide +kernel
theorem dX3_join_47 : decode cX3_join 47 = .ok (.ishl, 1) := by decide +kernel
theorem dX3_join_48 : decode cX3_join 48 = .ok (.ior, 1) := by decide +kernel
theorem dX3_join_49 : decode cX3_join 49 = .ok (.iastore, 1) := by decide +kernel
theorem dX3_join_50 : decode cX3_join 50 = .ok (.aload_n 0, 1) := by decide +kernel
theorem dX3_join_51 : decode cX3_join 51 = .ok (.invokevirtual 77, 3) := by decide +kernel
theorem dX3_join_54 : decode cX3_join 54 = .ok (.iconst 1, 1) := by decide +kernel
theorem dX3_join_55 : decode cX3_join 55 = .ok (.ireturn, 1) := by decide +kernel
theorem dX3_self_0 : decode cX3_self 0 = .ok (.aload_n 0, 1) := by decide +kernel
theorem dX3_self_1 : decode cX3_self 1 = .ok (.iload_n 1, 1) := by decide +kernel
theorem dX3_self_2 : decode cX3_self 2 = .ok (.invokevirtual 69, 3) := by decide +kernel
theorem dX3_self_5 : decode cX3_self 5 = .ok (.aload_n 0, 1) := by decide +kernel
theorem dX3_self_6 : decode cX3_self 6 = .ok (.iload_n 1, 1) := by decide +kernel
theorem dX3_self_7 : decode cX3_self 7 = .ok (.iload_n 1, 1) := by decide +kernel
theorem dX3_self_8 : decode cX3_self 8 = .ok (.invokevirtual 73, 3) := by decide +kernel
theorem dX3_self_11 : decode cX3_self 11 = .ok (.iload_n 2, 1) := by decide +kernel
theorem dX3_self_12 : decode cX3_self 12 = .ok (.if_icmp .ne 5, 3) := by decide +kernel
theorem dX3_self_15 : decode cX3_self 15 = .ok (.iconst 0, 1) := by decide +kernel
theorem dX3_self_16 : decode cX3_self 16 = .ok (.ireturn, 1) := by decide +kernel
theorem dX3_self_17 : decode cX3_self 17 = .ok (.aload_n 0, 1) := by decide +kernel
theorem dX3_self_18 : decode cX3_self 18 = .ok (.getfield 36, 3) := by decide +kernel
theorem dX3_self_21 : decode cX3_self 21 = .ok (.iload_n 1, 1) := by decide +kernel
theorem dX3_self_22 : decode cX3_self 22 = .ok (.dup2, 1) := by decide +kernel
theorem dX3_self_23 : decode cX3_self 23 = .ok (.iaload, 1) := by decide +kernel
theorem dX3_self_24 : decode cX3_self 24 = .ok (.iconst 1, 1) := by decide +kernel
theorem dX3_self_25 : decode cX3_self 25 = .ok (.iload_n 1, 1) := by decide +kernel
theorem dX3_self_26 : decode cX3_self 26 = .ok (.ishl, 1) := by decide +kernel
theorem dX3_self_27 : decode cX3_self 27 = .ok (.ixor, 1) := by decide +kernel
theorem dX3_self_28 : decode cX3_self 28 = .ok (.iastore, 1) := by decide +kernel
theorem dX3_self_29 : decode cX3_self 29 = .ok (.aload_n 0, 1) := by decide +kernel
theorem dX3_self_30 : decode cX3_self 30 = .ok (.invokevirtual 77, 3) := by decide +kernel
theorem dX3_self_33 : decode cX3_self 33 = .ok (.iconst 1, 1) := by decide +kernel
theorem dX3_self_34 : decode cX3_self 34 = .ok (.ireturn, 1) := by decide +kernel
theorem dX3_set_0 : decode cX3_set 0 = .ok (.aload_n 0, 1) := by decide +kernel
theorem dX3_set_1 : decode cX3_set 1 = .ok (.iload_n 1, 1) := by decide +kernel
theorem dX3_set_2 : decode cX3_set 2 = .ok (.invokevirtual 69, 3) := by decide +kernel
theorem dX3_set_5 : decode cX3_set 5 = .ok (.aload_n 0, 1) := by decide +kernel
theorem dX3_set_6 : decode cX3_set 6 = .ok (.iload_n 2, 1) := by decide +kernel
theorem dX3_set_7 : decode cX3_set 7 = .ok (.invokevirtual 80, 3) := by decide +kernel
theorem dX3_set_10 : decode cX3_set 10 = .ok (.ifCond .ne 5, 3) := by decide +kernel
theorem dX3_set_13 : decode cX3_set 13 = .ok (.iconst 0, 1) := by decide +kernel
theorem dX3_set_14 : decode cX3_set 14 = .ok (.ireturn, 1) := by decide +kernel
theorem dX3_set_15 : decode cX3_set 15 = .ok (.aload_n 0, 1) := by decide +kernel
theorem dX3_set_16 : decode cX3_set 16 = .ok (.getfield 29, 3) := by decide +kernel
theorem dX3_set_19 : decode cX3_set 19 = .ok (.iload_n 1, 1) := by decide +kernel
theorem dX3_set_20 : decode cX3_set 20 = .ok (.iload_n 2, 1) := by decide +kernel
theorem dX3_set_21 : decode cX3_set 21 = .ok (.iastore, 1) := by decide +kernel
theorem dX3_set_22 : decode cX3_set 22 = .ok (.aload_n 0, 1) := by decide +kernel
theorem dX3_set_23 : decode cX3_set 23 = .ok (.invokevirtual 77, 3) := by decide +kernel
theorem dX3_set_26 : decode cX3_set 26 = .ok (.iconst 1, 1) := by decide +kernel
theorem dX3_set_27 : decode cX3_set 27 = .ok (.ireturn, 1) := by decide +kernel
theorem dX3_want_0 : decode cX3_want 0 = .ok (.aload_n 0, 1) := by decide +kernel
theorem dX3_want_1 : decode cX3_want 1 = .ok (.iload_n 1, 1) := by decide +kernel
theorem dX3_want_2 : decode cX3_want 2 = .ok (.invokevirtual 69, 3) := by decide +kernel
theorem dX3_want_5 : decode cX3_want 5 = .ok (.aload_n 0, 1) := by decide +kernel
theorem dX3_want_6 : decode cX3_want 6 = .ok (.iload_n 2, 1) := by decide +kernel
theorem dX3_want_7 : decode cX3_want 7 = .ok (.invokevirtual 80, 3) := by decide +kernel
theorem dX3_want_10 : decode cX3_want 10 = .ok (.ifCond .ne 5, 3) := by decide +kernel
theorem dX3_want_13 : decode cX3_want 13 = .ok (.iconst 0, 1) := by decide +kernel
theorem dX3_want_14 : decode cX3_want 14 = .ok (.ireturn, 1) := by decide +kernel
theorem dX3_want_15 : decode cX3_want 15 = .ok (.aload_n 0, 1) := by decide +kernel
theorem dX3_want_16 : decode cX3_want 16 = .ok (.getfield 33, 3) := by decide +kernel
theorem dX3_want_19 : decode cX3_want 19 = .ok (.iload_n 1, 1) := by decide +kernel
theorem dX3_want_20 : decode cX3_want 20 = .ok (.iload_n 2, 1) := by decide +kernel
theorem dX3_want_21 : decode cX3_want 21 = .ok (.iastore, 1) := by decide +kernel
theorem dX3_want_22 : decode cX3_want 22 = .ok (.aload_n 0, 1) := by decide +kernel
theorem dX3_want_23 : decode cX3_want 23 = .ok (.invokevirtual 77, 3) := by decide +kernel
theorem dX3_want_26 : decode cX3_want 26 = .ok (.iconst 1, 1) := by decide +kernel
theorem dX3_want_27 : decode cX3_want 27 = .ok (.ireturn, 1) := by decide +kernel
theorem dX3_press_0 : decode cX3_press 0 = .ok (.aload_n 0, 1) := by decide +kernel
theorem dX3_press_1 : decode cX3_press 1 = .ok (.iload_n 1, 1) := by decide +kernel
theorem dX3_press_2 : decode cX3_press 2 = .ok (.invokevirtual 69, 3) := by decide +kernel
theorem dX3_press_5 : decode cX3_press 5 = .ok (.iload_n 2, 1) := by decide +kernel
theorem dX3_press_6 : decode cX3_press 6 = .ok (.ifCond .lt 10, 3) := by decide +kernel
theorem dX3_press_9 : decode cX3_press 9 = .ok (.iload_n 2, 1) := by decide +kernel
theorem dX3_press_10 : decode cX3_press 10 = .ok (.sipush 1000, 3) := by decide +kernel
theorem dX3_press_13 : decode cX3_press 13 = .ok (.if_icmp .le 5, 3) := by decide +kernel
theorem dX3_press_16 : decode cX3_press 16 = .ok (.iconst 0, 1) := by decide +kernel
theorem dX3_press_17 : decode cX3_press 17 = .ok (.ireturn, 1) := by decide +kernel
theorem dX3_press_18 : decode cX3_press 18 = .ok (.iconst 0, 1) := by decide +kernel
theorem dX3_press_19 : decode cX3_press 19 = .ok (.istore_n 3, 1) := by decide +kernel
theorem dX3_press_20 : decode cX3_press 20 = .ok (.iload_n 3, 1) := by decide +kernel
theorem dX3_press_21 : decode cX3_press 21 = .ok (.aload_n 0, 1) := by decide +kernel
theorem dX3_press_22 : decode cX3_press 22 = .ok (.getfield 18, 3) := by decide +kernel
theorem dX3_press_25 : decode cX3_press 25 = .ok (.if_icmp .ge 37, 3) := by decide +kernel
theorem dX3_press_28 : decode cX3_press 28 = .ok (.aload_n 0, 1) := by decide +kernel
theorem dX3_press_29 : decode cX3_press 29 = .ok (.iload_n 1, 1) := by decide +kernel
theorem dX3_press_30 : decode cX3_press 30 = .ok (.iload_n 3, 1) := by decide +kernel
theorem dX3_press_31 : decode cX3_press 31 = .ok (.invokevirtual 73, 3) := by decide +kernel
theorem dX3_press_34 : decode cX3_press 34 = .ok (.ifCond .eq 22, 3) := by decide +kernel
theorem dX3_press_37 : decode cX3_press 37 = .ok (.aload_n 0, 1) := by decide +kernel
theorem dX3_press_38 : decode cX3_press 38 = .ok (.getfield 29, 3) := by decide +kernel
theorem dX3_press_41 : decode cX3_press 41 = .ok (.iload_n 3, 1) := by decide +kernel
theorem dX3_press_42 : decode cX3_press 42 = .ok (.aload_n 0, 1) := by decide +kernel
theorem dX3_press_43 : decode cX3_press 43 = .ok (.getfield 29, 3) := by decide +kernel
theorem dX3_press_46 : decode cX3_press 46 = .ok (.iload_n 3, 1) := by decide +kernel
theorem dX3_press_47 : decode cX3_press 47 = .ok (.iaload, 1) := by decide +kernel
theorem dX3_press_48 : decode cX3_press 48 = .ok (.iload_n 2, 1) := by decide +kernel
theorem dX3_press_49 : decode cX3_press 49 = .ok (.iadd, 1) := by decide +kernel
theorem dX3_press_50 : decode cX3_press 50 = .ok (.aload_n 0, 1) := by decide +kernel
theorem dX3_press_51 : decode cX3_press 51 = .ok (.getfield 26, 3) := by decide +kernel
theorem dX3_press_54 : decode cX3_press 54 = .ok (.irem, 1) := by decide +kernel
theorem dX3_press_55 : decode cX3_press 55 = .ok (.iastore, 1) := by decide +kernel
theorem dX3_press_56 : decode cX3_press 56 = .ok (.iinc 3 1, 3) := by decide +kernel
theorem dX3_press_59 : decode cX3_press 59 = .ok (.goto (-39), 3) := by decide +kernel
theorem dX3_press_62 : decode cX3_press 62 = .ok (.aload_n 0, 1) := by decide +kernel
theorem dX3_press_63 : decode cX3_press 63 = .ok (.invokevirtual 77, 3) := by decide +kernel
theorem dX3_press_66 : decode cX3_press 66 = .ok (.iconst 1, 1) := by decide +kernel
theorem dX3_press_67 : decode cX3_press 67 = .ok (.ireturn, 1) := by decide +kernel
theorem dX3_at_0 : decode cX3_at 0 = .ok (.aload_n 0, 1) := by decide +kernel
theorem dX3_at_1 : decode cX3_at 1 = .ok (.iload_n 1, 1) := by decide +kernel
theorem dX3_at_2 : decode cX3_at 2 = .ok (.invokevirtual 69, 3) := by decide +kernel
theorem dX3_at_5 : decode cX3_at 5 = .ok (.aload_n 0, 1) := by decide +kernel
theorem dX3_at_6 : decode cX3_at 6 = .ok (.getfield 29, 3) := by decide +kernel
theorem dX3_at_9 : decode cX3_at 9 = .ok (.iload_n 1, 1) := by decide +kernel
theorem dX3_at_10 : decode cX3_at 10 = .ok (.iaload, 1) := by decide +kernel
theorem dX3_at_11 : decode cX3_at 11 = .ok (.ireturn, 1) := by decide +kernel
theorem dX3_apart_0 : decode cX3_apart 0 = .ok (.iconst 0, 1) := by decide +kernel
theorem dX3_apart_1 : decode cX3_apart 1 = .ok (.istore_n 1, 1) := by decide +kernel
theorem dX3_apart_2 : decode cX3_apart 2 = .ok (.iconst 0, 1) := by decide +kernel
theorem dX3_apart_3 : decode cX3_apart 3 = .ok (.istore_n 2, 1) := by decide +kernel
theorem dX3_apart_4 : decode cX3_apart 4 = .ok (.iload_n 2, 1) := by decide +kernel
theorem dX3_apart_5 : decode cX3_apart 5 = .ok (.aload_n 0, 1) := by decide +kernel
theorem dX3_apart_6 : decode cX3_apart 6 = .ok (.getfield 18, 3) := by decide +kernel
theorem dX3_apart_9 : decode cX3_apart 9 = .ok (.if_icmp .ge 27, 3) := by decide +kernel
theorem dX3_apart_12 : decode cX3_apart 12 = .ok (.aload_n 0, 1) := by decide +kernel
theorem dX3_apart_13 : decode cX3_apart 13 = .ok (.getfield 29, 3) := by decide +kernel
theorem dX3_apart_16 : decode cX3_apart 16 = .ok (.iload_n 2, 1) := by decide +kernel
theorem dX3_apart_17 : decode cX3_apart 17 = .ok (.iaload, 1) := by decide +kernel
theorem dX3_apart_18 : decode cX3_apart 18 = .ok (.aload_n 0, 1) := by decide +kernel
theorem dX3_apart_19 : decode cX3_apart 19 = .ok (.getfield 33, 3) := by decide +kernel
theorem dX3_apart_22 : decode cX3_apart 22 = .ok (.iload_n 2, 1) := by decide +kernel
theorem dX3_apart_23 : decode cX3_apart 23 = .ok (.iaload, 1) := by decide +kernel
theorem dX3_apart_24 : decode cX3_apart 24 = .ok (.if_icmp .eq 6, 3) := by decide +kernel
theorem dX3_apart_27 : decode cX3_apart 27 = .ok (.iinc 1 1, 3) := by decide +kernel
theorem dX3_apart_30 : decode cX3_apart 30 = .ok (.iinc 2 1, 3) := by decide +kernel
theorem dX3_apart_33 : decode cX3_apart 33 = .ok (.goto (-29), 3) := by decide +kernel
theorem dX3_apart_36 : decode cX3_apart 36 = .ok (.iload_n 1, 1) := by decide +kernel
theorem dX3_apart_37 : decode cX3_apart 37 = .ok (.ireturn, 1) := by decide +kernel
theorem dX3_rank_0 : decode cX3_rank 0 = .ok (.aload_n 0, 1) := by decide +kernel
theorem dX3_rank_1 : decode cX3_rank 1 = .ok (.invokevirtual 84, 3) := by decide +kernel
theorem dX3_rank_4 : decode cX3_rank 4 = .ok (.aload_n 0, 1) := by decide +kernel
theorem dX3_rank_5 : decode cX3_rank 5 = .ok (.getfield 44, 3) := by decide +kernel
theorem dX3_rank_8 : decode cX3_rank 8 = .ok (.invokevirtual 87, 3) := by decide +kernel
theorem dX3_rank_11 : decode cX3_rank 11 = .ok (.ireturn, 1) := by decide +kernel
theorem dX3_solvable_0 : decode cX3_solvable 0 = .ok (.aload_n 0, 1) := by decide +kernel
theorem dX3_solvable_1 : decode cX3_solvable 1 = .ok (.invokevirtual 84, 3) := by decide +kernel
theorem dX3_solvable_4 : decode cX3_solvable 4 = .ok (.aload_n 0, 1) := by decide +kernel
theorem dX3_solvable_5 : decode cX3_solvable 5 = .ok (.getfield 44, 3) := by decide +kernel
theorem dX3_solvable_8 : decode cX3_solvable 8 = .ok (.invokevirtual 91, 3) := by decide +kernel
theorem dX3_solvable_11 : decode cX3_solvable 11 = .ok (.ireturn, 1) := by decide +kernel
theorem dX3_answer_0 : decode cX3_answer 0 = .ok (.aload_n 0, 1) := by decide +kernel
theorem dX3_answer_1 : decode cX3_answer 1 = .ok (.iload_n 1, 1) := by decide +kernel
theorem dX3_answer_2 : decode cX3_answer 2 = .ok (.invokevirtual 69, 3) := by decide +kernel
theorem dX3_answer_5 : decode cX3_answer 5 = .ok (.aload_n 0, 1) := by decide +kernel
theorem dX3_answer_6 : decode cX3_answer 6 = .ok (.invokevirtual 84, 3) := by decide +kernel
theorem dX3_answer_9 : decode cX3_answer 9 = .ok (.aload_n 0, 1) := by decide +kernel
theorem dX3_answer_10 : decode cX3_answer 10 = .ok (.getfield 44, 3) := by decide +kernel
theorem dX3_answer_13 : decode cX3_answer 13 = .ok (.invokevirtual 91, 3) := by decide +kernel
theorem dX3_answer_16 : decode cX3_answer 16 = .ok (.ifCond .eq 14, 3) := by decide +kernel
theorem dX3_answer_19 : decode cX3_answer 19 = .ok (.aload_n 0, 1) := by decide +kernel
theorem dX3_answer_20 : decode cX3_answer 20 = .ok (.getfield 44, 3) := by decide +kernel
theorem dX3_answer_23 : decode cX3_answer 23 = .ok (.iload_n 1, 1) := by decide +kernel
theorem dX3_answer_24 : decode cX3_answer 24 = .ok (.invokevirtual 95, 3) := by decide +kernel
theorem dX3_answer_27 : decode cX3_answer 27 = .ok (.goto 4, 3) := by decide +kernel
theorem dX3_answer_30 : decode cX3_answer 30 = .ok (.iconst (-1), 1) := by decide +kernel
theorem dX3_answer_31 : decode cX3_answer 31 = .ok (.ireturn, 1) := by decide +kernel
theorem dX3_quiet_0 : decode cX3_quiet 0 = .ok (.aload_n 0, 1) := by decide +kernel
theorem dX3_quiet_1 : decode cX3_quiet 1 = .ok (.iload_n 2, 1) := by decide +kernel
theorem dX3_quiet_2 : decode cX3_quiet 2 = .ok (.invokevirtual 69, 3) := by decide +kernel
theorem dX3_quiet_5 : decode cX3_quiet 5 = .ok (.aload_n 0, 1) := by decide +kernel
theorem dX3_quiet_6 : decode cX3_quiet 6 = .ok (.invokevirtual 84, 3) := by decide +kernel
theorem dX3_quiet_9 : decode cX3_quiet 9 = .ok (.iload_n 1, 1) := by decide +kernel
theorem dX3_quiet_10 : decode cX3_quiet 10 = .ok (.ifCond .lt 14, 3) := by decide +kernel
theorem dX3_quiet_13 : decode cX3_quiet 13 = .ok (.iload_n 1, 1) := by decide +kernel
theorem dX3_quiet_14 : decode cX3_quiet 14 = .ok (.aload_n 0, 1) := by decide +kernel
theorem dX3_quiet_15 : decode cX3_quiet 15 = .ok (.getfield 44, 3) := by decide +kernel
theorem dX3_quiet_18 : decode cX3_quiet 18 = .ok (.invokevirtual 98, 3) := by decide +kernel
theorem dX3_quiet_21 : decode cX3_quiet 21 = .ok (.if_icmp .lt 5, 3) := by decide +kernel
theorem dX3_quiet_24 : decode cX3_quiet 24 = .ok (.iconst (-1), 1) := by decide +kernel
theorem dX3_quiet_25 : decode cX3_quiet 25 = .ok (.ireturn, 1) := by decide +kernel
theorem dX3_quiet_26 : decode cX3_quiet 26 = .ok (.aload_n 0, 1) := by decide +kernel
theorem dX3_quiet_27 : decode cX3_quiet 27 = .ok (.getfield 44, 3) := by decide +kernel
theorem dX3_quiet_30 : decode cX3_quiet 30 = .ok (.iload_n 1, 1) := by decide +kernel
theorem dX3_quiet_31 : decode cX3_quiet 31 = .ok (.invokevirtual 101, 3) := by decide +kernel
theorem dX3_quiet_34 : decode cX3_quiet 34 = .ok (.iload_n 2, 1) := by decide +kernel
theorem dX3_quiet_35 : decode cX3_quiet 35 = .ok (.iaload, 1) := by decide +kernel
theorem dX3_quiet_36 : decode cX3_quiet 36 = .ok (.ireturn, 1) := by decide +kernel
theorem dX3_count_0 : decode cX3_count 0 = .ok (.aload_n 0, 1) := by decide +kernel
theorem dX3_count_1 : decode cX3_count 1 = .ok (.invokevirtual 84, 3) := by decide +kernel
theorem dX3_count_4 : decode cX3_count 4 = .ok (.aload_n 0, 1) := by decide +kernel
theorem dX3_count_5 : decode cX3_count 5 = .ok (.getfield 58, 3) := by decide +kernel
theorem dX3_count_8 : decode cX3_count 8 = .ok (.aload_n 0, 1) := by decide +kernel
theorem dX3_count_9 : decode cX3_count 9 = .ok (.getfield 44, 3) := by decide +kernel
theorem dX3_count_12 : decode cX3_count 12 = .ok (.invokevirtual 91, 3) := by decide +kernel
theorem dX3_count_15 : decode cX3_count 15 = .ok (.ifCond .eq 7, 3) := by decide +kernel
theorem dX3_count_18 : decode cX3_count 18 = .ok (.iconst 1, 1) := by decide +kernel
theorem dX3_count_19 : decode cX3_count 19 = .ok (.goto 4, 3) := by decide +kernel
theorem dX3_count_22 : decode cX3_count 22 = .ok (.iconst 0, 1) := by decide +kernel
theorem dX3_count_23 : decode cX3_count 23 = .ok (.invokevirtual 105, 3) := by decide +kernel
theorem dX3_count_26 : decode cX3_count 26 = .ok (.iconst 0, 1) := by decide +kernel
theorem dX3_count_27 : decode cX3_count 27 = .ok (.istore_n 2, 1) := by decide +kernel
theorem dX3_count_28 : decode cX3_count 28 = .ok (.iload_n 2, 1) := by decide +kernel
theorem dX3_count_29 : decode cX3_count 29 = .ok (.aload_n 0, 1) := by decide +kernel
theorem dX3_count_30 : decode cX3_count 30 = .ok (.getfield 44, 3) := by decide +kernel
theorem dX3_count_33 : decode cX3_count 33 = .ok (.invokevirtual 98, 3) := by decide +kernel
theorem dX3_count_36 : decode cX3_count 36 = .ok (.if_icmp .ge 20, 3) := by decide +kernel
theorem dX3_count_39 : decode cX3_count 39 = .ok (.aload_n 0, 1) := by decide +kernel
theorem dX3_count_40 : decode cX3_count 40 = .ok (.getfield 58, 3) := by decide +kernel
theorem dX3_count_43 : decode cX3_count 43 = .ok (.aload_n 0, 1) := by decide +kernel
theorem dX3_count_44 : decode cX3_count 44 = .ok (.getfield 26, 3) := by decide +kernel
theorem dX3_count_47 : decode cX3_count 47 = .ok (.invokevirtual 108, 3) := by decide +kernel
theorem dX3_count_50 : decode cX3_count 50 = .ok (.iinc 2 1, 3) := by decide +kernel
theorem dX3_count_53 : decode cX3_count 53 = .ok (.goto (-25), 3) := by decide +kernel
theorem dX3_count_56 : decode cX3_count 56 = .ok (.aload_n 0, 1) := by decide +kernel
theorem dX3_count_57 : decode cX3_count 57 = .ok (.getfield 58, 3) := by decide +kernel
theorem dX3_count_60 : decode cX3_count 60 = .ok (.iload_n 1, 1) := by decide +kernel
theorem dX3_count_61 : decode cX3_count 61 = .ok (.invokevirtual 111, 3) := by decide +kernel
theorem dX3_count_64 : decode cX3_count 64 = .ok (.ireturn, 1) := by decide +kernel
theorem dX3_fewest_0 : decode cX3_fewest 0 = .ok (.aload_n 0, 1) := by decide +kernel
theorem dX3_fewest_1 : decode cX3_fewest 1 = .ok (.invokevirtual 114, 3) := by decide +kernel
theorem dX3_fewest_4 : decode cX3_fewest 4 = .ok (.aload_n 0, 1) := by decide +kernel
theorem dX3_fewest_5 : decode cX3_fewest 5 = .ok (.getfield 51, 3) := by decide +kernel
theorem dX3_fewest_8 : decode cX3_fewest 8 = .ok (.invokevirtual 117, 3) := by decide +kernel
theorem dX3_fewest_11 : decode cX3_fewest 11 = .ok (.ireturn, 1) := by decide +kernel
theorem dX3_best_0 : decode cX3_best 0 = .ok (.aload_n 0, 1) := by decide +kernel
theorem dX3_best_1 : decode cX3_best 1 = .ok (.iload_n 1, 1) := by decide +kernel
theorem dX3_best_2 : decode cX3_best 2 = .ok (.invokevirtual 69, 3) := by decide +kernel
theorem dX3_best_5 : decode cX3_best 5 = .ok (.aload_n 0, 1) := by decide +kernel
theorem dX3_best_6 : decode cX3_best 6 = .ok (.invokevirtual 114, 3) := by decide +kernel
theorem dX3_best_9 : decode cX3_best 9 = .ok (.aload_n 0, 1) := by decide +kernel
theorem dX3_best_10 : decode cX3_best 10 = .ok (.getfield 51, 3) := by decide +kernel
theorem dX3_best_13 : decode cX3_best 13 = .ok (.invokevirtual 117, 3) := by decide +kernel
theorem dX3_best_16 : decode cX3_best 16 = .ok (.ifCond .ge 13, 3) := by decide +kernel
theorem dX3_best_19 : decode cX3_best 19 = .ok (.aload_n 0, 1) := by decide +kernel
theorem dX3_best_20 : decode cX3_best 20 = .ok (.getfield 51, 3) := by decide +kernel
theorem dX3_best_23 : decode cX3_best 23 = .ok (.invokevirtual 117, 3) := by decide +kernel
theorem dX3_best_26 : decode cX3_best 26 = .ok (.goto 11, 3) := by decide +kernel
theorem dX3_best_29 : decode cX3_best 29 = .ok (.aload_n 0, 1) := by decide +kernel
theorem dX3_best_30 : decode cX3_best 30 = .ok (.getfield 51, 3) := by decide +kernel
theorem dX3_best_33 : decode cX3_best 33 = .ok (.iload_n 1, 1) := by decide +kernel
theorem dX3_best_34 : decode cX3_best 34 = .ok (.invokevirtual 120, 3) := by decide +kernel
theorem dX3_best_37 : decode cX3_best 37 = .ok (.ireturn, 1) := by decide +kernel
theorem dX3_alone_0 : decode cX3_alone 0 = .ok (.aload_n 0, 1) := by decide +kernel
theorem dX3_alone_1 : decode cX3_alone 1 = .ok (.iload_n 1, 1) := by decide +kernel
theorem dX3_alone_2 : decode cX3_alone 2 = .ok (.invokevirtual 69, 3) := by decide +kernel
theorem dX3_alone_5 : decode cX3_alone 5 = .ok (.aload_n 0, 1) := by decide +kernel
theorem dX3_alone_6 : decode cX3_alone 6 = .ok (.invokevirtual 84, 3) := by decide +kernel
theorem dX3_alone_9 : decode cX3_alone 9 = .ok (.iconst 0, 1) := by decide +kernel
theorem dX3_alone_10 : decode cX3_alone 10 = .ok (.istore_n 2, 1) := by decide +kernel
theorem dX3_alone_11 : decode cX3_alone 11 = .ok (.iload_n 2, 1) := by decide +kernel
theorem dX3_alone_12 : decode cX3_alone 12 = .ok (.aload_n 0, 1) := by decide +kernel
theorem dX3_alone_13 : decode cX3_alone 13 = .ok (.getfield 44, 3) := by decide +kernel
theorem dX3_alone_16 : decode cX3_alone 16 = .ok (.invokevirtual 98, 3) := by decide +kernel
theorem dX3_alone_19 : decode cX3_alone 19 = .ok (.if_icmp .ge 24, 3) := by decide +kernel
theorem dX3_alone_22 : decode cX3_alone 22 = .ok (.aload_n 0, 1) := by decide +kernel
theorem dX3_alone_23 : decode cX3_alone 23 = .ok (.getfield 44, 3) := by decide +kernel
theorem dX3_alone_26 : decode cX3_alone 26 = .ok (.iload_n 2, 1) := by decide +kernel
theorem dX3_alone_27 : decode cX3_alone 27 = .ok (.invokevirtual 101, 3) := by decide +kernel
theorem dX3_alone_30 : decode cX3_alone 30 = .ok (.iload_n 1, 1) := by decide +kernel
theorem dX3_alone_31 : decode cX3_alone 31 = .ok (.iaload, 1) := by decide +kernel
theorem dX3_alone_32 : decode cX3_alone 32 = .ok (.ifCond .eq 5, 3) := by decide +kernel
theorem dX3_alone_35 : decode cX3_alone 35 = .ok (.iconst 0, 1) := by decide +kernel
theorem dX3_alone_36 : decode cX3_alone 36 = .ok (.ireturn, 1) := by decide +kernel
theorem dX3_alone_37 : decode cX3_alone 37 = .ok (.iinc 2 1, 3) := by decide +kernel
theorem dX3_alone_40 : decode cX3_alone 40 = .ok (.goto (-29), 3) := by decide +kernel
theorem dX3_alone_43 : decode cX3_alone 43 = .ok (.iconst 1, 1) := by decide +kernel
theorem dX3_alone_44 : decode cX3_alone 44 = .ok (.ireturn, 1) := by decide +kernel
theorem dX3_clear_0 : decode cX3_clear 0 = .ok (.iconst 0, 1) := by decide +kernel
theorem dX3_clear_1 : decode cX3_clear 1 = .ok (.istore_n 1, 1) := by decide +kernel
theorem dX3_clear_2 : decode cX3_clear 2 = .ok (.iload_n 1, 1) := by decide +kernel
theorem dX3_clear_3 : decode cX3_clear 3 = .ok (.aload_n 0, 1) := by decide +kernel
theorem dX3_clear_4 : decode cX3_clear 4 = .ok (.getfield 18, 3) := by decide +kernel
theorem dX3_clear_7 : decode cX3_clear 7 = .ok (.if_icmp .ge 23, 3) := by decide +kernel
theorem dX3_clear_10 : decode cX3_clear 10 = .ok (.aload_n 0, 1) := by decide +kernel
theorem dX3_clear_11 : decode cX3_clear 11 = .ok (.getfield 29, 3) := by decide +kernel
theorem dX3_clear_14 : decode cX3_clear 14 = .ok (.iload_n 1, 1) := by decide +kernel
theorem dX3_clear_15 : decode cX3_clear 15 = .ok (.iconst 0, 1) := by decide +kernel
theorem dX3_clear_16 : decode cX3_clear 16 = .ok (.iastore, 1) := by decide +kernel
theorem dX3_clear_17 : decode cX3_clear 17 = .ok (.aload_n 0, 1) := by decide +kernel
theorem dX3_clear_18 : decode cX3_clear 18 = .ok (.getfield 33, 3) := by decide +kernel
theorem dX3_clear_21 : decode cX3_clear 21 = .ok (.iload_n 1, 1) := by decide +kernel
theorem dX3_clear_22 : decode cX3_clear 22 = .ok (.iconst 0, 1) := by decide +kernel
theorem dX3_clear_23 : decode cX3_clear 23 = .ok (.iastore, 1) := by decide +kernel
theorem dX3_clear_24 : decode cX3_clear 24 = .ok (.iinc 1 1, 3) := by decide +kernel
theorem dX3_clear_27 : decode cX3_clear 27 = .ok (.goto (-25), 3) := by decide +kernel
theorem dX3_clear_30 : decode cX3_clear 30 = .ok (.aload_n 0, 1) := by decide +kernel
theorem dX3_clear_31 : decode cX3_clear 31 = .ok (.invokevirtual 77, 3) := by decide +kernel
theorem dX3_clear_34 : decode cX3_clear 34 = .ok (.return_, 1) := by decide +kernel
theorem dX3_primeFor_0 : decode cX3_primeFor 0 = .ok (.iload_n 0, 1) := by decide +kernel
theorem dX3_primeFor_1 : decode cX3_primeFor 1 = .ok (.iconst 3, 1) := by decide +kernel
theorem dX3_primeFor_2 : decode cX3_primeFor 2 = .ok (.if_icmp .ge 5, 3) := by decide +kernel
theorem dX3_primeFor_5 : decode cX3_primeFor 5 = .ok (.iconst 2, 1) := by decide +kernel
theorem dX3_primeFor_6 : decode cX3_primeFor 6 = .ok (.ireturn, 1) := by decide +kernel
theorem dX3_primeFor_7 : decode cX3_primeFor 7 = .ok (.iload_n 0, 1) := by decide +kernel
theorem dX3_primeFor_8 : decode cX3_primeFor 8 = .ok (.iconst 5, 1) := by decide +kernel
theorem dX3_primeFor_9 : decode cX3_primeFor 9 = .ok (.if_icmp .ge 5, 3) := by decide +kernel
theorem dX3_primeFor_12 : decode cX3_primeFor 12 = .ok (.iconst 3, 1) := by decide +kernel
theorem dX3_primeFor_13 : decode cX3_primeFor 13 = .ok (.ireturn, 1) := by decide +kernel
theorem dX3_primeFor_14 : decode cX3_primeFor 14 = .ok (.iload_n 0, 1) := by decide +kernel
theorem dX3_primeFor_15 : decode cX3_primeFor 15 = .ok (.bipush 7, 2) := by decide +kernel
theorem dX3_primeFor_17 : decode cX3_primeFor 17 = .ok (.if_icmp .ge 7, 3) := by decide +kernel
theorem dX3_primeFor_20 : decode cX3_primeFor 20 = .ok (.iconst 5, 1) := by decide +kernel
theorem dX3_primeFor_21 : decode cX3_primeFor 21 = .ok (.goto 5, 3) := by decide +kernel
theorem dX3_primeFor_24 : decode cX3_primeFor 24 = .ok (.bipush 7, 2) := by decide +kernel
theorem dX3_primeFor_26 : decode cX3_primeFor 26 = .ok (.ireturn, 1) := by decide +kernel
theorem dX3_mustExist_0 : decode cX3_mustExist 0 = .ok (.iload_n 1, 1) := by decide +kernel
theorem dX3_mustExist_1 : decode cX3_mustExist 1 = .ok (.ifCond .lt 11, 3) := by decide +kernel
theorem dX3_mustExist_4 : decode cX3_mustExist 4 = .ok (.iload_n 1, 1) := by decide +kernel
theorem dX3_mustExist_5 : decode cX3_mustExist 5 = .ok (.aload_n 0, 1) := by decide +kernel
theorem dX3_mustExist_6 : decode cX3_mustExist 6 = .ok (.getfield 18, 3) := by decide +kernel
theorem dX3_mustExist_9 : decode cX3_mustExist 9 = .ok (.if_icmp .lt 13, 3) := by decide +kernel
theorem dX3_mustExist_12 : decode cX3_mustExist 12 = .ok (.new 123, 3) := by decide +kernel
theorem dX3_mustExist_15 : decode cX3_mustExist 15 = .ok (.dup, 1) := by decide +kernel
theorem dX3_mustExist_16 : decode cX3_mustExist 16 = .ok (.ldc 125, 2) := by decide +kernel
theorem dX3_mustExist_18 : decode cX3_mustExist 18 = .ok (.invokespecial 127, 3) := by decide +kernel
theorem dX3_mustExist_21 : decode cX3_mustExist 21 = .ok (.athrow, 1) := by decide +kernel
theorem dX3_mustExist_22 : decode cX3_mustExist 22 = .ok (.return_, 1) := by decide +kernel
theorem dX3_isState_0 : decode cX3_isState 0 = .ok (.iload_n 1, 1) := by decide +kernel
theorem dX3_isState_1 : decode cX3_isState 1 = .ok (.ifCond .lt 15, 3) := by decide +kernel
theorem dX3_isState_4 : decode cX3_isState 4 = .ok (.iload_n 1, 1) := by decide +kernel
theorem dX3_isState_5 : decode cX3_isState 5 = .ok (.aload_n 0, 1) := by decide +kernel
theorem dX3_isState_6 : decode cX3_isState 6 = .ok (.getfield 26, 3) := by decide +kernel
theorem dX3_isState_9 : decode cX3_isState 9 = .ok (.if_icmp .ge 7, 3) := by decide +kernel
theorem dX3_isState_12 : decode cX3_isState 12 = .ok (.iconst 1, 1) := by decide +kernel
theorem dX3_isState_13 : decode cX3_isState 13 = .ok (.goto 4, 3) := by decide +kernel
theorem dX3_isState_16 : decode cX3_isState 16 = .ok (.iconst 0, 1) := by decide +kernel
theorem dX3_isState_17 : decode cX3_isState 17 = .ok (.ireturn, 1) := by decide +kernel
theorem dX3_touches_0 : decode cX3_touches 0 = .ok (.aload_n 0, 1) := by decide +kernel
theorem dX3_touches_1 : decode cX3_touches 1 = .ok (.getfield 36, 3) := by decide +kernel
theorem dX3_touches_4 : decode cX3_touches 4 = .ok (.iload_n 1, 1) := by decide +kernel
theorem dX3_touches_5 : decode cX3_touches 5 = .ok (.iaload, 1) := by decide +kernel
theorem dX3_touches_6 : decode cX3_touches 6 = .ok (.iload_n 2, 1) := by decide +kernel
theorem dX3_touches_7 : decode cX3_touches 7 = .ok (.ishr, 1) := by decide +kernel
theorem dX3_touches_8 : decode cX3_touches 8 = .ok (.iconst 1, 1) := by decide +kernel
theorem dX3_touches_9 : decode cX3_touches 9 = .ok (.iand, 1) := by decide +kernel
theorem dX3_touches_10 : decode cX3_touches 10 = .ok (.iconst 1, 1) := by decide +kernel
theorem dX3_touches_11 : decode cX3_touches 11 = .ok (.if_icmp .ne 7, 3) := by decide +kernel
theorem dX3_touches_14 : decode cX3_touches 14 = .ok (.iconst 1, 1) := by decide +kernel
theorem dX3_touches_15 : decode cX3_touches 15 = .ok (.goto 4, 3) := by decide +kernel
theorem dX3_touches_18 : decode cX3_touches 18 = .ok (.iconst 0, 1) := by decide +kernel
theorem dX3_touches_19 : decode cX3_touches 19 = .ok (.ireturn, 1) := by decide +kernel
theorem dX3_forget_0 : decode cX3_forget 0 = .ok (.aload_n 0, 1) := by decide +kernel
theorem dX3_forget_1 : decode cX3_forget 1 = .ok (.iconst 0, 1) := by decide +kernel
theorem dX3_forget_2 : decode cX3_forget 2 = .ok (.putfield 62, 3) := by decide +kernel
theorem dX3_forget_5 : decode cX3_forget 5 = .ok (.aload_n 0, 1) := by decide +kernel
theorem dX3_forget_6 : decode cX3_forget 6 = .ok (.iconst 0, 1) := by decide +kernel
theorem dX3_forget_7 : decode cX3_forget 7 = .ok (.putfield 66, 3) := by decide +kernel
theorem dX3_forget_10 : decode cX3_forget 10 = .ok (.return_, 1) := by decide +kernel
theorem dX3_work_0 : decode cX3_work 0 = .ok (.aload_n 0, 1) := by decide +kernel
theorem dX3_work_1 : decode cX3_work 1 = .ok (.getfield 62, 3) := by decide +kernel
theorem dX3_work_4 : decode cX3_work 4 = .ok (.ifCond .ne 34, 3) := by decide +kernel
theorem dX3_work_7 : decode cX3_work 7 = .ok (.aload_n 0, 1) := by decide +kernel
theorem dX3_work_8 : decode cX3_work 8 = .ok (.getfield 44, 3) := by decide +kernel
theorem dX3_work_11 : decode cX3_work 11 = .ok (.aload_n 0, 1) := by decide +kernel
theorem dX3_work_12 : decode cX3_work 12 = .ok (.getfield 36, 3) := by decide +kernel
theorem dX3_work_15 : decode cX3_work 15 = .ok (.aload_n 0, 1) := by decide +kernel
theorem dX3_work_16 : decode cX3_work 16 = .ok (.getfield 29, 3) := by decide +kernel
theorem dX3_work_19 : decode cX3_work 19 = .ok (.aload_n 0, 1) := by decide +kernel
theorem dX3_work_20 : decode cX3_work 20 = .ok (.getfield 33, 3) := by decide +kernel
theorem dX3_work_23 : decode cX3_work 23 = .ok (.invokevirtual 130, 3) := by decide +kernel
theorem dX3_work_26 : decode cX3_work 26 = .ok (.aload_n 0, 1) := by decide +kernel
theorem dX3_work_27 : decode cX3_work 27 = .ok (.getfield 44, 3) := by decide +kernel
theorem dX3_work_30 : decode cX3_work 30 = .ok (.invokevirtual 134, 3) := by decide +kernel
theorem dX3_work_33 : decode cX3_work 33 = .ok (.aload_n 0, 1) := by decide +kernel
theorem dX3_work_34 : decode cX3_work 34 = .ok (.iconst 1, 1) := by decide +kernel
theorem dX3_work_35 : decode cX3_work 35 = .ok (.putfield 62, 3) := by decide +kernel
theorem dX3_work_38 : decode cX3_work 38 = .ok (.return_, 1) := by decide +kernel
theorem dX3_seek_0 : decode cX3_seek 0 = .ok (.aload_n 0, 1) := by decide +kernel
theorem dX3_seek_1 : decode cX3_seek 1 = .ok (.invokevirtual 84, 3) := by decide +kernel
theorem dX3_seek_4 : decode cX3_seek 4 = .ok (.aload_n 0, 1) := by decide +kernel
theorem dX3_seek_5 : decode cX3_seek 5 = .ok (.getfield 66, 3) := by decide +kernel
theorem dX3_seek_8 : decode cX3_seek 8 = .ok (.ifCond .ne 19, 3) := by decide +kernel
theorem dX3_seek_11 : decode cX3_seek 11 = .ok (.aload_n 0, 1) := by decide +kernel
theorem dX3_seek_12 : decode cX3_seek 12 = .ok (.getfield 51, 3) := by decide +kernel
theorem dX3_seek_15 : decode cX3_seek 15 = .ok (.aload_n 0, 1) := by decide +kernel
theorem dX3_seek_16 : decode cX3_seek 16 = .ok (.getfield 44, 3) := by decide +kernel
theorem dX3_seek_19 : decode cX3_seek 19 = .ok (.invokevirtual 137, 3) := by decide +kernel
theorem dX3_seek_22 : decode cX3_seek 22 = .ok (.aload_n 0, 1) := by decide +kernel
theorem dX3_seek_23 : decode cX3_seek 23 = .ok (.iconst 1, 1) := by decide +kernel
theorem dX3_seek_24 : decode cX3_seek 24 = .ok (.putfield 66, 3) := by decide +kernel
theorem dX3_seek_27 : decode cX3_seek 27 = .ok (.return_, 1) := by decide +kernel
theorem dJx00060_init_a7421_0 : decode cJx00060_init_a7421 0 = .ok (.aload_n 0, 1) := by decide +kernel
theorem dJx00060_init_a7421_1 : decode cJx00060_init_a7421 1 = .ok (.aload_n 1, 1) := by decide +kernel
theorem dJx00060_init_a7421_2 : decode cJx00060_init_a7421 2 = .ok (.invokespecial 7, 3) := by decide +kernel
theorem dJx00060_init_a7421_5 : decode cJx00060_init_a7421 5 = .ok (.return_, 1) := by decide +kernel
theorem dJ9_max_7cf53_0 : decode cJ9_max_7cf53 0 = .ok (.iload_n 0, 1) := by decide +kernel
theorem dJ9_max_7cf53_1 : decode cJ9_max_7cf53 1 = .ok (.iload_n 1, 1) := by decide +kernel
theorem dJ9_max_7cf53_2 : decode cJ9_max_7cf53 2 = .ok (.if_icmp .lt 7, 3) := by decide +kernel
theorem dJ9_max_7cf53_5 : decode cJ9_max_7cf53 5 = .ok (.iload_n 0, 1) := by decide +kernel
theorem dJ9_max_7cf53_6 : decode cJ9_max_7cf53 6 = .ok (.goto 4, 3) := by decide +kernel
theorem dJ9_max_7cf53_9 : decode cJ9_max_7cf53 9 = .ok (.iload_n 1, 1) := by decide +kernel
theorem dJ9_max_7cf53_10 : decode cJ9_max_7cf53 10 = .ok (.ireturn, 1) := by decide +kernel
theorem dJ9_min_7cf53_0 : decode cJ9_min_7cf53 0 = .ok (.iload_n 0, 1) := by decide +kernel
theorem dJ9_min_7cf53_1 : decode cJ9_min_7cf53 1 = .ok (.iload_n 1, 1) := by decide +kernel
theorem dJ9_min_7cf53_2 : decode cJ9_min_7cf53 2 = .ok (.if_icmp .gt 7, 3) := by decide +kernel
theorem dJ9_min_7cf53_5 : decode cJ9_min_7cf53 5 = .ok (.iload_n 0, 1) := by decide +kernel
theorem dJ9_min_7cf53_6 : decode cJ9_min_7cf53 6 = .ok (.goto 4, 3) := by decide +kernel
theorem dJ9_min_7cf53_9 : decode cJ9_min_7cf53 9 = .ok (.iload_n 1, 1) := by decide +kernel
theorem dJ9_min_7cf53_10 : decode cJ9_min_7cf53 10 = .ok (.ireturn, 1) := by decide +kernel

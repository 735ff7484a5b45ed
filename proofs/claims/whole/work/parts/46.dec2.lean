theorem dX4_init_0 : decode cX4_init 0 = .ok (.aload_n 0, 1) := by decide +kernel
theorem dX4_init_1 : decode cX4_init 1 = .ok (.invokespecial 1, 3) := by decide +kernel
theorem dX4_init_4 : decode cX4_init 4 = .ok (.aload_n 0, 1) := by decide +kernel
theorem dX4_init_5 : decode cX4_init 5 = .ok (.sipush 900, 3) := by decide +kernel
theorem dX4_init_8 : decode cX4_init 8 = .ok (.newarray .boolean, 2) := by decide +kernel
theorem dX4_init_10 : decode cX4_init 10 = .ok (.putfield 7, 3) := by decide +kernel
theorem dX4_init_13 : decode cX4_init 13 = .ok (.aload_n 0, 1) := by decide +kernel
theorem dX4_init_14 : decode cX4_init 14 = .ok (.bipush 30, 2) := by decide +kernel
theorem dX4_init_16 : decode cX4_init 16 = .ok (.newarray .boolean, 2) := by decide +kernel
theorem dX4_init_18 : decode cX4_init 18 = .ok (.putfield 13, 3) := by decide +kernel
theorem dX4_init_21 : decode cX4_init 21 = .ok (.aload_n 0, 1) := by decide +kernel
theorem dX4_init_22 : decode cX4_init 22 = .ok (.bipush 30, 2) := by decide +kernel
theorem dX4_init_24 : decode cX4_init 24 = .ok (.newarray .int, 2) := by decide +kernel
theorem dX4_init_26 : decode cX4_init 26 = .ok (.putfield 16, 3) := by decide +kernel
theorem dX4_init_29 : decode cX4_init 29 = .ok (.aload_n 0, 1) := by decide +kernel
theorem dX4_init_30 : decode cX4_init 30 = .ok (.bipush 30, 2) := by decide +kernel
theorem dX4_init_32 : decode cX4_init 32 = .ok (.newarray .int, 2) := by decide +kernel
theorem dX4_init_34 : decode cX4_init 34 = .ok (.putfield 20, 3) := by decide +kernel
theorem dX4_init_37 : decode cX4_init 37 = .ok (.aload_n 0, 1) := by decide +kernel
theorem dX4_init_38 : decode cX4_init 38 = .ok (.sipush 900, 3) := by decide +kernel
theorem dX4_init_41 : decode cX4_init 41 = .ok (.newarray .int, 2) := by decide +kernel
theorem dX4_init_43 : decode cX4_init 43 = .ok (.putfield 23, 3) := by decide +kernel
theorem dX4_init_46 : decode cX4_init 46 = .ok (.aload_n 0, 1) := by decide +kernel
theorem dX4_init_47 : decode cX4_init 47 = .ok (.sipush 900, 3) := by decide +kernel
theorem dX4_init_50 : decode cX4_init 50 = .ok (.newarray .int, 2) := by decide +kernel
theorem dX4_init_52 : decode cX4_init 52 = .ok (.putfield 26, 3) := by decide +kernel
theorem dX4_init_55 : decode cX4_init 55 = .ok (.aload_n 0, 1) := by decide +kernel
theorem dX4_init_56 : decode cX4_init 56 = .ok (.bipush 30, 2) := by decide +kernel
theorem dX4_init_58 : decode cX4_init 58 = .ok (.newarray .int, 2) := by decide +kernel
theorem dX4_init_60 : decode cX4_init 60 = .ok (.putfield 29, 3) := by decide +kernel
theorem dX4_init_63 : decode cX4_init 63 = .ok (.aload_n 0, 1) := by decide +kernel
theorem dX4_init_64 : decode cX4_init 64 = .ok (.bipush 30, 2) := by decide +kernel
theorem dX4_init_66 : decode cX4_init 66 = .ok (.newarray .boolean, 2) := by decide +kernel
theorem dX4_init_68 : decode cX4_init 68 = .ok (.putfield 32, 3) := by decide +kernel
theorem dX4_init_71 : decode cX4_init 71 = .ok (.aload_n 0, 1) := by decide +kernel
theorem dX4_init_72 : decode cX4_init 72 = .ok (.bipush 30, 2) := by decide +kernel
theorem dX4_init_74 : decode cX4_init 74 = .ok (.newarray .int, 2) := by decide +kernel
theorem dX4_init_76 : decode cX4_init 76 = .ok (.putfield 35, 3) := by decide +kernel
theorem dX4_init_79 : decode cX4_init 79 = .ok (.aload_n 0, 1) := by decide +kernel
theorem dX4_init_80 : decode cX4_init 80 = .ok (.bipush 30, 2) := by decide +kernel
theorem dX4_init_82 : decode cX4_init 82 = .ok (.newarray .int, 2) := by decide +kernel
theorem dX4_init_84 : decode cX4_init 84 = .ok (.putfield 38, 3) := by decide +kernel
theorem dX4_init_87 : decode cX4_init 87 = .ok (.aload_n 0, 1) := by decide +kernel
theorem dX4_init_88 : decode cX4_init 88 = .ok (.bipush 30, 2) := by decide +kernel
theorem dX4_init_90 : decode cX4_init 90 = .ok (.newarray .int, 2) := by decide +kernel
theorem dX4_init_92 : decode cX4_init 92 = .ok (.putfield 41, 3) := by decide +kernel
theorem dX4_init_95 : decode cX4_init 95 = .ok (.aload_n 0, 1) := by decide +kernel
theorem dX4_init_96 : decode cX4_init 96 = .ok (.sipush 900, 3) := by decide +kernel
theorem dX4_init_99 : decode cX4_init 99 = .ok (.newarray .int, 2) := by decide +kernel
theorem dX4_init_101 : decode cX4_init 101 = .ok (.putfield 44, 3) := by decide +kernel
theorem dX4_init_104 : decode cX4_init 104 = .ok (.aload_n 0, 1) := by decide +kernel
theorem dX4_init_105 : decode cX4_init 105 = .ok (.bipush 30, 2) := by decide +kernel
theorem dX4_init_107 : decode cX4_init 107 = .ok (.newarray .int, 2) := by decide +kernel
theorem dX4_init_109 : decode cX4_init 109 = .ok (.putfield 47, 3) := by decide +kernel
theorem dX4_init_112 : decode cX4_init 112 = .ok (.aload_n 0, 1) := by decide +kernel
theorem dX4_init_113 : decode cX4_init 113 = .ok (.bipush 30, 2) := by decide +kernel
theorem dX4_init_115 : decode cX4_init 115 = .ok (.newarray .int, 2) := by decide +kernel
theorem dX4_init_117 : decode cX4_init 117 = .ok (.putfield 50, 3) := by decide +kernel
theorem dX4_init_120 : decode cX4_init 120 = .ok (.aload_n 0, 1) := by decide +kernel
theorem dX4_init_121 : decode cX4_init 121 = .ok (.bipush 30, 2) := by decide +kernel
theorem dX4_init_123 : decode cX4_init 123 = .ok (.newarray .int, 2) := by decide +kernel
theorem dX4_init_125 : decode cX4_init 125 = .ok (.putfield 53, 3) := by decide +kernel
theorem dX4_init_128 : decode cX4_init 128 = .ok (.aload_n 0, 1) := by decide +kernel
theorem dX4_init_129 : decode cX4_init 129 = .ok (.iload_n 1, 1) := by decide +kernel
theorem dX4_init_130 : decode cX4_init 130 = .ok (.iconst 1, 1) := by decide +kernel
theorem dX4_init_131 : decode cX4_init 131 = .ok (.if_icmp .ge 7, 3) := by decide +kernel
theorem dX4_init_134 : decode cX4_init 134 = .ok (.iconst 1, 1) := by decide +kernel
theorem dX4_init_135 : decode cX4_init 135 = .ok (.goto 15, 3) := by decide +kernel
theorem dX4_init_138 : decode cX4_init 138 = .ok (.iload_n 1, 1) := by decide +kernel
theorem dX4_init_139 : decode cX4_init 139 = .ok (.bipush 30, 2) := by decide +kernel
theorem dX4_init_141 : decode cX4_init 141 = .ok (.if_icmp .le 8, 3) := by decide +kernel
theorem dX4_init_144 : decode cX4_init 144 = .ok (.bipush 30, 2) := by decide +kernel
theorem dX4_init_146 : decode cX4_init 146 = .ok (.goto 4, 3) := by decide +kernel
theorem dX4_init_149 : decode cX4_init 149 = .ok (.iload_n 1, 1) := by decide +kernel
theorem dX4_init_150 : decode cX4_init 150 = .ok (.putfield 56, 3) := by decide +kernel
theorem dX4_init_153 : decode cX4_init 153 = .ok (.aload_n 0, 1) := by decide +kernel
theorem dX4_init_154 : decode cX4_init 154 = .ok (.iload_n 2, 1) := by decide +kernel
theorem dX4_init_155 : decode cX4_init 155 = .ok (.iconst 3, 1) := by decide +kernel
theorem dX4_init_156 : decode cX4_init 156 = .ok (.if_icmp .ge 7, 3) := by decide +kernel
theorem dX4_init_159 : decode cX4_init 159 = .ok (.iconst 2, 1) := by decide +kernel
theorem dX4_init_160 : decode cX4_init 160 = .ok (.goto 24, 3) := by decide +kernel
theorem dX4_init_163 : decode cX4_init 163 = .ok (.iload_n 2, 1) := by decide +kernel
theorem dX4_init_164 : decode cX4_init 164 = .ok (.iconst 5, 1) := by decide +kernel
theorem dX4_init_165 : decode cX4_init 165 = .ok (.if_icmp .ge 7, 3) := by decide +kernel
theorem dX4_init_168 : decode cX4_init 168 = .ok (.iconst 3, 1) := by decide +kernel
theorem dX4_init_169 : decode cX4_init 169 = .ok (.goto 15, 3) := by decide +kernel
theorem dX4_init_172 : decode cX4_init 172 = .ok (.iload_n 2, 1) := by decide +kernel
theorem dX4_init_173 : decode cX4_init 173 = .ok (.bipush 7, 2) := by decide +kernel
theorem dX4_init_175 : decode cX4_init 175 = .ok (.if_icmp .ge 7, 3) := by decide +kernel
theorem dX4_init_178 : decode cX4_init 178 = .ok (.iconst 5, 1) := by decide +kernel
theorem dX4_init_179 : decode cX4_init 179 = .ok (.goto 5, 3) := by decide +kernel
theorem dX4_init_182 : decode cX4_init 182 = .ok (.bipush 7, 2) := by decide +kernel
theorem dX4_init_184 : decode cX4_init 184 = .ok (.putfield 60, 3) := by decide +kernel
theorem dX4_init_187 : decode cX4_init 187 = .ok (.return_, 1) := by decide +kernel
theorem dX4_thrown_0 : decode cX4_thrown 0 = .ok (.aload_n 0, 1) := by decide +kernel
theorem dX4_thrown_1 : decode cX4_thrown 1 = .ok (.getfield 63, 3) := by decide +kernel
theorem dX4_thrown_4 : decode cX4_thrown 4 = .ok (.ireturn, 1) := by decide +kernel
theorem dX4_fails_0 : decode cX4_fails 0 = .ok (.aload_n 0, 1) := by decide +kernel
theorem dX4_fails_1 : decode cX4_fails 1 = .ok (.iload_n 1, 1) := by decide +kernel
theorem dX4_fails_2 : decode cX4_fails 2 = .ok (.ifCond .eq 7, 3) := by decide +kernel
theorem dX4_fails_5 : decode cX4_fails 5 = .ok (.iconst 1, 1) := by decide +kernel
theorem dX4_fails_6 : decode cX4_fails 6 = .ok (.goto 4, 3) := by decide +kernel
theorem dX4_fails_9 : decode cX4_fails 9 = .ok (.iconst 0, 1) := by decide +kernel
theorem dX4_fails_10 : decode cX4_fails 10 = .ok (.putfield 63, 3) := by decide +kernel
theorem dX4_fails_13 : decode cX4_fails 13 = .ok (.iload_n 1, 1) := by decide +kernel
theorem dX4_fails_14 : decode cX4_fails 14 = .ok (.ireturn, 1) := by decide +kernel
theorem dX4_isLamp_0 : decode cX4_isLamp 0 = .ok (.iload_n 1, 1) := by decide +kernel
theorem dX4_isLamp_1 : decode cX4_isLamp 1 = .ok (.ifCond .lt 15, 3) := by decide +kernel
theorem dX4_isLamp_4 : decode cX4_isLamp 4 = .ok (.iload_n 1, 1) := by decide +kernel
theorem dX4_isLamp_5 : decode cX4_isLamp 5 = .ok (.aload_n 0, 1) := by decide +kernel
theorem dX4_isLamp_6 : decode cX4_isLamp 6 = .ok (.getfield 56, 3) := by decide +kernel
theorem dX4_isLamp_9 : decode cX4_isLamp 9 = .ok (.if_icmp .ge 7, 3) := by decide +kernel
theorem dX4_isLamp_12 : decode cX4_isLamp 12 = .ok (.iconst 1, 1) := by decide +kernel
theorem dX4_isLamp_13 : decode cX4_isLamp 13 = .ok (.goto 4, 3) := by decide +kernel
theorem dX4_isLamp_16 : decode cX4_isLamp 16 = .ok (.iconst 0, 1) := by decide +kernel
theorem dX4_isLamp_17 : decode cX4_isLamp 17 = .ok (.ireturn, 1) := by decide +kernel
theorem dX4_isState_0 : decode cX4_isState 0 = .ok (.iload_n 1, 1) := by decide +kernel
theorem dX4_isState_1 : decode cX4_isState 1 = .ok (.ifCond .lt 15, 3) := by decide +kernel
theorem dX4_isState_4 : decode cX4_isState 4 = .ok (.iload_n 1, 1) := by decide +kernel
theorem dX4_isState_5 : decode cX4_isState 5 = .ok (.aload_n 0, 1) := by decide +kernel
theorem dX4_isState_6 : decode cX4_isState 6 = .ok (.getfield 60, 3) := by decide +kernel
theorem dX4_isState_9 : decode cX4_isState 9 = .ok (.if_icmp .ge 7, 3) := by decide +kernel
theorem dX4_isState_12 : decode cX4_isState 12 = .ok (.iconst 1, 1) := by decide +kernel
theorem dX4_isState_13 : decode cX4_isState 13 = .ok (.goto 4, 3) := by decide +kernel
theorem dX4_isState_16 : decode cX4_isState 16 = .ok (.iconst 0, 1) := by decide +kernel
theorem dX4_isState_17 : decode cX4_isState 17 = .ok (.ireturn, 1) := by decide +kernel
theorem dX4_join_0 : decode cX4_join 0 = .ok (.aload_n 0, 1) := by decide +kernel
theorem dX4_join_1 : decode cX4_join 1 = .ok (.aload_n 0, 1) := by decide +kernel
theorem dX4_join_2 : decode cX4_join 2 = .ok (.iload_n 1, 1) := by decide +kernel
theorem dX4_join_3 : decode cX4_join 3 = .ok (.invokevirtual 66, 3) := by decide +kernel
theorem dX4_join_6 : decode cX4_join 6 = .ok (.ifCond .eq 11, 3) := by decide +kernel
theorem dX4_join_9 : decode cX4_join 9 = .ok (.aload_n 0, 1) := by decide +kernel
theorem dX4_join_10 : decode cX4_join 10 = .ok (.iload_n 2, 1) := by decide +kernel
theorem dX4_join_11 : decode cX4_join 11 = .ok (.invokevirtual 66, 3) := by decide +kernel
theorem dX4_join_14 : decode cX4_join 14 = .ok (.ifCond .ne 7, 3) := by decide +kernel
theorem dX4_join_17 : decode cX4_join 17 = .ok (.iconst 1, 1) := by decide +kernel
theorem dX4_join_18 : decode cX4_join 18 = .ok (.goto 4, 3) := by decide +kernel
theorem dX4_join_21 : decode cX4_join 21 = .ok (.iconst 0, 1) := by decide +kernel
theorem dX4_join_22 : decode cX4_join 22 = .ok (.invokevirtual 70, 3) := by decide +kernel
theorem dX4_join_25 : decode cX4_join 25 = .ok (.ifCond .ne 22, 3) := by decide +kernel
theorem dX4_join_28 : decode cX4_join 28 = .ok (.iload_n 1, 1) := by decide +kernel
theorem dX4_join_29 : decode cX4_join 29 = .ok (.iload_n 2, 1) := by decide +kernel
theorem dX4_join_30 : decode cX4_join 30 = .ok (.if_icmp .eq 17, 3) := by decide +kernel
theorem dX4_join_33 : decode cX4_join 33 = .ok (.aload_n 0, 1) := by decide +kernel
theorem dX4_join_34 : decode cX4_join 34 = .ok (.getfield 7, 3) := by decide +kernel
theorem dX4_join_37 : decode cX4_join 37 = .ok (.bipush 30, 2) := by decide +kernel
theorem dX4_join_39 : decode cX4_join 39 = .ok (.iload_n 1, 1) := by decide +kernel
theorem dX4_join_40 : decode cX4_join 40 = .ok (.imul, 1) := by decide +kernel
theorem dX4_join_41 : decode cX4_join 41 = .ok (.iload_n 2, 1) := by decide +kernel
theorem dX4_join_42 : decode cX4_join 42 = .ok (.iadd, 1) := by decide +kernel
theorem dX4_join_43 : decode cX4_join 43 = .ok (.baload, 1) := by decide +kernel
theorem dX4_join_44 : decode cX4_join 44 = .ok (.ifCond .eq 5, 3) := by decide +kernel
theorem dX4_join_47 : decode cX4_join 47 = .ok (.iconst 0, 1) := by decide +kernel
theorem dX4_join_48 : decode cX4_join 48 = .ok (.ireturn, 1) := by decide +kernel
theorem dX4_join_49 : decode cX4_join 49 = .ok (.aload_n 0, 1) := by decide +kernel
theorem dX4_join_50 : decode cX4_join 50 = .ok (.getfield 7, 3) := by decide +kernel
theorem dX4_join_53 : decode cX4_join 53 = .ok (.bipush 30, 2) := by decide +kernel
theorem dX4_join_55 : decode cX4_join 55 = .ok (.iload_n 1, 1) := by decide +kernel
theorem dX4_join_56 : decode cX4_join 56 = .ok (.imul, 1) := by decide +kernel
theorem dX4_join_57 : decode cX4_join 57 = .ok (.iload_n 2, 1) := by decide +kernel
theorem dX4_join_58 : decode cX4_join 58 = .ok (.iadd, 1) := by decide +kernel
theorem dX4_join_59 : decode cX4_join 59 = .ok (.iconst 1, 1) := by decide +kernel
theorem dX4_join_60 : decode cX4_join 60 = .ok (.bastore, 1) := by decide +kernel
theorem dX4_join_61 : decode cX4_join 61 = .ok (.aload_n 0, 1) := by decide +kernel
theorem dX4_join_62 : decode cX4_join 62 = .ok (.getfield 7, 3) := by decide +kernel
theorem dX4_join_65 : decode cX4_join 65 = .ok (.bipush 30, 2) := by decide +kernel
theorem dX4_join_67 : decode cX4_join 67 = .ok (.iload_n 2, 1) := by decide +kernel
theorem dX4_join_68 : decode cX4_join 68 = .ok (.imul, 1) := by decide +kernel
theorem dX4_join_69 : decode cX4_join 69 = .ok (.iload_n 1, 1) := by decide +kernel
theorem dX4_join_70 : decode cX4_join 70 = .ok (.iadd, 1) := by decide +kernel
theorem dX4_join_71 : decode cX4_join 71 = .ok (.iconst 1, 1) := by decide +kernel
theorem dX4_join_72 : decode cX4_join 72 = .ok (.bastore, 1) := by decide +kernel
theorem dX4_join_73 : decode cX4_join 73 = .ok (.aload_n 0, 1) := by decide +kernel
theorem dX4_join_74 : decode cX4_join 74 = .ok (.iconst 0, 1) := by decide +kernel
theorem dX4_join_75 : decode cX4_join 75 = .ok (.putfield 74, 3) := by decide +kernel
theorem dX4_join_78 : decode cX4_join 78 = .ok (.iconst 1, 1) := by decide +kernel
theorem dX4_join_79 : decode cX4_join 79 = .ok (.ireturn, 1) := by decide +kernel
theorem dX4_self_0 : decode cX4_self 0 = .ok (.aload_n 0, 1) := by decide +kernel
theorem dX4_self_1 : decode cX4_self 1 = .ok (.aload_n 0, 1) := by decide +kernel
theorem dX4_self_2 : decode cX4_self 2 = .ok (.iload_n 1, 1) := by decide +kernel
theorem dX4_self_3 : decode cX4_self 3 = .ok (.invokevirtual 66, 3) := by decide +kernel
theorem dX4_self_6 : decode cX4_self 6 = .ok (.ifCond .ne 7, 3) := by decide +kernel
theorem dX4_self_9 : decode cX4_self 9 = .ok (.iconst 1, 1) := by decide +kernel
theorem dX4_self_10 : decode cX4_self 10 = .ok (.goto 4, 3) := by decide +kernel
theorem dX4_self_13 : decode cX4_self 13 = .ok (.iconst 0, 1) := by decide +kernel
theorem dX4_self_14 : decode cX4_self 14 = .ok (.invokevirtual 70, 3) := by decide +kernel
theorem dX4_self_17 : decode cX4_self 17 = .ok (.ifCond .ne 13, 3) := by decide +kernel
theorem dX4_self_20 : decode cX4_self 20 = .ok (.aload_n 0, 1) := by decide +kernel
theorem dX4_self_21 : decode cX4_self 21 = .ok (.getfield 13, 3) := by decide +kernel
theorem dX4_self_24 : decode cX4_self 24 = .ok (.iload_n 1, 1) := by decide +kernel
theorem dX4_self_25 : decode cX4_self 25 = .ok (.baload, 1) := by decide +kernel
theorem dX4_self_26 : decode cX4_self 26 = .ok (.iload_n 2, 1) := by decide +kernel
theorem dX4_self_27 : decode cX4_self 27 = .ok (.if_icmp .eq 5, 3) := by decide +kernel
theorem dX4_self_30 : decode cX4_self 30 = .ok (.iconst 0, 1) := by decide +kernel
theorem dX4_self_31 : decode cX4_self 31 = .ok (.ireturn, 1) := by decide +kernel
theorem dX4_self_32 : decode cX4_self 32 = .ok (.aload_n 0, 1) := by decide +kernel
theorem dX4_self_33 : decode cX4_self 33 = .ok (.getfield 13, 3) := by decide +kernel
theorem dX4_self_36 : decode cX4_self 36 = .ok (.iload_n 1, 1) := by decide +kernel
theorem dX4_self_37 : decode cX4_self 37 = .ok (.iload_n 2, 1) := by decide +kernel
theorem dX4_self_38 : decode cX4_self 38 = .ok (.ifCond .ne 7, 3) := by decide +kernel
theorem dX4_self_41 : decode cX4_self 41 = .ok (.iconst 1, 1) := by decide +kernel
theorem dX4_self_42 : decode cX4_self 42 = .ok (.goto 4, 3) := by decide +kernel
theorem dX4_self_45 : decode cX4_self 45 = .ok (.iconst 0, 1) := by decide +kernel
theorem dX4_self_46 : decode cX4_self 46 = .ok (.bastore, 1) := by decide +kernel
theorem dX4_self_47 : decode cX4_self 47 = .ok (.aload_n 0, 1) := by decide +kernel
theorem dX4_self_48 : decode cX4_self 48 = .ok (.iconst 0, 1) := by decide +kernel
theorem dX4_self_49 : decode cX4_self 49 = .ok (.putfield 74, 3) := by decide +kernel
theorem dX4_self_52 : decode cX4_self 52 = .ok (.iconst 1, 1) := by decide +kernel
theorem dX4_self_53 : decode cX4_self 53 = .ok (.ireturn, 1) := by decide +kernel
theorem dX4_set_0 : decode cX4_set 0 = .ok (.aload_n 0, 1) := by decide +kernel
theorem dX4_set_1 : decode cX4_set 1 = .ok (.aload_n 0, 1) := by decide +kernel
theorem dX4_set_2 : decode cX4_set 2 = .ok (.iload_n 1, 1) := by decide +kernel
theorem dX4_set_3 : decode cX4_set 3 = .ok (.invokevirtual 66, 3) := by decide +kernel
theorem dX4_set_6 : decode cX4_set 6 = .ok (.ifCond .ne 7, 3) := by decide +kernel
theorem dX4_set_9 : decode cX4_set 9 = .ok (.iconst 1, 1) := by decide +kernel
theorem dX4_set_10 : decode cX4_set 10 = .ok (.goto 4, 3) := by decide +kernel
theorem dX4_set_13 : decode cX4_set 13 = .ok (.iconst 0, 1) := by decide +kernel
theorem dX4_set_14 : decode cX4_set 14 = .ok (.invokevirtual 70, 3) := by decide +kernel
theorem dX4_set_17 : decode cX4_set 17 = .ok (.ifCond .ne 11, 3) := by decide +kernel
theorem dX4_set_20 : decode cX4_set 20 = .ok (.aload_n 0, 1) := by decide +kernel
theorem dX4_set_21 : decode cX4_set 21 = .ok (.iload_n 2, 1) := by decide +kernel
theorem dX4_set_22 : decode cX4_set 22 = .ok (.invokevirtual 78, 3) := by decide +kernel
theorem dX4_set_25 : decode cX4_set 25 = .ok (.ifCond .ne 5, 3) := by decide +kernel
theorem dX4_set_28 : decode cX4_set 28 = .ok (.iconst 0, 1) := by decide +kernel
theorem dX4_set_29 : decode cX4_set 29 = .ok (.ireturn, 1) := by decide +kernel
theorem dX4_set_30 : decode cX4_set 30 = .ok (.aload_n 0, 1) := by decide +kernel
theorem dX4_set_31 : decode cX4_set 31 = .ok (.getfield 16, 3) := by decide +kernel
theorem dX4_set_34 : decode cX4_set 34 = .ok (.iload_n 1, 1) := by decide +kernel
theorem dX4_set_35 : decode cX4_set 35 = .ok (.iload_n 2, 1) := by decide +kernel
theorem dX4_set_36 : decode cX4_set 36 = .ok (.iastore, 1) := by decide +kernel
theorem dX4_set_37 : decode cX4_set 37 = .ok (.iconst 1, 1) := by decide +kernel
theorem dX4_set_38 : decode cX4_set 38 = .ok (.ireturn, 1) := by decide +kernel
theorem dX4_want_0 : decode cX4_want 0 = .ok (.aload_n 0, 1) := by decide +kernel
theorem dX4_want_1 : decode cX4_want 1 = .ok (.aload_n 0, 1) := by decide +kernel
theorem dX4_want_2 : decode cX4_want 2 = .ok (.iload_n 1, 1) := by decide +kernel
theorem dX4_want_3 : decode cX4_want 3 = .ok (.invokevirtual 66, 3) := by decide +kernel
theorem dX4_want_6 : decode cX4_want 6 = .ok (.ifCond .ne 7, 3) := by decide +kernel
theorem dX4_want_9 : decode cX4_want 9 = .ok (.iconst 1, 1) := by decide +kernel
theorem dX4_want_10 : decode cX4_want 10 = .ok (.goto 4, 3) := by decide +kernel
theorem dX4_want_13 : decode cX4_want 13 = .ok (.iconst 0, 1) := by decide +kernel
theorem dX4_want_14 : decode cX4_want 14 = .ok (.invokevirtual 70, 3) := by decide +kernel
theorem dX4_want_17 : decode cX4_want 17 = .ok (.ifCond .ne 11, 3) := by decide +kernel
theorem dX4_want_20 : decode cX4_want 20 = .ok (.aload_n 0, 1) := by decide +kernel
theorem dX4_want_21 : decode cX4_want 21 = .ok (.iload_n 2, 1) := by decide +kernel
theorem dX4_want_22 : decode cX4_want 22 = .ok (.invokevirtual 78, 3) := by decide +kernel
theorem dX4_want_25 : decode cX4_want 25 = .ok (.ifCond .ne 5, 3) := by decide +kernel
theorem dX4_want_28 : decode cX4_want 28 = .ok (.iconst 0, 1) := by decide +kernel
theorem dX4_want_29 : decode cX4_want 29 = .ok (.ireturn, 1) := by decide +kernel
theorem dX4_want_30 : decode cX4_want 30 = .ok (.aload_n 0, 1) := by decide +kernel
theorem dX4_want_31 : decode cX4_want 31 = .ok (.getfield 20, 3) := by decide +kernel
theorem dX4_want_34 : decode cX4_want 34 = .ok (.iload_n 1, 1) := by decide +kernel
theorem dX4_want_35 : decode cX4_want 35 = .ok (.iload_n 2, 1) := by decide +kernel
theorem dX4_want_36 : decode cX4_want 36 = .ok (.iastore, 1) := by decide +kernel
theorem dX4_want_37 : decode cX4_want 37 = .ok (.iconst 1, 1) := by decide +kernel
theorem dX4_want_38 : decode cX4_want 38 = .ok (.ireturn, 1) := by decide +kernel
theorem dX4_effect_0 : decode cX4_effect 0 = .ok (.iload_n 1, 1) := by decide +kernel
theorem dX4_effect_1 : decode cX4_effect 1 = .ok (.iload_n 2, 1) := by decide +kernel
theorem dX4_effect_2 : decode cX4_effect 2 = .ok (.if_icmp .ne 20, 3) := by decide +kernel
theorem dX4_effect_5 : decode cX4_effect 5 = .ok (.aload_n 0, 1) := by decide +kernel
theorem dX4_effect_6 : decode cX4_effect 6 = .ok (.getfield 13, 3) := by decide +kernel
theorem dX4_effect_9 : decode cX4_effect 9 = .ok (.iload_n 1, 1) := by decide +kernel
theorem dX4_effect_10 : decode cX4_effect 10 = .ok (.baload, 1) := by decide +kernel
theorem dX4_effect_11 : decode cX4_effect 11 = .ok (.ifCond .eq 7, 3) := by decide +kernel
theorem dX4_effect_14 : decode cX4_effect 14 = .ok (.iconst 0, 1) := by decide +kernel
theorem dX4_effect_15 : decode cX4_effect 15 = .ok (.goto 26, 3) := by decide +kernel
theorem dX4_effect_18 : decode cX4_effect 18 = .ok (.iconst 1, 1) := by decide +kernel
theorem dX4_effect_19 : decode cX4_effect 19 = .ok (.goto 22, 3) := by decide +kernel
theorem dX4_effect_22 : decode cX4_effect 22 = .ok (.aload_n 0, 1) := by decide +kernel
theorem dX4_effect_23 : decode cX4_effect 23 = .ok (.getfield 7, 3) := by decide +kernel
theorem dX4_effect_26 : decode cX4_effect 26 = .ok (.bipush 30, 2) := by decide +kernel
theorem dX4_effect_28 : decode cX4_effect 28 = .ok (.iload_n 1, 1) := by decide +kernel
theorem dX4_effect_29 : decode cX4_effect 29 = .ok (.imul, 1) := by decide +kernel
theorem dX4_effect_30 : decode cX4_effect 30 = .ok (.iload_n 2, 1) := by decide +kernel
theorem dX4_effect_31 : decode cX4_effect 31 = .ok (.iadd, 1) := by decide +kernel
theorem dX4_effect_32 : decode cX4_effect 32 = .ok (.baload, 1) := by decide +kernel
theorem dX4_effect_33 : decode cX4_effect 33 = .ok (.ifCond .eq 7, 3) := by decide +kernel
theorem dX4_effect_36 : decode cX4_effect 36 = .ok (.iconst 1, 1) := by decide +kernel
theorem dX4_effect_37 : decode cX4_effect 37 = .ok (.goto 4, 3) := by decide +kernel
theorem dX4_effect_40 : decode cX4_effect 40 = .ok (.iconst 0, 1) := by decide +kernel
theorem dX4_effect_41 : decode cX4_effect 41 = .ok (.ireturn, 1) := by decide +kernel
theorem dX4_press_0 : decode cX4_press 0 = .ok (.aload_n 0, 1) := by decide +kernel
theorem dX4_press_1 : decode cX4_press 1 = .ok (.aload_n 0, 1) := by decide +kernel
theorem dX4_press_2 : decode cX4_press 2 = .ok (.iload_n 1, 1) := by decide +kernel
theorem dX4_press_3 : decode cX4_press 3 = .ok (.invokevirtual 66, 3) := by decide +kernel
theorem dX4_press_6 : decode cX4_press 6 = .ok (.ifCond .ne 7, 3) := by decide +kernel
theorem dX4_press_9 : decode cX4_press 9 = .ok (.iconst 1, 1) := by decide +kernel
theorem dX4_press_10 : decode cX4_press 10 = .ok (.goto 4, 3) := by decide +kernel
theorem dX4_press_13 : decode cX4_press 13 = .ok (.iconst 0, 1) := by decide +kernel
theorem dX4_press_14 : decode cX4_press 14 = .ok (.invokevirtual 70, 3) := by decide +kernel
theorem dX4_press_17 : decode cX4_press 17 = .ok (.ifCond .ne 14, 3) := by decide +kernel
theorem dX4_press_20 : decode cX4_press 20 = .ok (.iload_n 2, 1) := by decide +kernel
theorem dX4_press_21 : decode cX4_press 21 = .ok (.ifCond .lt 10, 3) := by decide +kernel
theorem dX4_press_24 : decode cX4_press 24 = .ok (.iload_n 2, 1) := by decide +kernel
theorem dX4_press_25 : decode cX4_press 25 = .ok (.sipush 1000, 3) := by decide +kernel
theorem dX4_press_28 : decode cX4_press 28 = .ok (.if_icmp .le 5, 3) := by decide +kernel
theorem dX4_press_31 : decode cX4_press 31 = .ok (.iconst 0, 1) := by decide +kernel
theorem dX4_press_32 : decode cX4_press 32 = .ok (.ireturn, 1) := by decide +kernel
theorem dX4_press_33 : decode cX4_press 33 = .ok (.iconst 0, 1) := by decide +kernel
theorem dX4_press_34 : decode cX4_press 34 = .ok (.istore_n 3, 1) := by decide +kernel
theorem dX4_press_35 : decode cX4_press 35 = .ok (.iload_n 3, 1) := by decide +kernel
theorem dX4_press_36 : decode cX4_press 36 = .ok (.aload_n 0, 1) := by decide +kernel
theorem dX4_press_37 : decode cX4_press 37 = .ok (.getfield 56, 3) := by decide +kernel
theorem dX4_press_40 : decode cX4_press 40 = .ok (.if_icmp .ge 35, 3) := by decide +kernel
theorem dX4_press_43 : decode cX4_press 43 = .ok (.aload_n 0, 1) := by decide +kernel
theorem dX4_press_44 : decode cX4_press 44 = .ok (.getfield 16, 3) := by decide +kernel
theorem dX4_press_47 : decode cX4_press 47 = .ok (.iload_n 3, 1) := by decide +kernel
theorem dX4_press_48 : decode cX4_press 48 = .ok (.aload_n 0, 1) := by decide +kernel
theorem dX4_press_49 : decode cX4_press 49 = .ok (.getfield 16, 3) := by decide +kernel
theorem dX4_press_52 : decode cX4_press 52 = .ok (.iload_n 3, 1) := by decide +kernel
theorem dX4_press_53 : decode cX4_press 53 = .ok (.iaload, 1) := by decide +kernel
theorem dX4_press_54 : decode cX4_press 54 = .ok (.iload_n 2, 1) := by decide +kernel
theorem dX4_press_55 : decode cX4_press 55 = .ok (.aload_n 0, 1) := by decide +kernel
theorem dX4_press_56 : decode cX4_press 56 = .ok (.iload_n 1, 1) := by decide +kernel
theorem dX4_press_57 : decode cX4_press 57 = .ok (.iload_n 3, 1) := by decide +kernel
theorem dX4_press_58 : decode cX4_press 58 = .ok (.invokevirtual 81, 3) := by decide +kernel
theorem dX4_press_61 : decode cX4_press 61 = .ok (.imul, 1) := by decide +kernel
theorem dX4_press_62 : decode cX4_press 62 = .ok (.iadd, 1) := by decide +kernel
theorem dX4_press_63 : decode cX4_press 63 = .ok (.aload_n 0, 1) := by decide +kernel
theorem dX4_press_64 : decode cX4_press 64 = .ok (.getfield 60, 3) := by decide +kernel
theorem dX4_press_67 : decode cX4_press 67 = .ok (.irem, 1) := by decide +kernel
theorem dX4_press_68 : decode cX4_press 68 = .ok (.iastore, 1) := by decide +kernel
theorem dX4_press_69 : decode cX4_press 69 = .ok (.iinc 3 1, 3) := by decide +kernel
theorem dX4_press_72 : decode cX4_press 72 = .ok (.goto (-37), 3) := by decide +kernel
theorem dX4_press_75 : decode cX4_press 75 = .ok (.iconst 1, 1) := by decide +kernel
theorem dX4_press_76 : decode cX4_press 76 = .ok (.ireturn, 1) := by decide +kernel
theorem dX4_at_0 : decode cX4_at 0 = .ok (.aload_n 0, 1) := by decide +kernel
theorem dX4_at_1 : decode cX4_at 1 = .ok (.aload_n 0, 1) := by decide +kernel
theorem dX4_at_2 : decode cX4_at 2 = .ok (.iload_n 1, 1) := by decide +kernel
theorem dX4_at_3 : decode cX4_at 3 = .ok (.invokevirtual 66, 3) := by decide +kernel
theorem dX4_at_6 : decode cX4_at 6 = .ok (.ifCond .ne 7, 3) := by decide +kernel
theorem dX4_at_9 : decode cX4_at 9 = .ok (.iconst 1, 1) := by decide +kernel
theorem dX4_at_10 : decode cX4_at 10 = .ok (.goto 4, 3) := by decide +kernel
theorem dX4_at_13 : decode cX4_at 13 = .ok (.iconst 0, 1) := by decide +kernel
theorem dX4_at_14 : decode cX4_at 14 = .ok (.invokevirtual 70, 3) := by decide +kernel
theorem dX4_at_17 : decode cX4_at 17 = .ok (.ifCond .eq 7, 3) := by decide +kernel
theorem dX4_at_20 : decode cX4_at 20 = .ok (.iconst 0, 1) := by decide +kernel
theorem dX4_at_21 : decode cX4_at 21 = .ok (.goto 9, 3) := by decide +kernel
theorem dX4_at_24 : decode cX4_at 24 = .ok (.aload_n 0, 1) := by decide +kernel
theorem dX4_at_25 : decode cX4_at 25 = .ok (.getfield 16, 3) := by decide +kernel
theorem dX4_at_28 : decode cX4_at 28 = .ok (.iload_n 1, 1) := by decide +kernel
theorem dX4_at_29 : decode cX4_at 29 = .ok (.iaload, 1) := by decide +kernel
theorem dX4_at_30 : decode cX4_at 30 = .ok (.ireturn, 1) := by decide +kernel
theorem dX4_apart_0 : decode cX4_apart 0 = .ok (.aload_n 0, 1) := by decide +kernel
theorem dX4_apart_1 : decode cX4_apart 1 = .ok (.iconst 0, 1) := by decide +kernel
theorem dX4_apart_2 : decode cX4_apart 2 = .ok (.putfield 63, 3) := by decide +kernel
theorem dX4_apart_5 : decode cX4_apart 5 = .ok (.iconst 0, 1) := by decide +kernel
theorem dX4_apart_6 : decode cX4_apart 6 = .ok (.istore_n 1, 1) := by decide +kernel
theorem dX4_apart_7 : decode cX4_apart 7 = .ok (.iconst 0, 1) := by decide +kernel
theorem dX4_apart_8 : decode cX4_apart 8 = .ok (.istore_n 2, 1) := by decide +kernel
theorem dX4_apart_9 : decode cX4_apart 9 = .ok (.iload_n 2, 1) := by decide +kernel
theorem dX4_apart_10 : decode cX4_apart 10 = .ok (.aload_n 0, 1) := by decide +kernel
theorem dX4_apart_11 : decode cX4_apart 11 = .ok (.getfield 56, 3) := by decide +kernel
theorem dX4_apart_14 : decode cX4_apart 14 = .ok (.if_icmp .ge 32, 3) := by decide +kernel
theorem dX4_apart_17 : decode cX4_apart 17 = .ok (.iload_n 1, 1) := by decide +kernel
theorem dX4_apart_18 : decode cX4_apart 18 = .ok (.aload_n 0, 1) := by decide +kernel
theorem dX4_apart_19 : decode cX4_apart 19 = .ok (.getfield 16, 3) := by decide +kernel
theorem dX4_apart_22 : decode cX4_apart 22 = .ok (.iload_n 2, 1) := by decide +kernel
theorem dX4_apart_23 : decode cX4_apart 23 = .ok (.iaload, 1) := by decide +kernel
theorem dX4_apart_24 : decode cX4_apart 24 = .ok (.aload_n 0, 1) := by decide +kernel
theorem dX4_apart_25 : decode cX4_apart 25 = .ok (.getfield 20, 3) := by decide +kernel
theorem dX4_apart_28 : decode cX4_apart 28 = .ok (.iload_n 2, 1) := by decide +kernel
theorem dX4_apart_29 : decode cX4_apart 29 = .ok (.iaload, 1) := by decide +kernel
theorem dX4_apart_30 : decode cX4_apart 30 = .ok (.if_icmp .ne 7, 3) := by decide +kernel
theorem dX4_apart_33 : decode cX4_apart 33 = .ok (.iconst 0, 1) := by decide +kernel
theorem dX4_apart_34 : decode cX4_apart 34 = .ok (.goto 4, 3) := by decide +kernel
theorem dX4_apart_37 : decode cX4_apart 37 = .ok (.iconst 1, 1) := by decide +kernel
theorem dX4_apart_38 : decode cX4_apart 38 = .ok (.iadd, 1) := by decide +kernel
theorem dX4_apart_39 : decode cX4_apart 39 = .ok (.istore_n 1, 1) := by decide +kernel
theorem dX4_apart_40 : decode cX4_apart 40 = .ok (.iinc 2 1, 3) := by decide +kernel
theorem dX4_apart_43 : decode cX4_apart 43 = .ok (.goto (-34), 3) := by decide +kernel
theorem dX4_apart_46 : decode cX4_apart 46 = .ok (.iload_n 1, 1) := by decide +kernel
theorem dX4_apart_47 : decode cX4_apart 47 = .ok (.ireturn, 1) := by decide +kernel
theorem dX4_clear_0 : decode cX4_clear 0 = .ok (.aload_n 0, 1) := by decide +kernel
theorem dX4_clear_1 : decode cX4_clear 1 = .ok (.iconst 0, 1) := by decide +kernel
theorem dX4_clear_2 : decode cX4_clear 2 = .ok (.putfield 63, 3) := by decide +kernel
theorem dX4_clear_5 : decode cX4_clear 5 = .ok (.iconst 0, 1) := by decide +kernel
theorem dX4_clear_6 : decode cX4_clear 6 = .ok (.istore_n 1, 1) := by decide +kernel
theorem dX4_clear_7 : decode cX4_clear 7 = .ok (.iload_n 1, 1) := by decide +kernel
theorem dX4_clear_8 : decode cX4_clear 8 = .ok (.aload_n 0, 1) := by decide +kernel
theorem dX4_clear_9 : decode cX4_clear 9 = .ok (.getfield 56, 3) := by decide +kernel
theorem dX4_clear_12 : decode cX4_clear 12 = .ok (.if_icmp .ge 23, 3) := by decide +kernel
theorem dX4_clear_15 : decode cX4_clear 15 = .ok (.aload_n 0, 1) := by decide +kernel
theorem dX4_clear_16 : decode cX4_clear 16 = .ok (.getfield 16, 3) := by decide +kernel
theorem dX4_clear_19 : decode cX4_clear 19 = .ok (.iload_n 1, 1) := by decide +kernel
theorem dX4_clear_20 : decode cX4_clear 20 = .ok (.iconst 0, 1) := by decide +kernel
theorem dX4_clear_21 : decode cX4_clear 21 = .ok (.iastore, 1) := by decide +kernel
theorem dX4_clear_22 : decode cX4_clear 22 = .ok (.aload_n 0, 1) := by decide +kernel
theorem dX4_clear_23 : decode cX4_clear 23 = .ok (.getfield 20, 3) := by decide +kernel
theorem dX4_clear_26 : decode cX4_clear 26 = .ok (.iload_n 1, 1) := by decide +kernel
theorem dX4_clear_27 : decode cX4_clear 27 = .ok (.iconst 0, 1) := by decide +kernel
theorem dX4_clear_28 : decode cX4_clear 28 = .ok (.iastore, 1) := by decide +kernel
theorem dX4_clear_29 : decode cX4_clear 29 = .ok (.iinc 1 1, 3) := by decide +kernel
theorem dX4_clear_32 : decode cX4_clear 32 = .ok (.goto (-25), 3) := by decide +kernel
theorem dX4_clear_35 : decode cX4_clear 35 = .ok (.return_, 1) := by decide +kernel
theorem dX4_inverse_0 : decode cX4_inverse 0 = .ok (.iconst 1, 1) := by decide +kernel
theorem dX4_inverse_1 : decode cX4_inverse 1 = .ok (.istore_n 2, 1) := by decide +kernel
theorem dX4_inverse_2 : decode cX4_inverse 2 = .ok (.iload_n 1, 1) := by decide +kernel
theorem dX4_inverse_3 : decode cX4_inverse 3 = .ok (.iload_n 2, 1) := by decide +kernel
theorem dX4_inverse_4 : decode cX4_inverse 4 = .ok (.imul, 1) := by decide +kernel
theorem dX4_inverse_5 : decode cX4_inverse 5 = .ok (.aload_n 0, 1) := by decide +kernel
theorem dX4_inverse_6 : decode cX4_inverse 6 = .ok (.getfield 60, 3) := by decide +kernel
theorem dX4_inverse_9 : decode cX4_inverse 9 = .ok (.irem, 1) := by decide +kernel
theorem dX4_inverse_10 : decode cX4_inverse 10 = .ok (.iconst 1, 1) := by decide +kernel
theorem dX4_inverse_11 : decode cX4_inverse 11 = .ok (.if_icmp .eq 9, 3) := by decide +kernel
theorem dX4_inverse_14 : decode cX4_inverse 14 = .ok (.iinc 2 1, 3) := by decide +kernel
theorem dX4_inverse_17 : decode cX4_inverse 17 = .ok (.goto (-15), 3) := by decide +kernel
theorem dX4_inverse_20 : decode cX4_inverse 20 = .ok (.iload_n 2, 1) := by decide +kernel
theorem dX4_inverse_21 : decode cX4_inverse 21 = .ok (.ireturn, 1) := by decide +kernel
theorem dX4_takeApart_0 : decode cX4_takeApart 0 = .ok (.iconst 0, 1) := by decide +kernel
theorem dX4_takeApart_1 : decode cX4_takeApart 1 = .ok (.istore_n 1, 1) := by decide +kernel
theorem dX4_takeApart_2 : decode cX4_takeApart 2 = .ok (.iload_n 1, 1) := by decide +kernel
theorem dX4_takeApart_3 : decode cX4_takeApart 3 = .ok (.aload_n 0, 1) := by decide +kernel
theorem dX4_takeApart_4 : decode cX4_takeApart 4 = .ok (.getfield 56, 3) := by decide +kernel
theorem dX4_takeApart_7 : decode cX4_takeApart 7 = .ok (.if_icmp .ge 16, 3) := by decide +kernel
theorem dX4_takeApart_10 : decode cX4_takeApart 10 = .ok (.aload_n 0, 1) := by decide +kernel
theorem dX4_takeApart_11 : decode cX4_takeApart 11 = .ok (.getfield 38, 3) := by decide +kernel
theorem dX4_takeApart_14 : decode cX4_takeApart 14 = .ok (.iload_n 1, 1) := by decide +kernel
theorem dX4_takeApart_15 : decode cX4_takeApart 15 = .ok (.iconst 0, 1) := by decide +kernel
theorem dX4_takeApart_16 : decode cX4_takeApart 16 = .ok (.iastore, 1) := by decide +kernel
theorem dX4_takeApart_17 : decode cX4_takeApart 17 = .ok (.iinc 1 1, 3) := by decide +kernel
theorem dX4_takeApart_20 : decode cX4_takeApart 20 = .ok (.goto (-18), 3) := by decide +kernel
theorem dX4_takeApart_23 : decode cX4_takeApart 23 = .ok (.iconst 0, 1) := by decide +kernel
theorem dX4_takeApart_24 : decode cX4_takeApart 24 = .ok (.istore_n 1, 1) := by decide +kernel
theorem dX4_takeApart_25 : decode cX4_takeApart 25 = .ok (.iload_n 1, 1) := by decide +kernel
theorem dX4_takeApart_26 : decode cX4_takeApart 26 = .ok (.aload_n 0, 1) := by decide +kernel
theorem dX4_takeApart_27 : decode cX4_takeApart 27 = .ok (.getfield 85, 3) := by decide +kernel
theorem dX4_takeApart_30 : decode cX4_takeApart 30 = .ok (.if_icmp .ge 130, 3) := by decide +kernel
theorem dX4_takeApart_33 : decode cX4_takeApart 33 = .ok (.aload_n 0, 1) := by decide +kernel
theorem dX4_takeApart_34 : decode cX4_takeApart 34 = .ok (.getfield 35, 3) := by decide +kernel
theorem dX4_takeApart_37 : decode cX4_takeApart 37 = .ok (.aload_n 0, 1) := by decide +kernel
theorem dX4_takeApart_38 : decode cX4_takeApart 38 = .ok (.getfield 29, 3) := by decide +kernel
theorem dX4_takeApart_41 : decode cX4_takeApart 41 = .ok (.iload_n 1, 1) := by decide +kernel
theorem dX4_takeApart_42 : decode cX4_takeApart 42 = .ok (.iaload, 1) := by decide +kernel
theorem dX4_takeApart_43 : decode cX4_takeApart 43 = .ok (.iaload, 1) := by decide +kernel
theorem dX4_takeApart_44 : decode cX4_takeApart 44 = .ok (.aload_n 0, 1) := by decide +kernel
theorem dX4_takeApart_45 : decode cX4_takeApart 45 = .ok (.aload_n 0, 1) := by decide +kernel
theorem dX4_takeApart_46 : decode cX4_takeApart 46 = .ok (.getfield 23, 3) := by decide +kernel
theorem dX4_takeApart_49 : decode cX4_takeApart 49 = .ok (.bipush 30, 2) := by decide +kernel
theorem dX4_takeApart_51 : decode cX4_takeApart 51 = .ok (.iload_n 1, 1) := by decide +kernel
theorem dX4_takeApart_52 : decode cX4_takeApart 52 = .ok (.imul, 1) := by decide +kernel
theorem dX4_takeApart_53 : decode cX4_takeApart 53 = .ok (.aload_n 0, 1) := by decide +kernel
theorem dX4_takeApart_54 : decode cX4_takeApart 54 = .ok (.getfield 29, 3) := by decide +kernel
theorem dX4_takeApart_57 : decode cX4_takeApart 57 = .ok (.iload_n 1, 1) := by decide +kernel
theorem dX4_takeApart_58 : decode cX4_takeApart 58 = .ok (.iaload, 1) := by decide +kernel
theorem dX4_takeApart_59 : decode cX4_takeApart 59 = .ok (.iadd, 1) := by decide +kernel
theorem dX4_takeApart_60 : decode cX4_takeApart 60 = .ok (.iaload, 1) := by decide +kernel
theorem dX4_takeApart_61 : decode cX4_takeApart 61 = .ok (.invokevirtual 88, 3) := by decide +kernel
theorem dX4_takeApart_64 : decode cX4_takeApart 64 = .ok (.imul, 1) := by decide +kernel
theorem dX4_takeApart_65 : decode cX4_takeApart 65 = .ok (.aload_n 0, 1) := by decide +kernel
theorem dX4_takeApart_66 : decode cX4_takeApart 66 = .ok (.getfield 60, 3) := by decide +kernel
theorem dX4_takeApart_69 : decode cX4_takeApart 69 = .ok (.irem, 1) := by decide +kernel
theorem dX4_takeApart_70 : decode cX4_takeApart 70 = .ok (.istore_n 2, 1) := by decide +kernel
theorem dX4_takeApart_71 : decode cX4_takeApart 71 = .ok (.iconst 0, 1) := by decide +kernel
theorem dX4_takeApart_72 : decode cX4_takeApart 72 = .ok (.istore_n 3, 1) := by decide +kernel
theorem dX4_takeApart_73 : decode cX4_takeApart 73 = .ok (.iload_n 3, 1) := by decide +kernel
theorem dX4_takeApart_74 : decode cX4_takeApart 74 = .ok (.aload_n 0, 1) := by decide +kernel
theorem dX4_takeApart_75 : decode cX4_takeApart 75 = .ok (.getfield 56, 3) := by decide +kernel
theorem dX4_takeApart_78 : decode cX4_takeApart 78 = .ok (.if_icmp .ge 76, 3) := by decide +kernel
theorem dX4_takeApart_81 : decode cX4_takeApart 81 = .ok (.aload_n 0, 1) := by decide +kernel
theorem dX4_takeApart_82 : decode cX4_takeApart 82 = .ok (.getfield 35, 3) := by decide +kernel
theorem dX4_takeApart_85 : decode cX4_takeApart 85 = .ok (.iload_n 3, 1) := by decide +kernel
theorem dX4_takeApart_86 : decode cX4_takeApart 86 = .ok (.aload_n 0, 1) := by decide +kernel
theorem dX4_takeApart_87 : decode cX4_takeApart 87 = .ok (.getfield 35, 3) := by decide +kernel
theorem dX4_takeApart_90 : decode cX4_takeApart 90 = .ok (.iload_n 3, 1) := by decide +kernel
theorem dX4_takeApart_91 : decode cX4_takeApart 91 = .ok (.iaload, 1) := by decide +kernel
theorem dX4_takeApart_92 : decode cX4_takeApart 92 = .ok (.aload_n 0, 1) := by decide +kernel
theorem dX4_takeApart_93 : decode cX4_takeApart 93 = .ok (.getfield 60, 3) := by decide +kernel
theorem dX4_takeApart_96 : decode cX4_takeApart 96 = .ok (.iload_n 2, 1) := by decide +kernel
theorem dX4_takeApart_97 : decode cX4_takeApart 97 = .ok (.isub, 1) := by decide +kernel
theorem dX4_takeApart_98 : decode cX4_takeApart 98 = .ok (.aload_n 0, 1) := by decide +kernel
theorem dX4_takeApart_99 : decode cX4_takeApart 99 = .ok (.getfield 23, 3) := by decide +kernel
theorem dX4_takeApart_102 : decode cX4_takeApart 102 = .ok (.bipush 30, 2) := by decide +kernel
theorem dX4_takeApart_104 : decode cX4_takeApart 104 = .ok (.iload_n 1, 1) := by decide +kernel
theorem dX4_takeApart_105 : decode cX4_takeApart 105 = .ok (.imul, 1) := by decide +kernel
theorem dX4_takeApart_106 : decode cX4_takeApart 106 = .ok (.iload_n 3, 1) := by decide +kernel
theorem dX4_takeApart_107 : decode cX4_takeApart 107 = .ok (.iadd, 1) := by decide +kernel
theorem dX4_takeApart_108 : decode cX4_takeApart 108 = .ok (.iaload, 1) := by decide +kernel
theorem dX4_takeApart_109 : decode cX4_takeApart 109 = .ok (.imul, 1) := by decide +kernel
theorem dX4_takeApart_110 : decode cX4_takeApart 110 = .ok (.iadd, 1) := by decide +kernel
theorem dX4_takeApart_111 : decode cX4_takeApart 111 = .ok (.aload_n 0, 1) := by decide +kernel
theorem dX4_takeApart_112 : decode cX4_takeApart 112 = .ok (.getfield 60, 3) := by decide +kernel
theorem dX4_takeApart_115 : decode cX4_takeApart 115 = .ok (.irem, 1) := by decide +kernel
theorem dX4_takeApart_116 : decode cX4_takeApart 116 = .ok (.iastore, 1) := by decide +kernel
theorem dX4_takeApart_117 : decode cX4_takeApart 117 = .ok (.aload_n 0, 1) := by decide +kernel
theorem dX4_takeApart_118 : decode cX4_takeApart 118 = .ok (.getfield 38, 3) := by decide +kernel
theorem dX4_takeApart_121 : decode cX4_takeApart 121 = .ok (.iload_n 3, 1) := by decide +kernel
theorem dX4_takeApart_122 : decode cX4_takeApart 122 = .ok (.aload_n 0, 1) := by decide +kernel
theorem dX4_takeApart_123 : decode cX4_takeApart 123 = .ok (.getfield 38, 3) := by decide +kernel
theorem dX4_takeApart_126 : decode cX4_takeApart 126 = .ok (.iload_n 3, 1) := by decide +kernel
theorem dX4_takeApart_127 : decode cX4_takeApart 127 = .ok (.iaload, 1) := by decide +kernel
theorem dX4_takeApart_128 : decode cX4_takeApart 128 = .ok (.iload_n 2, 1) := by decide +kernel
theorem dX4_takeApart_129 : decode cX4_takeApart 129 = .ok (.aload_n 0, 1) := by decide +kernel
theorem dX4_takeApart_130 : decode cX4_takeApart 130 = .ok (.getfield 26, 3) := by decide +kernel
theorem dX4_takeApart_133 : decode cX4_takeApart 133 = .ok (.bipush 30, 2) := by decide +kernel
theorem dX4_takeApart_135 : decode cX4_takeApart 135 = .ok (.iload_n 1, 1) := by decide +kernel
theorem dX4_takeApart_136 : decode cX4_takeApart 136 = .ok (.imul, 1) := by decide +kernel
theorem dX4_takeApart_137 : decode cX4_takeApart 137 = .ok (.iload_n 3, 1) := by decide +kernel
theorem dX4_takeApart_138 : decode cX4_takeApart 138 = .ok (.iadd, 1) := by decide +kernel
theorem dX4_takeApart_139 : decode cX4_takeApart 139 = .ok (.iaload, 1) := by decide +kernel
theorem dX4_takeApart_140 : decode cX4_takeApart 140 = .ok (.imul, 1) := by decide +kernel
theorem dX4_takeApart_141 : decode cX4_takeApart 141 = .ok (.iadd, 1) := by decide +kernel
theorem dX4_takeApart_142 : decode cX4_takeApart 142 = .ok (.aload_n 0, 1) := by decide +kernel
theorem dX4_takeApart_143 : decode cX4_takeApart 143 = .ok (.getfield 60, 3) := by decide +kernel
theorem dX4_takeApart_146 : decode cX4_takeApart 146 = .ok (.irem, 1) := by decide +kernel
theorem dX4_takeApart_147 : decode cX4_takeApart 147 = .ok (.iastore, 1) := by decide +kernel
theorem dX4_takeApart_148 : decode cX4_takeApart 148 = .ok (.iinc 3 1, 3) := by decide +kernel
theorem dX4_takeApart_151 : decode cX4_takeApart 151 = .ok (.goto (-78), 3) := by decide +kernel
theorem dX4_takeApart_154 : decode cX4_takeApart 154 = .ok (.iinc 1 1, 3) := by decide +kernel
theorem dX4_takeApart_157 : decode cX4_takeApart 157 = .ok (.goto (-132), 3) := by decide +kernel
theorem dX4_takeApart_160 : decode cX4_takeApart 160 = .ok (.return_, 1) := by decide +kernel
theorem dX4_left_0 : decode cX4_left 0 = .ok (.iconst 0, 1) := by decide +kernel
theorem dX4_left_1 : decode cX4_left 1 = .ok (.istore_n 1, 1) := by decide +kernel
theorem dX4_left_2 : decode cX4_left 2 = .ok (.iload_n 1, 1) := by decide +kernel
theorem dX4_left_3 : decode cX4_left 3 = .ok (.aload_n 0, 1) := by decide +kernel
theorem dX4_left_4 : decode cX4_left 4 = .ok (.getfield 56, 3) := by decide +kernel
theorem dX4_left_7 : decode cX4_left 7 = .ok (.if_icmp .ge 20, 3) := by decide +kernel
theorem dX4_left_10 : decode cX4_left 10 = .ok (.aload_n 0, 1) := by decide +kernel
theorem dX4_left_11 : decode cX4_left 11 = .ok (.getfield 35, 3) := by decide +kernel
theorem dX4_left_14 : decode cX4_left 14 = .ok (.iload_n 1, 1) := by decide +kernel
theorem dX4_left_15 : decode cX4_left 15 = .ok (.iaload, 1) := by decide +kernel
theorem dX4_left_16 : decode cX4_left 16 = .ok (.ifCond .eq 5, 3) := by decide +kernel
theorem dX4_left_19 : decode cX4_left 19 = .ok (.iload_n 1, 1) := by decide +kernel
theorem dX4_left_20 : decode cX4_left 20 = .ok (.ireturn, 1) := by decide +kernel
theorem dX4_left_21 : decode cX4_left 21 = .ok (.iinc 1 1, 3) := by decide +kernel
theorem dX4_left_24 : decode cX4_left 24 = .ok (.goto (-22), 3) := by decide +kernel
theorem dX4_left_27 : decode cX4_left 27 = .ok (.iconst (-1), 1) := by decide +kernel
theorem dX4_left_28 : decode cX4_left 28 = .ok (.ireturn, 1) := by decide +kernel
theorem dX4_know_0 : decode cX4_know 0 = .ok (.aload_n 0, 1) := by decide +kernel
theorem dX4_know_1 : decode cX4_know 1 = .ok (.getfield 74, 3) := by decide +kernel
theorem dX4_know_4 : decode cX4_know 4 = .ok (.ifCond .eq 4, 3) := by decide +kernel
theorem dX4_know_7 : decode cX4_know 7 = .ok (.return_, 1) := by decide +kernel
theorem dX4_know_8 : decode cX4_know 8 = .ok (.aload_n 0, 1) := by decide +kernel
theorem dX4_know_9 : decode cX4_know 9 = .ok (.iconst 1, 1) := by decide +kernel
theorem dX4_know_10 : decode cX4_know 10 = .ok (.putfield 74, 3) := by decide +kernel
theorem dX4_know_13 : decode cX4_know 13 = .ok (.aload_n 0, 1) := by decide +kernel
theorem dX4_know_14 : decode cX4_know 14 = .ok (.iconst 0, 1) := by decide +kernel
theorem dX4_know_15 : decode cX4_know 15 = .ok (.putfield 85, 3) := by decide +kernel
theorem dX4_know_18 : decode cX4_know 18 = .ok (.iconst 0, 1) := by decide +kernel
theorem dX4_know_19 : decode cX4_know 19 = .ok (.istore_n 1, 1) := by decide +kernel
theorem dX4_know_20 : decode cX4_know 20 = .ok (.iconst 0, 1) := by decide +kernel
theorem dX4_know_21 : decode cX4_know 21 = .ok (.istore_n 2, 1) := by decide +kernel
theorem dX4_know_22 : decode cX4_know 22 = .ok (.iload_n 2, 1) := by decide +kernel
theorem dX4_know_23 : decode cX4_know 23 = .ok (.aload_n 0, 1) := by decide +kernel
theorem dX4_know_24 : decode cX4_know 24 = .ok (.getfield 56, 3) := by decide +kernel
theorem dX4_know_27 : decode cX4_know 27 = .ok (.if_icmp .ge 230, 3) := by decide +kernel
theorem dX4_know_30 : decode cX4_know 30 = .ok (.iconst 0, 1) := by decide +kernel
theorem dX4_know_31 : decode cX4_know 31 = .ok (.istore_n 3, 1) := by decide +kernel
theorem dX4_know_32 : decode cX4_know 32 = .ok (.iload_n 3, 1) := by decide +kernel
theorem dX4_know_33 : decode cX4_know 33 = .ok (.aload_n 0, 1) := by decide +kernel
theorem dX4_know_34 : decode cX4_know 34 = .ok (.getfield 56, 3) := by decide +kernel
theorem dX4_know_37 : decode cX4_know 37 = .ok (.if_icmp .ge 21, 3) := by decide +kernel
theorem dX4_know_40 : decode cX4_know 40 = .ok (.aload_n 0, 1) := by decide +kernel
theorem dX4_know_41 : decode cX4_know 41 = .ok (.getfield 35, 3) := by decide +kernel
theorem dX4_know_44 : decode cX4_know 44 = .ok (.iload_n 3, 1) := by decide +kernel
theorem dX4_know_45 : decode cX4_know 45 = .ok (.aload_n 0, 1) := by decide +kernel
theorem dX4_know_46 : decode cX4_know 46 = .ok (.iload_n 2, 1) := by decide +kernel
theorem dX4_know_47 : decode cX4_know 47 = .ok (.iload_n 3, 1) := by decide +kernel
theorem dX4_know_48 : decode cX4_know 48 = .ok (.invokevirtual 81, 3) := by decide +kernel
theorem dX4_know_51 : decode cX4_know 51 = .ok (.iastore, 1) := by decide +kernel
theorem dX4_know_52 : decode cX4_know 52 = .ok (.iinc 3 1, 3) := by decide +kernel
theorem dX4_know_55 : decode cX4_know 55 = .ok (.goto (-23), 3) := by decide +kernel
theorem dX4_know_58 : decode cX4_know 58 = .ok (.aload_n 0, 1) := by decide +kernel
theorem dX4_know_59 : decode cX4_know 59 = .ok (.invokevirtual 92, 3) := by decide +kernel
theorem dX4_know_62 : decode cX4_know 62 = .ok (.aload_n 0, 1) := by decide +kernel
theorem dX4_know_63 : decode cX4_know 63 = .ok (.invokevirtual 95, 3) := by decide +kernel
theorem dX4_know_66 : decode cX4_know 66 = .ok (.istore_n 3, 1) := by decide +kernel
theorem dX4_know_67 : decode cX4_know 67 = .ok (.aload_n 0, 1) := by decide +kernel
theorem dX4_know_68 : decode cX4_know 68 = .ok (.getfield 32, 3) := by decide +kernel
theorem dX4_know_71 : decode cX4_know 71 = .ok (.iload_n 2, 1) := by decide +kernel
theorem dX4_know_72 : decode cX4_know 72 = .ok (.iload_n 3, 1) := by decide +kernel
theorem dX4_know_73 : decode cX4_know 73 = .ok (.ifCond .lt 7, 3) := by decide +kernel
theorem dX4_know_76 : decode cX4_know 76 = .ok (.iconst 1, 1) := by decide +kernel
theorem dX4_know_77 : decode cX4_know 77 = .ok (.goto 4, 3) := by decide +kernel
theorem dX4_know_80 : decode cX4_know 80 = .ok (.iconst 0, 1) := by decide +kernel
theorem dX4_know_81 : decode cX4_know 81 = .ok (.bastore, 1) := by decide +kernel
theorem dX4_know_82 : decode cX4_know 82 = .ok (.iload_n 3, 1) := by decide +kernel
theorem dX4_know_83 : decode cX4_know 83 = .ok (.ifCond .lt 108, 3) := by decide +kernel
theorem dX4_know_86 : decode cX4_know 86 = .ok (.iconst 0, 1) := by decide +kernel
theorem dX4_know_87 : decode cX4_know 87 = .ok (.istore 4, 2) := by decide +kernel
theorem dX4_know_89 : decode cX4_know 89 = .ok (.iload 4, 2) := by decide +kernel
theorem dX4_know_91 : decode cX4_know 91 = .ok (.aload_n 0, 1) := by decide +kernel
theorem dX4_know_92 : decode cX4_know 92 = .ok (.getfield 56, 3) := by decide +kernel
theorem dX4_know_95 : decode cX4_know 95 = .ok (.if_icmp .ge 73, 3) := by decide +kernel
theorem dX4_know_98 : decode cX4_know 98 = .ok (.aload_n 0, 1) := by decide +kernel
theorem dX4_know_99 : decode cX4_know 99 = .ok (.getfield 23, 3) := by decide +kernel
theorem dX4_know_102 : decode cX4_know 102 = .ok (.bipush 30, 2) := by decide +kernel
theorem dX4_know_104 : decode cX4_know 104 = .ok (.aload_n 0, 1) := by decide +kernel
theorem dX4_know_105 : decode cX4_know 105 = .ok (.getfield 85, 3) := by decide +kernel
theorem dX4_know_108 : decode cX4_know 108 = .ok (.imul, 1) := by decide +kernel
theorem dX4_know_109 : decode cX4_know 109 = .ok (.iload 4, 2) := by decide +kernel
theorem dX4_know_111 : decode cX4_know 111 = .ok (.iadd, 1) := by decide +kernel
theorem dX4_know_112 : decode cX4_know 112 = .ok (.aload_n 0, 1) := by decide +kernel
theorem dX4_know_113 : decode cX4_know 113 = .ok (.getfield 35, 3) := by decide +kernel
theorem dX4_know_116 : decode cX4_know 116 = .ok (.iload 4, 2) := by decide +kernel
theorem dX4_know_118 : decode cX4_know 118 = .ok (.iaload, 1) := by decide +kernel
theorem dX4_know_119 : decode cX4_know 119 = .ok (.iastore, 1) := by decide +kernel
theorem dX4_know_120 : decode cX4_know 120 = .ok (.aload_n 0, 1) := by decide +kernel
theorem dX4_know_121 : decode cX4_know 121 = .ok (.getfield 26, 3) := by decide +kernel
theorem dX4_know_124 : decode cX4_know 124 = .ok (.bipush 30, 2) := by decide +kernel
theorem dX4_know_126 : decode cX4_know 126 = .ok (.aload_n 0, 1) := by decide +kernel
theorem dX4_know_127 : decode cX4_know 127 = .ok (.getfield 85, 3) := by decide +kernel
theorem dX4_know_130 : decode cX4_know 130 = .ok (.imul, 1) := by decide +kernel
theorem dX4_know_131 : decode cX4_know 131 = .ok (.iload 4, 2) := by decide +kernel
theorem dX4_know_133 : decode cX4_know 133 = .ok (.iadd, 1) := by decide +kernel
theorem dX4_know_134 : decode cX4_know 134 = .ok (.iload 4, 2) := by decide +kernel
theorem dX4_know_136 : decode cX4_know 136 = .ok (.iload_n 2, 1) := by decide +kernel
theorem dX4_know_137 : decode cX4_know 137 = .ok (.if_icmp .ne 7, 3) := by decide +kernel
theorem dX4_know_140 : decode cX4_know 140 = .ok (.iconst 1, 1) := by decide +kernel
theorem dX4_know_141 : decode cX4_know 141 = .ok (.goto 20, 3) := by decide +kernel
theorem dX4_know_144 : decode cX4_know 144 = .ok (.aload_n 0, 1) := by decide +kernel
theorem dX4_know_145 : decode cX4_know 145 = .ok (.getfield 60, 3) := by decide +kernel
theorem dX4_know_148 : decode cX4_know 148 = .ok (.aload_n 0, 1) := by decide +kernel
theorem dX4_know_149 : decode cX4_know 149 = .ok (.getfield 38, 3) := by decide +kernel
theorem dX4_know_152 : decode cX4_know 152 = .ok (.iload 4, 2) := by decide +kernel
theorem dX4_know_154 : decode cX4_know 154 = .ok (.iaload, 1) := by decide +kernel
theorem dX4_know_155 : decode cX4_know 155 = .ok (.isub, 1) := by decide +kernel
theorem dX4_know_156 : decode cX4_know 156 = .ok (.aload_n 0, 1) := by decide +kernel
theorem dX4_know_157 : decode cX4_know 157 = .ok (.getfield 60, 3) := by decide +kernel
theorem dX4_know_160 : decode cX4_know 160 = .ok (.irem, 1) := by decide +kernel
theorem dX4_know_161 : decode cX4_know 161 = .ok (.iastore, 1) := by decide +kernel
theorem dX4_know_162 : decode cX4_know 162 = .ok (.iinc 4 1, 3) := by decide +kernel
theorem dX4_know_165 : decode cX4_know 165 = .ok (.goto (-76), 3) := by decide +kernel
theorem dX4_know_168 : decode cX4_know 168 = .ok (.aload_n 0, 1) := by decide +kernel
theorem dX4_know_169 : decode cX4_know 169 = .ok (.getfield 29, 3) := by decide +kernel
theorem dX4_know_172 : decode cX4_know 172 = .ok (.aload_n 0, 1) := by decide +kernel
theorem dX4_know_173 : decode cX4_know 173 = .ok (.getfield 85, 3) := by decide +kernel
theorem dX4_know_176 : decode cX4_know 176 = .ok (.iload_n 3, 1) := by decide +kernel
theorem dX4_know_177 : decode cX4_know 177 = .ok (.iastore, 1) := by decide +kernel
theorem dX4_know_178 : decode cX4_know 178 = .ok (.aload_n 0, 1) := by decide +kernel
theorem dX4_know_179 : decode cX4_know 179 = .ok (.dup, 1) := by decide +kernel
theorem dX4_know_180 : decode cX4_know 180 = .ok (.getfield 85, 3) := by decide +kernel
theorem dX4_know_183 : decode cX4_know 183 = .ok (.iconst 1, 1) := by decide +kernel
theorem dX4_know_184 : decode cX4_know 184 = .ok (.iadd, 1) := by decide +kernel
theorem dX4_know_185 : decode cX4_know 185 = .ok (.putfield 85, 3) := by decide +kernel
theorem dX4_know_188 : decode cX4_know 188 = .ok (.goto 63, 3) := by decide +kernel
theorem dX4_know_191 : decode cX4_know 191 = .ok (.iconst 0, 1) := by decide +kernel
theorem dX4_know_192 : decode cX4_know 192 = .ok (.istore 4, 2) := by decide +kernel
theorem dX4_know_194 : decode cX4_know 194 = .ok (.iload 4, 2) := by decide +kernel
theorem dX4_know_196 : decode cX4_know 196 = .ok (.aload_n 0, 1) := by decide +kernel
theorem dX4_know_197 : decode cX4_know 197 = .ok (.getfield 56, 3) := by decide +kernel
theorem dX4_know_200 : decode cX4_know 200 = .ok (.if_icmp .ge 48, 3) := by decide +kernel
theorem dX4_know_203 : decode cX4_know 203 = .ok (.aload_n 0, 1) := by decide +kernel
theorem dX4_know_204 : decode cX4_know 204 = .ok (.getfield 44, 3) := by decide +kernel
theorem dX4_know_207 : decode cX4_know 207 = .ok (.bipush 30, 2) := by decide +kernel
theorem dX4_know_209 : decode cX4_know 209 = .ok (.iload_n 1, 1) := by decide +kernel
theorem dX4_know_210 : decode cX4_know 210 = .ok (.imul, 1) := by decide +kernel
theorem dX4_know_211 : decode cX4_know 211 = .ok (.iload 4, 2) := by decide +kernel
theorem dX4_know_213 : decode cX4_know 213 = .ok (.iadd, 1) := by decide +kernel
theorem dX4_know_214 : decode cX4_know 214 = .ok (.iload 4, 2) := by decide +kernel
theorem dX4_know_216 : decode cX4_know 216 = .ok (.iload_n 2, 1) := by decide +kernel
theorem dX4_know_217 : decode cX4_know 217 = .ok (.if_icmp .ne 7, 3) := by decide +kernel
theorem dX4_know_220 : decode cX4_know 220 = .ok (.iconst 1, 1) := by decide +kernel
theorem dX4_know_221 : decode cX4_know 221 = .ok (.goto 20, 3) := by decide +kernel
theorem dX4_know_224 : decode cX4_know 224 = .ok (.aload_n 0, 1) := by decide +kernel
theorem dX4_know_225 : decode cX4_know 225 = .ok (.getfield 60, 3) := by decide +kernel
theorem dX4_know_228 : decode cX4_know 228 = .ok (.aload_n 0, 1) := by decide +kernel
theorem dX4_know_229 : decode cX4_know 229 = .ok (.getfield 38, 3) := by decide +kernel
theorem dX4_know_232 : decode cX4_know 232 = .ok (.iload 4, 2) := by decide +kernel
theorem dX4_know_234 : decode cX4_know 234 = .ok (.iaload, 1) := by decide +kernel
theorem dX4_know_235 : decode cX4_know 235 = .ok (.isub, 1) := by decide +kernel
theorem dX4_know_236 : decode cX4_know 236 = .ok (.aload_n 0, 1) := by decide +kernel
theorem dX4_know_237 : decode cX4_know 237 = .ok (.getfield 60, 3) := by decide +kernel
theorem dX4_know_240 : decode cX4_know 240 = .ok (.irem, 1) := by decide +kernel
theorem dX4_know_241 : decode cX4_know 241 = .ok (.iastore, 1) := by decide +kernel
theorem dX4_know_242 : decode cX4_know 242 = .ok (.iinc 4 1, 3) := by decide +kernel
theorem dX4_know_245 : decode cX4_know 245 = .ok (.goto (-51), 3) := by decide +kernel
theorem dX4_know_248 : decode cX4_know 248 = .ok (.iinc 1 1, 3) := by decide +kernel
theorem dX4_know_251 : decode cX4_know 251 = .ok (.iinc 2 1, 3) := by decide +kernel
theorem dX4_know_254 : decode cX4_know 254 = .ok (.goto (-232), 3) := by decide +kernel
theorem dX4_know_257 : decode cX4_know 257 = .ok (.return_, 1) := by decide +kernel
theorem dX4_rank_0 : decode cX4_rank 0 = .ok (.aload_n 0, 1) := by decide +kernel
theorem dX4_rank_1 : decode cX4_rank 1 = .ok (.iconst 0, 1) := by decide +kernel
theorem dX4_rank_2 : decode cX4_rank 2 = .ok (.putfield 63, 3) := by decide +kernel
theorem dX4_rank_5 : decode cX4_rank 5 = .ok (.aload_n 0, 1) := by decide +kernel
theorem dX4_rank_6 : decode cX4_rank 6 = .ok (.invokevirtual 99, 3) := by decide +kernel
theorem dX4_rank_9 : decode cX4_rank 9 = .ok (.aload_n 0, 1) := by decide +kernel
theorem dX4_rank_10 : decode cX4_rank 10 = .ok (.getfield 85, 3) := by decide +kernel
theorem dX4_rank_13 : decode cX4_rank 13 = .ok (.ireturn, 1) := by decide +kernel
theorem dX4_answers_0 : decode cX4_answers 0 = .ok (.aload_n 0, 1) := by decide +kernel
theorem dX4_answers_1 : decode cX4_answers 1 = .ok (.invokevirtual 99, 3) := by decide +kernel
theorem dX4_answers_4 : decode cX4_answers 4 = .ok (.iconst 0, 1) := by decide +kernel
theorem dX4_answers_5 : decode cX4_answers 5 = .ok (.istore_n 1, 1) := by decide +kernel
theorem dX4_answers_6 : decode cX4_answers 6 = .ok (.iload_n 1, 1) := by decide +kernel
theorem dX4_answers_7 : decode cX4_answers 7 = .ok (.aload_n 0, 1) := by decide +kernel
theorem dX4_answers_8 : decode cX4_answers 8 = .ok (.getfield 56, 3) := by decide +kernel
theorem dX4_answers_11 : decode cX4_answers 11 = .ok (.if_icmp .ge 38, 3) := by decide +kernel
theorem dX4_answers_14 : decode cX4_answers 14 = .ok (.aload_n 0, 1) := by decide +kernel
theorem dX4_answers_15 : decode cX4_answers 15 = .ok (.getfield 35, 3) := by decide +kernel
theorem dX4_answers_18 : decode cX4_answers 18 = .ok (.iload_n 1, 1) := by decide +kernel
theorem dX4_answers_19 : decode cX4_answers 19 = .ok (.aload_n 0, 1) := by decide +kernel
theorem dX4_answers_20 : decode cX4_answers 20 = .ok (.getfield 20, 3) := by decide +kernel
theorem dX4_answers_23 : decode cX4_answers 23 = .ok (.iload_n 1, 1) := by decide +kernel
theorem dX4_answers_24 : decode cX4_answers 24 = .ok (.iaload, 1) := by decide +kernel
theorem dX4_answers_25 : decode cX4_answers 25 = .ok (.aload_n 0, 1) := by decide +kernel
theorem dX4_answers_26 : decode cX4_answers 26 = .ok (.getfield 60, 3) := by decide +kernel
theorem dX4_answers_29 : decode cX4_answers 29 = .ok (.iadd, 1) := by decide +kernel
theorem dX4_answers_30 : decode cX4_answers 30 = .ok (.aload_n 0, 1) := by decide +kernel
theorem dX4_answers_31 : decode cX4_answers 31 = .ok (.getfield 16, 3) := by decide +kernel
theorem dX4_answers_34 : decode cX4_answers 34 = .ok (.iload_n 1, 1) := by decide +kernel
theorem dX4_answers_35 : decode cX4_answers 35 = .ok (.iaload, 1) := by decide +kernel
theorem dX4_answers_36 : decode cX4_answers 36 = .ok (.isub, 1) := by decide +kernel
theorem dX4_answers_37 : decode cX4_answers 37 = .ok (.aload_n 0, 1) := by decide +kernel
theorem dX4_answers_38 : decode cX4_answers 38 = .ok (.getfield 60, 3) := by decide +kernel
theorem dX4_answers_41 : decode cX4_answers 41 = .ok (.irem, 1) := by decide +kernel
theorem dX4_answers_42 : decode cX4_answers 42 = .ok (.iastore, 1) := by decide +kernel
theorem dX4_answers_43 : decode cX4_answers 43 = .ok (.iinc 1 1, 3) := by decide +kernel
theorem dX4_answers_46 : decode cX4_answers 46 = .ok (.goto (-40), 3) := by decide +kernel
theorem dX4_answers_49 : decode cX4_answers 49 = .ok (.aload_n 0, 1) := by decide +kernel
theorem dX4_answers_50 : decode cX4_answers 50 = .ok (.invokevirtual 92, 3) := by decide +kernel
theorem dX4_answers_53 : decode cX4_answers 53 = .ok (.iconst 0, 1) := by decide +kernel
theorem dX4_answers_54 : decode cX4_answers 54 = .ok (.istore_n 1, 1) := by decide +kernel
theorem dX4_answers_55 : decode cX4_answers 55 = .ok (.iload_n 1, 1) := by decide +kernel
theorem dX4_answers_56 : decode cX4_answers 56 = .ok (.aload_n 0, 1) := by decide +kernel
theorem dX4_answers_57 : decode cX4_answers 57 = .ok (.getfield 56, 3) := by decide +kernel
theorem dX4_answers_60 : decode cX4_answers 60 = .ok (.if_icmp .ge 21, 3) := by decide +kernel
theorem dX4_answers_63 : decode cX4_answers 63 = .ok (.aload_n 0, 1) := by decide +kernel
theorem dX4_answers_64 : decode cX4_answers 64 = .ok (.getfield 41, 3) := by decide +kernel
theorem dX4_answers_67 : decode cX4_answers 67 = .ok (.iload_n 1, 1) := by decide +kernel
theorem dX4_answers_68 : decode cX4_answers 68 = .ok (.aload_n 0, 1) := by decide +kernel
theorem dX4_answers_69 : decode cX4_answers 69 = .ok (.getfield 38, 3) := by decide +kernel
theorem dX4_answers_72 : decode cX4_answers 72 = .ok (.iload_n 1, 1) := by decide +kernel
theorem dX4_answers_73 : decode cX4_answers 73 = .ok (.iaload, 1) := by decide +kernel
theorem dX4_answers_74 : decode cX4_answers 74 = .ok (.iastore, 1) := by decide +kernel
theorem dX4_answers_75 : decode cX4_answers 75 = .ok (.iinc 1 1, 3) := by decide +kernel
theorem dX4_answers_78 : decode cX4_answers 78 = .ok (.goto (-23), 3) := by decide +kernel
theorem dX4_answers_81 : decode cX4_answers 81 = .ok (.aload_n 0, 1) := by decide +kernel
theorem dX4_answers_82 : decode cX4_answers 82 = .ok (.invokevirtual 95, 3) := by decide +kernel
theorem dX4_answers_85 : decode cX4_answers 85 = .ok (.ifCond .ge 7, 3) := by decide +kernel
theorem dX4_answers_88 : decode cX4_answers 88 = .ok (.iconst 1, 1) := by decide +kernel
theorem dX4_answers_89 : decode cX4_answers 89 = .ok (.goto 4, 3) := by decide +kernel
theorem dX4_answers_92 : decode cX4_answers 92 = .ok (.iconst 0, 1) := by decide +kernel
theorem dX4_answers_93 : decode cX4_answers 93 = .ok (.ireturn, 1) := by decide +kernel
theorem dX4_solvable_0 : decode cX4_solvable 0 = .ok (.aload_n 0, 1) := by decide +kernel
theorem dX4_solvable_1 : decode cX4_solvable 1 = .ok (.iconst 0, 1) := by decide +kernel
theorem dX4_solvable_2 : decode cX4_solvable 2 = .ok (.putfield 63, 3) := by decide +kernel
theorem dX4_solvable_5 : decode cX4_solvable 5 = .ok (.aload_n 0, 1) := by decide +kernel
theorem dX4_solvable_6 : decode cX4_solvable 6 = .ok (.invokevirtual 102, 3) := by decide +kernel
theorem dX4_solvable_9 : decode cX4_solvable 9 = .ok (.ireturn, 1) := by decide +kernel
theorem dX4_answer_0 : decode cX4_answer 0 = .ok (.aload_n 0, 1) := by decide +kernel
theorem dX4_answer_1 : decode cX4_answer 1 = .ok (.aload_n 0, 1) := by decide +kernel
theorem dX4_answer_2 : decode cX4_answer 2 = .ok (.iload_n 1, 1) := by decide +kernel
theorem dX4_answer_3 : decode cX4_answer 3 = .ok (.invokevirtual 66, 3) := by decide +kernel
theorem dX4_answer_6 : decode cX4_answer 6 = .ok (.ifCond .ne 7, 3) := by decide +kernel
theorem dX4_answer_9 : decode cX4_answer 9 = .ok (.iconst 1, 1) := by decide +kernel
theorem dX4_answer_10 : decode cX4_answer 10 = .ok (.goto 4, 3) := by decide +kernel
theorem dX4_answer_13 : decode cX4_answer 13 = .ok (.iconst 0, 1) := by decide +kernel
theorem dX4_answer_14 : decode cX4_answer 14 = .ok (.invokevirtual 70, 3) := by decide +kernel
theorem dX4_answer_17 : decode cX4_answer 17 = .ok (.ifCond .eq 5, 3) := by decide +kernel
theorem dX4_answer_20 : decode cX4_answer 20 = .ok (.iconst 0, 1) := by decide +kernel
theorem dX4_answer_21 : decode cX4_answer 21 = .ok (.ireturn, 1) := by decide +kernel
theorem dX4_answer_22 : decode cX4_answer 22 = .ok (.aload_n 0, 1) := by decide +kernel
theorem dX4_answer_23 : decode cX4_answer 23 = .ok (.invokevirtual 102, 3) := by decide +kernel
theorem dX4_answer_26 : decode cX4_answer 26 = .ok (.ifCond .eq 12, 3) := by decide +kernel
theorem dX4_answer_29 : decode cX4_answer 29 = .ok (.aload_n 0, 1) := by decide +kernel
theorem dX4_answer_30 : decode cX4_answer 30 = .ok (.getfield 41, 3) := by decide +kernel
theorem dX4_answer_33 : decode cX4_answer 33 = .ok (.iload_n 1, 1) := by decide +kernel
theorem dX4_answer_34 : decode cX4_answer 34 = .ok (.iaload, 1) := by decide +kernel
theorem dX4_answer_35 : decode cX4_answer 35 = .ok (.goto 4, 3) := by decide +kernel
theorem dX4_answer_38 : decode cX4_answer 38 = .ok (.iconst (-1), 1) := by decide +kernel
theorem dX4_answer_39 : decode cX4_answer 39 = .ok (.ireturn, 1) := by decide +kernel
theorem dX4_quiet_0 : decode cX4_quiet 0 = .ok (.aload_n 0, 1) := by decide +kernel
theorem dX4_quiet_1 : decode cX4_quiet 1 = .ok (.aload_n 0, 1) := by decide +kernel
theorem dX4_quiet_2 : decode cX4_quiet 2 = .ok (.iload_n 2, 1) := by decide +kernel
theorem dX4_quiet_3 : decode cX4_quiet 3 = .ok (.invokevirtual 66, 3) := by decide +kernel
theorem dX4_quiet_6 : decode cX4_quiet 6 = .ok (.ifCond .ne 7, 3) := by decide +kernel
theorem dX4_quiet_9 : decode cX4_quiet 9 = .ok (.iconst 1, 1) := by decide +kernel
theorem dX4_quiet_10 : decode cX4_quiet 10 = .ok (.goto 4, 3) := by decide +kernel
theorem dX4_quiet_13 : decode cX4_quiet 13 = .ok (.iconst 0, 1) := by decide +kernel
theorem dX4_quiet_14 : decode cX4_quiet 14 = .ok (.invokevirtual 70, 3) := by decide +kernel
theorem dX4_quiet_17 : decode cX4_quiet 17 = .ok (.ifCond .eq 5, 3) := by decide +kernel
theorem dX4_quiet_20 : decode cX4_quiet 20 = .ok (.iconst 0, 1) := by decide +kernel
theorem dX4_quiet_21 : decode cX4_quiet 21 = .ok (.ireturn, 1) := by decide +kernel
theorem dX4_quiet_22 : decode cX4_quiet 22 = .ok (.aload_n 0, 1) := by decide +kernel
theorem dX4_quiet_23 : decode cX4_quiet 23 = .ok (.invokevirtual 99, 3) := by decide +kernel
theorem dX4_quiet_26 : decode cX4_quiet 26 = .ok (.iload_n 1, 1) := by decide +kernel
theorem dX4_quiet_27 : decode cX4_quiet 27 = .ok (.ifCond .lt 16, 3) := by decide +kernel
theorem dX4_quiet_30 : decode cX4_quiet 30 = .ok (.iload_n 1, 1) := by decide +kernel
theorem dX4_quiet_31 : decode cX4_quiet 31 = .ok (.aload_n 0, 1) := by decide +kernel
theorem dX4_quiet_32 : decode cX4_quiet 32 = .ok (.getfield 56, 3) := by decide +kernel
theorem dX4_quiet_35 : decode cX4_quiet 35 = .ok (.aload_n 0, 1) := by decide +kernel
theorem dX4_quiet_36 : decode cX4_quiet 36 = .ok (.getfield 85, 3) := by decide +kernel
theorem dX4_quiet_39 : decode cX4_quiet 39 = .ok (.isub, 1) := by decide +kernel
theorem dX4_quiet_40 : decode cX4_quiet 40 = .ok (.if_icmp .lt 7, 3) := by decide +kernel
theorem dX4_quiet_43 : decode cX4_quiet 43 = .ok (.iconst (-1), 1) := by decide +kernel
theorem dX4_quiet_44 : decode cX4_quiet 44 = .ok (.goto 14, 3) := by decide +kernel
theorem dX4_quiet_47 : decode cX4_quiet 47 = .ok (.aload_n 0, 1) := by decide +kernel
theorem dX4_quiet_48 : decode cX4_quiet 48 = .ok (.getfield 44, 3) := by decide +kernel
theorem dX4_quiet_51 : decode cX4_quiet 51 = .ok (.bipush 30, 2) := by decide +kernel
theorem dX4_quiet_53 : decode cX4_quiet 53 = .ok (.iload_n 1, 1) := by decide +kernel
theorem dX4_quiet_54 : decode cX4_quiet 54 = .ok (.imul, 1) := by decide +kernel
theorem dX4_quiet_55 : decode cX4_quiet 55 = .ok (.iload_n 2, 1) := by decide +kernel
theorem dX4_quiet_56 : decode cX4_quiet 56 = .ok (.iadd, 1) := by decide +kernel
theorem dX4_quiet_57 : decode cX4_quiet 57 = .ok (.iaload, 1) := by decide +kernel
theorem dX4_quiet_58 : decode cX4_quiet 58 = .ok (.ireturn, 1) := by decide +kernel
theorem dX4_count_0 : decode cX4_count 0 = .ok (.aload_n 0, 1) := by decide +kernel
theorem dX4_count_1 : decode cX4_count 1 = .ok (.iconst 0, 1) := by decide +kernel
theorem dX4_count_2 : decode cX4_count 2 = .ok (.putfield 63, 3) := by decide +kernel
theorem dX4_count_5 : decode cX4_count 5 = .ok (.aload_n 0, 1) := by decide +kernel
theorem dX4_count_6 : decode cX4_count 6 = .ok (.invokevirtual 102, 3) := by decide +kernel
theorem dX4_count_9 : decode cX4_count 9 = .ok (.istore_n 2, 1) := by decide +kernel
theorem dX4_count_10 : decode cX4_count 10 = .ok (.aload_n 0, 1) := by decide +kernel
theorem dX4_count_11 : decode cX4_count 11 = .ok (.getfield 53, 3) := by decide +kernel
theorem dX4_count_14 : decode cX4_count 14 = .ok (.iconst 0, 1) := by decide +kernel
theorem dX4_count_15 : decode cX4_count 15 = .ok (.iload_n 2, 1) := by decide +kernel
theorem dX4_count_16 : decode cX4_count 16 = .ok (.ifCond .eq 7, 3) := by decide +kernel
theorem dX4_count_19 : decode cX4_count 19 = .ok (.iconst 1, 1) := by decide +kernel
theorem dX4_count_20 : decode cX4_count 20 = .ok (.goto 4, 3) := by decide +kernel
theorem dX4_count_23 : decode cX4_count 23 = .ok (.iconst 0, 1) := by decide +kernel
theorem dX4_count_24 : decode cX4_count 24 = .ok (.iastore, 1) := by decide +kernel
theorem dX4_count_25 : decode cX4_count 25 = .ok (.iconst 1, 1) := by decide +kernel
theorem dX4_count_26 : decode cX4_count 26 = .ok (.istore_n 3, 1) := by decide +kernel
theorem dX4_count_27 : decode cX4_count 27 = .ok (.iconst 0, 1) := by decide +kernel
theorem dX4_count_28 : decode cX4_count 28 = .ok (.istore 4, 2) := by decide +kernel
theorem dX4_count_30 : decode cX4_count 30 = .ok (.iload 4, 2) := by decide +kernel
theorem dX4_count_32 : decode cX4_count 32 = .ok (.aload_n 0, 1) := by decide +kernel
theorem dX4_count_33 : decode cX4_count 33 = .ok (.getfield 56, 3) := by decide +kernel
theorem dX4_count_36 : decode cX4_count 36 = .ok (.aload_n 0, 1) := by decide +kernel
theorem dX4_count_37 : decode cX4_count 37 = .ok (.getfield 85, 3) := by decide +kernel
theorem dX4_count_40 : decode cX4_count 40 = .ok (.isub, 1) := by decide +kernel
theorem dX4_count_41 : decode cX4_count 41 = .ok (.if_icmp .ge 86, 3) := by decide +kernel
theorem dX4_count_44 : decode cX4_count 44 = .ok (.iload_n 2, 1) := by decide +kernel
theorem dX4_count_45 : decode cX4_count 45 = .ok (.ifCond .eq 82, 3) := by decide +kernel
theorem dX4_count_48 : decode cX4_count 48 = .ok (.iconst 0, 1) := by decide +kernel
theorem dX4_count_49 : decode cX4_count 49 = .ok (.istore 5, 2) := by decide +kernel
theorem dX4_count_51 : decode cX4_count 51 = .ok (.iconst 0, 1) := by decide +kernel
theorem dX4_count_52 : decode cX4_count 52 = .ok (.istore 6, 2) := by decide +kernel
theorem dX4_count_54 : decode cX4_count 54 = .ok (.iload 6, 2) := by decide +kernel
theorem dX4_count_56 : decode cX4_count 56 = .ok (.iload_n 3, 1) := by decide +kernel
theorem dX4_count_57 : decode cX4_count 57 = .ok (.if_icmp .ge 45, 3) := by decide +kernel
theorem dX4_count_60 : decode cX4_count 60 = .ok (.aload_n 0, 1) := by decide +kernel
theorem dX4_count_61 : decode cX4_count 61 = .ok (.getfield 53, 3) := by decide +kernel
theorem dX4_count_64 : decode cX4_count 64 = .ok (.iload 6, 2) := by decide +kernel
theorem dX4_count_66 : decode cX4_count 66 = .ok (.iaload, 1) := by decide +kernel
theorem dX4_count_67 : decode cX4_count 67 = .ok (.aload_n 0, 1) := by decide +kernel
theorem dX4_count_68 : decode cX4_count 68 = .ok (.getfield 60, 3) := by decide +kernel
theorem dX4_count_71 : decode cX4_count 71 = .ok (.imul, 1) := by decide +kernel
theorem dX4_count_72 : decode cX4_count 72 = .ok (.iload 5, 2) := by decide +kernel
theorem dX4_count_74 : decode cX4_count 74 = .ok (.iadd, 1) := by decide +kernel
theorem dX4_count_75 : decode cX4_count 75 = .ok (.istore 7, 2) := by decide +kernel
theorem dX4_count_77 : decode cX4_count 77 = .ok (.aload_n 0, 1) := by decide +kernel
theorem dX4_count_78 : decode cX4_count 78 = .ok (.getfield 53, 3) := by decide +kernel
theorem dX4_count_81 : decode cX4_count 81 = .ok (.iload 6, 2) := by decide +kernel
theorem dX4_count_83 : decode cX4_count 83 = .ok (.iload 7, 2) := by decide +kernel
theorem dX4_count_85 : decode cX4_count 85 = .ok (.bipush 10, 2) := by decide +kernel
theorem dX4_count_87 : decode cX4_count 87 = .ok (.irem, 1) := by decide +kernel
theorem dX4_count_88 : decode cX4_count 88 = .ok (.iastore, 1) := by decide +kernel
theorem dX4_count_89 : decode cX4_count 89 = .ok (.iload 7, 2) := by decide +kernel
theorem dX4_count_91 : decode cX4_count 91 = .ok (.bipush 10, 2) := by decide +kernel
theorem dX4_count_93 : decode cX4_count 93 = .ok (.idiv, 1) := by decide +kernel
theorem dX4_count_94 : decode cX4_count 94 = .ok (.istore 5, 2) := by decide +kernel
theorem dX4_count_96 : decode cX4_count 96 = .ok (.iinc 6 1, 3) := by decide +kernel
theorem dX4_count_99 : decode cX4_count 99 = .ok (.goto (-45), 3) := by decide +kernel
theorem dX4_count_102 : decode cX4_count 102 = .ok (.iload 5, 2) := by decide +kernel
theorem dX4_count_104 : decode cX4_count 104 = .ok (.ifCond .ne 6, 3) := by decide +kernel
theorem dX4_count_107 : decode cX4_count 107 = .ok (.goto 14, 3) := by decide +kernel
theorem dX4_count_110 : decode cX4_count 110 = .ok (.aload_n 0, 1) := by decide +kernel
theorem dX4_count_111 : decode cX4_count 111 = .ok (.getfield 53, 3) := by decide +kernel
theorem dX4_count_114 : decode cX4_count 114 = .ok (.iload_n 3, 1) := by decide +kernel
theorem dX4_count_115 : decode cX4_count 115 = .ok (.iload 5, 2) := by decide +kernel
theorem dX4_count_117 : decode cX4_count 117 = .ok (.iastore, 1) := by decide +kernel
theorem dX4_count_118 : decode cX4_count 118 = .ok (.iinc 3 1, 3) := by decide +kernel
theorem dX4_count_121 : decode cX4_count 121 = .ok (.iinc 4 1, 3) := by decide +kernel
theorem dX4_count_124 : decode cX4_count 124 = .ok (.goto (-94), 3) := by decide +kernel
theorem dX4_count_127 : decode cX4_count 127 = .ok (.iload_n 1, 1) := by decide +kernel
theorem dX4_count_128 : decode cX4_count 128 = .ok (.ifCond .lt 17, 3) := by decide +kernel
theorem dX4_count_131 : decode cX4_count 131 = .ok (.iload_n 1, 1) := by decide +kernel
theorem dX4_count_132 : decode cX4_count 132 = .ok (.iload_n 3, 1) := by decide +kernel
theorem dX4_count_133 : decode cX4_count 133 = .ok (.if_icmp .ge 12, 3) := by decide +kernel
theorem dX4_count_136 : decode cX4_count 136 = .ok (.aload_n 0, 1) := by decide +kernel
theorem dX4_count_137 : decode cX4_count 137 = .ok (.getfield 53, 3) := by decide +kernel
theorem dX4_count_140 : decode cX4_count 140 = .ok (.iload_n 1, 1) := by decide +kernel
theorem dX4_count_141 : decode cX4_count 141 = .ok (.iaload, 1) := by decide +kernel
theorem dX4_count_142 : decode cX4_count 142 = .ok (.goto 4, 3) := by decide +kernel
theorem dX4_count_145 : decode cX4_count 145 = .ok (.iconst (-1), 1) := by decide +kernel
theorem dX4_count_146 : decode cX4_count 146 = .ok (.ireturn, 1) := by decide +kernel
theorem dX4_findBest_0 : decode cX4_findBest 0 = .ok (.aload_n 0, 1) := by decide +kernel
theorem dX4_findBest_1 : decode cX4_findBest 1 = .ok (.invokevirtual 102, 3) := by decide +kernel
theorem dX4_findBest_4 : decode cX4_findBest 4 = .ok (.ifCond .ne 5, 3) := by decide +kernel
theorem dX4_findBest_7 : decode cX4_findBest 7 = .ok (.iconst (-1), 1) := by decide +kernel
theorem dX4_findBest_8 : decode cX4_findBest 8 = .ok (.ireturn, 1) := by decide +kernel
theorem dX4_findBest_9 : decode cX4_findBest 9 = .ok (.iconst 1, 1) := by decide +kernel
theorem dX4_findBest_10 : decode cX4_findBest 10 = .ok (.istore_n 1, 1) := by decide +kernel
theorem dX4_findBest_11 : decode cX4_findBest 11 = .ok (.iconst 0, 1) := by decide +kernel
theorem dX4_findBest_12 : decode cX4_findBest 12 = .ok (.istore_n 2, 1) := by decide +kernel
theorem dX4_findBest_13 : decode cX4_findBest 13 = .ok (.iload_n 2, 1) := by decide +kernel
theorem dX4_findBest_14 : decode cX4_findBest 14 = .ok (.aload_n 0, 1) := by decide +kernel
theorem dX4_findBest_15 : decode cX4_findBest 15 = .ok (.getfield 56, 3) := by decide +kernel
theorem dX4_findBest_18 : decode cX4_findBest 18 = .ok (.aload_n 0, 1) := by decide +kernel
theorem dX4_findBest_19 : decode cX4_findBest 19 = .ok (.getfield 85, 3) := by decide +kernel
theorem dX4_findBest_22 : decode cX4_findBest 22 = .ok (.isub, 1) := by decide +kernel
theorem dX4_findBest_23 : decode cX4_findBest 23 = .ok (.if_icmp .ge 26, 3) := by decide +kernel
theorem dX4_findBest_26 : decode cX4_findBest 26 = .ok (.iload_n 1, 1) := by decide +kernel
theorem dX4_findBest_27 : decode cX4_findBest 27 = .ok (.aload_n 0, 1) := by decide +kernel
theorem dX4_findBest_28 : decode cX4_findBest 28 = .ok (.getfield 60, 3) := by decide +kernel
theorem dX4_findBest_31 : decode cX4_findBest 31 = .ok (.imul, 1) := by decide +kernel
theorem dX4_findBest_32 : decode cX4_findBest 32 = .ok (.istore_n 1, 1) := by decide +kernel
theorem dX4_findBest_33 : decode cX4_findBest 33 = .ok (.iload_n 1, 1) := by decide +kernel
theorem dX4_findBest_34 : decode cX4_findBest 34 = .ok (.sipush 20000, 3) := by decide +kernel
theorem dX4_findBest_37 : decode cX4_findBest 37 = .ok (.if_icmp .le 6, 3) := by decide +kernel
theorem dX4_findBest_40 : decode cX4_findBest 40 = .ok (.bipush (-2), 2) := by decide +kernel
theorem dX4_findBest_42 : decode cX4_findBest 42 = .ok (.ireturn, 1) := by decide +kernel
theorem dX4_findBest_43 : decode cX4_findBest 43 = .ok (.iinc 2 1, 3) := by decide +kernel
theorem dX4_findBest_46 : decode cX4_findBest 46 = .ok (.goto (-33), 3) := by decide +kernel
theorem dX4_findBest_49 : decode cX4_findBest 49 = .ok (.iconst (-1), 1) := by decide +kernel
theorem dX4_findBest_50 : decode cX4_findBest 50 = .ok (.istore_n 2, 1) := by decide +kernel
theorem dX4_findBest_51 : decode cX4_findBest 51 = .ok (.iconst 0, 1) := by decide +kernel
theorem dX4_findBest_52 : decode cX4_findBest 52 = .ok (.istore_n 3, 1) := by decide +kernel
theorem dX4_findBest_53 : decode cX4_findBest 53 = .ok (.iload_n 3, 1) := by decide +kernel
theorem dX4_findBest_54 : decode cX4_findBest 54 = .ok (.iload_n 1, 1) := by decide +kernel
theorem dX4_findBest_55 : decode cX4_findBest 55 = .ok (.if_icmp .ge 77, 3) := by decide +kernel
theorem dX4_findBest_58 : decode cX4_findBest 58 = .ok (.aload_n 0, 1) := by decide +kernel
theorem dX4_findBest_59 : decode cX4_findBest 59 = .ok (.iload_n 3, 1) := by decide +kernel
theorem dX4_findBest_60 : decode cX4_findBest 60 = .ok (.invokevirtual 106, 3) := by decide +kernel
theorem dX4_findBest_63 : decode cX4_findBest 63 = .ok (.istore 4, 2) := by decide +kernel
theorem dX4_findBest_65 : decode cX4_findBest 65 = .ok (.iload_n 2, 1) := by decide +kernel
theorem dX4_findBest_66 : decode cX4_findBest 66 = .ok (.ifCond .lt 25, 3) := by decide +kernel
theorem dX4_findBest_69 : decode cX4_findBest 69 = .ok (.iload 4, 2) := by decide +kernel
theorem dX4_findBest_71 : decode cX4_findBest 71 = .ok (.iload_n 2, 1) := by decide +kernel
theorem dX4_findBest_72 : decode cX4_findBest 72 = .ok (.if_icmp .gt 54, 3) := by decide +kernel
theorem dX4_findBest_75 : decode cX4_findBest 75 = .ok (.iload 4, 2) := by decide +kernel
theorem dX4_findBest_77 : decode cX4_findBest 77 = .ok (.iload_n 2, 1) := by decide +kernel
theorem dX4_findBest_78 : decode cX4_findBest 78 = .ok (.if_icmp .ne 13, 3) := by decide +kernel
theorem dX4_findBest_81 : decode cX4_findBest 81 = .ok (.aload_n 0, 1) := by decide +kernel
theorem dX4_findBest_82 : decode cX4_findBest 82 = .ok (.invokevirtual 109, 3) := by decide +kernel
theorem dX4_findBest_85 : decode cX4_findBest 85 = .ok (.ifCond .ne 6, 3) := by decide +kernel
theorem dX4_findBest_88 : decode cX4_findBest 88 = .ok (.goto 38, 3) := by decide +kernel
theorem dX4_findBest_91 : decode cX4_findBest 91 = .ok (.iload 4, 2) := by decide +kernel
theorem dX4_findBest_93 : decode cX4_findBest 93 = .ok (.istore_n 2, 1) := by decide +kernel
theorem dX4_findBest_94 : decode cX4_findBest 94 = .ok (.iconst 0, 1) := by decide +kernel
theorem dX4_findBest_95 : decode cX4_findBest 95 = .ok (.istore 5, 2) := by decide +kernel
theorem dX4_findBest_97 : decode cX4_findBest 97 = .ok (.iload 5, 2) := by decide +kernel
theorem dX4_findBest_99 : decode cX4_findBest 99 = .ok (.aload_n 0, 1) := by decide +kernel
theorem dX4_findBest_100 : decode cX4_findBest 100 = .ok (.getfield 56, 3) := by decide +kernel
theorem dX4_findBest_103 : decode cX4_findBest 103 = .ok (.if_icmp .ge 23, 3) := by decide +kernel
theorem dX4_findBest_106 : decode cX4_findBest 106 = .ok (.aload_n 0, 1) := by decide +kernel
theorem dX4_findBest_107 : decode cX4_findBest 107 = .ok (.getfield 47, 3) := by decide +kernel
theorem dX4_findBest_110 : decode cX4_findBest 110 = .ok (.iload 5, 2) := by decide +kernel
theorem dX4_findBest_112 : decode cX4_findBest 112 = .ok (.aload_n 0, 1) := by decide +kernel
theorem dX4_findBest_113 : decode cX4_findBest 113 = .ok (.getfield 50, 3) := by decide +kernel
theorem dX4_findBest_116 : decode cX4_findBest 116 = .ok (.iload 5, 2) := by decide +kernel
theorem dX4_findBest_118 : decode cX4_findBest 118 = .ok (.iaload, 1) := by decide +kernel
theorem dX4_findBest_119 : decode cX4_findBest 119 = .ok (.iastore, 1) := by decide +kernel
theorem dX4_findBest_120 : decode cX4_findBest 120 = .ok (.iinc 5 1, 3) := by decide +kernel
theorem dX4_findBest_123 : decode cX4_findBest 123 = .ok (.goto (-26), 3) := by decide +kernel
theorem dX4_findBest_126 : decode cX4_findBest 126 = .ok (.iinc 3 1, 3) := by decide +kernel
theorem dX4_findBest_129 : decode cX4_findBest 129 = .ok (.goto (-76), 3) := by decide +kernel
theorem dX4_findBest_132 : decode cX4_findBest 132 = .ok (.iload_n 2, 1) := by decide +kernel
theorem dX4_findBest_133 : decode cX4_findBest 133 = .ok (.ireturn, 1) := by decide +kernel
theorem dX4_tryWay_0 : decode cX4_tryWay 0 = .ok (.iconst 0, 1) := by decide +kernel
theorem dX4_tryWay_1 : decode cX4_tryWay 1 = .ok (.istore_n 2, 1) := by decide +kernel
theorem dX4_tryWay_2 : decode cX4_tryWay 2 = .ok (.iload_n 2, 1) := by decide +kernel
theorem dX4_tryWay_3 : decode cX4_tryWay 3 = .ok (.aload_n 0, 1) := by decide +kernel
theorem dX4_tryWay_4 : decode cX4_tryWay 4 = .ok (.getfield 56, 3) := by decide +kernel
theorem dX4_tryWay_7 : decode cX4_tryWay 7 = .ok (.if_icmp .ge 21, 3) := by decide +kernel
theorem dX4_tryWay_10 : decode cX4_tryWay 10 = .ok (.aload_n 0, 1) := by decide +kernel
theorem dX4_tryWay_11 : decode cX4_tryWay 11 = .ok (.getfield 50, 3) := by decide +kernel
theorem dX4_tryWay_14 : decode cX4_tryWay 14 = .ok (.iload_n 2, 1) := by decide +kernel
theorem dX4_tryWay_15 : decode cX4_tryWay 15 = .ok (.aload_n 0, 1) := by decide +kernel
theorem dX4_tryWay_16 : decode cX4_tryWay 16 = .ok (.getfield 41, 3) := by decide +kernel
theorem dX4_tryWay_19 : decode cX4_tryWay 19 = .ok (.iload_n 2, 1) := by decide +kernel
theorem dX4_tryWay_20 : decode cX4_tryWay 20 = .ok (.iaload, 1) := by decide +kernel
theorem dX4_tryWay_21 : decode cX4_tryWay 21 = .ok (.iastore, 1) := by decide +kernel
theorem dX4_tryWay_22 : decode cX4_tryWay 22 = .ok (.iinc 2 1, 3) := by decide +kernel
theorem dX4_tryWay_25 : decode cX4_tryWay 25 = .ok (.goto (-23), 3) := by decide +kernel
theorem dX4_tryWay_28 : decode cX4_tryWay 28 = .ok (.iload_n 1, 1) := by decide +kernel
theorem dX4_tryWay_29 : decode cX4_tryWay 29 = .ok (.istore_n 2, 1) := by decide +kernel
theorem dX4_tryWay_30 : decode cX4_tryWay 30 = .ok (.iconst 0, 1) := by decide +kernel
theorem dX4_tryWay_31 : decode cX4_tryWay 31 = .ok (.istore_n 3, 1) := by decide +kernel
theorem dX4_tryWay_32 : decode cX4_tryWay 32 = .ok (.iload_n 2, 1) := by decide +kernel
theorem dX4_tryWay_33 : decode cX4_tryWay 33 = .ok (.ifCond .le 82, 3) := by decide +kernel
theorem dX4_tryWay_36 : decode cX4_tryWay 36 = .ok (.iload_n 2, 1) := by decide +kernel
theorem dX4_tryWay_37 : decode cX4_tryWay 37 = .ok (.aload_n 0, 1) := by decide +kernel
theorem dX4_tryWay_38 : decode cX4_tryWay 38 = .ok (.getfield 60, 3) := by decide +kernel
theorem dX4_tryWay_41 : decode cX4_tryWay 41 = .ok (.irem, 1) := by decide +kernel
theorem dX4_tryWay_42 : decode cX4_tryWay 42 = .ok (.istore 4, 2) := by decide +kernel
theorem dX4_tryWay_44 : decode cX4_tryWay 44 = .ok (.iload_n 2, 1) := by decide +kernel
theorem dX4_tryWay_45 : decode cX4_tryWay 45 = .ok (.aload_n 0, 1) := by decide +kernel
theorem dX4_tryWay_46 : decode cX4_tryWay 46 = .ok (.getfield 60, 3) := by decide +kernel
theorem dX4_tryWay_49 : decode cX4_tryWay 49 = .ok (.idiv, 1) := by decide +kernel
theorem dX4_tryWay_50 : decode cX4_tryWay 50 = .ok (.istore_n 2, 1) := by decide +kernel
theorem dX4_tryWay_51 : decode cX4_tryWay 51 = .ok (.iconst 0, 1) := by decide +kernel
theorem dX4_tryWay_52 : decode cX4_tryWay 52 = .ok (.istore 5, 2) := by decide +kernel
theorem dX4_tryWay_54 : decode cX4_tryWay 54 = .ok (.iload 5, 2) := by decide +kernel
theorem dX4_tryWay_56 : decode cX4_tryWay 56 = .ok (.aload_n 0, 1) := by decide +kernel
theorem dX4_tryWay_57 : decode cX4_tryWay 57 = .ok (.getfield 56, 3) := by decide +kernel
theorem dX4_tryWay_60 : decode cX4_tryWay 60 = .ok (.if_icmp .ge 49, 3) := by decide +kernel
theorem dX4_tryWay_63 : decode cX4_tryWay 63 = .ok (.iload 4, 2) := by decide +kernel
theorem dX4_tryWay_65 : decode cX4_tryWay 65 = .ok (.ifCond .le 44, 3) := by decide +kernel
theorem dX4_tryWay_68 : decode cX4_tryWay 68 = .ok (.aload_n 0, 1) := by decide +kernel
theorem dX4_tryWay_69 : decode cX4_tryWay 69 = .ok (.getfield 50, 3) := by decide +kernel
theorem dX4_tryWay_72 : decode cX4_tryWay 72 = .ok (.iload 5, 2) := by decide +kernel
theorem dX4_tryWay_74 : decode cX4_tryWay 74 = .ok (.aload_n 0, 1) := by decide +kernel
theorem dX4_tryWay_75 : decode cX4_tryWay 75 = .ok (.getfield 50, 3) := by decide +kernel
theorem dX4_tryWay_78 : decode cX4_tryWay 78 = .ok (.iload 5, 2) := by decide +kernel
theorem dX4_tryWay_80 : decode cX4_tryWay 80 = .ok (.iaload, 1) := by decide +kernel
theorem dX4_tryWay_81 : decode cX4_tryWay 81 = .ok (.iload 4, 2) := by decide +kernel
theorem dX4_tryWay_83 : decode cX4_tryWay 83 = .ok (.aload_n 0, 1) := by decide +kernel
theorem dX4_tryWay_84 : decode cX4_tryWay 84 = .ok (.getfield 44, 3) := by decide +kernel
theorem dX4_tryWay_87 : decode cX4_tryWay 87 = .ok (.bipush 30, 2) := by decide +kernel
theorem dX4_tryWay_89 : decode cX4_tryWay 89 = .ok (.iload_n 3, 1) := by decide +kernel
theorem dX4_tryWay_90 : decode cX4_tryWay 90 = .ok (.imul, 1) := by decide +kernel
theorem dX4_tryWay_91 : decode cX4_tryWay 91 = .ok (.iload 5, 2) := by decide +kernel
theorem dX4_tryWay_93 : decode cX4_tryWay 93 = .ok (.iadd, 1) := by decide +kernel
theorem dX4_tryWay_94 : decode cX4_tryWay 94 = .ok (.iaload, 1) := by decide +kernel
theorem dX4_tryWay_95 : decode cX4_tryWay 95 = .ok (.imul, 1) := by decide +kernel
theorem dX4_tryWay_96 : decode cX4_tryWay 96 = .ok (.iadd, 1) := by decide +kernel
theorem dX4_tryWay_97 : decode cX4_tryWay 97 = .ok (.aload_n 0, 1) := by decide +kernel
theorem dX4_tryWay_98 : decode cX4_tryWay 98 = .ok (.getfield 60, 3) := by decide +kernel
theorem dX4_tryWay_101 : decode cX4_tryWay 101 = .ok (.irem, 1) := by decide +kernel
theorem dX4_tryWay_102 : decode cX4_tryWay 102 = .ok (.iastore, 1) := by decide +kernel
theorem dX4_tryWay_103 : decode cX4_tryWay 103 = .ok (.iinc 5 1, 3) := by decide +kernel
theorem dX4_tryWay_106 : decode cX4_tryWay 106 = .ok (.goto (-52), 3) := by decide +kernel
theorem dX4_tryWay_109 : decode cX4_tryWay 109 = .ok (.iinc 3 1, 3) := by decide +kernel
theorem dX4_tryWay_112 : decode cX4_tryWay 112 = .ok (.goto (-80), 3) := by decide +kernel
theorem dX4_tryWay_115 : decode cX4_tryWay 115 = .ok (.iconst 0, 1) := by decide +kernel
theorem dX4_tryWay_116 : decode cX4_tryWay 116 = .ok (.istore_n 3, 1) := by decide +kernel
theorem dX4_tryWay_117 : decode cX4_tryWay 117 = .ok (.iconst 0, 1) := by decide +kernel
theorem dX4_tryWay_118 : decode cX4_tryWay 118 = .ok (.istore 4, 2) := by decide +kernel
theorem dX4_tryWay_120 : decode cX4_tryWay 120 = .ok (.iload 4, 2) := by decide +kernel
theorem dX4_tryWay_122 : decode cX4_tryWay 122 = .ok (.aload_n 0, 1) := by decide +kernel
theorem dX4_tryWay_123 : decode cX4_tryWay 123 = .ok (.getfield 56, 3) := by decide +kernel
theorem dX4_tryWay_126 : decode cX4_tryWay 126 = .ok (.if_icmp .ge 19, 3) := by decide +kernel
theorem dX4_tryWay_129 : decode cX4_tryWay 129 = .ok (.iload_n 3, 1) := by decide +kernel
theorem dX4_tryWay_130 : decode cX4_tryWay 130 = .ok (.aload_n 0, 1) := by decide +kernel
theorem dX4_tryWay_131 : decode cX4_tryWay 131 = .ok (.getfield 50, 3) := by decide +kernel
theorem dX4_tryWay_134 : decode cX4_tryWay 134 = .ok (.iload 4, 2) := by decide +kernel
theorem dX4_tryWay_136 : decode cX4_tryWay 136 = .ok (.iaload, 1) := by decide +kernel
theorem dX4_tryWay_137 : decode cX4_tryWay 137 = .ok (.iadd, 1) := by decide +kernel
theorem dX4_tryWay_138 : decode cX4_tryWay 138 = .ok (.istore_n 3, 1) := by decide +kernel
theorem dX4_tryWay_139 : decode cX4_tryWay 139 = .ok (.iinc 4 1, 3) := by decide +kernel
theorem dX4_tryWay_142 : decode cX4_tryWay 142 = .ok (.goto (-22), 3) := by decide +kernel
theorem dX4_tryWay_145 : decode cX4_tryWay 145 = .ok (.iload_n 3, 1) := by decide +kernel
theorem dX4_tryWay_146 : decode cX4_tryWay 146 = .ok (.ireturn, 1) := by decide +kernel
theorem dX4_isLess_0 : decode cX4_isLess 0 = .ok (.iconst 0, 1) := by decide +kernel
theorem dX4_isLess_1 : decode cX4_isLess 1 = .ok (.istore_n 1, 1) := by decide +kernel
theorem dX4_isLess_2 : decode cX4_isLess 2 = .ok (.iload_n 1, 1) := by decide +kernel
theorem dX4_isLess_3 : decode cX4_isLess 3 = .ok (.aload_n 0, 1) := by decide +kernel
theorem dX4_isLess_4 : decode cX4_isLess 4 = .ok (.getfield 56, 3) := by decide +kernel
theorem dX4_isLess_7 : decode cX4_isLess 7 = .ok (.if_icmp .ge 45, 3) := by decide +kernel
theorem dX4_isLess_10 : decode cX4_isLess 10 = .ok (.aload_n 0, 1) := by decide +kernel
theorem dX4_isLess_11 : decode cX4_isLess 11 = .ok (.getfield 50, 3) := by decide +kernel
theorem dX4_isLess_14 : decode cX4_isLess 14 = .ok (.iload_n 1, 1) := by decide +kernel
theorem dX4_isLess_15 : decode cX4_isLess 15 = .ok (.iaload, 1) := by decide +kernel
theorem dX4_isLess_16 : decode cX4_isLess 16 = .ok (.aload_n 0, 1) := by decide +kernel
theorem dX4_isLess_17 : decode cX4_isLess 17 = .ok (.getfield 47, 3) := by decide +kernel
theorem dX4_isLess_20 : decode cX4_isLess 20 = .ok (.iload_n 1, 1) := by decide +kernel
theorem dX4_isLess_21 : decode cX4_isLess 21 = .ok (.iaload, 1) := by decide +kernel
theorem dX4_isLess_22 : decode cX4_isLess 22 = .ok (.if_icmp .eq 24, 3) := by decide +kernel
theorem dX4_isLess_25 : decode cX4_isLess 25 = .ok (.aload_n 0, 1) := by decide +kernel
theorem dX4_isLess_26 : decode cX4_isLess 26 = .ok (.getfield 50, 3) := by decide +kernel
theorem dX4_isLess_29 : decode cX4_isLess 29 = .ok (.iload_n 1, 1) := by decide +kernel
theorem dX4_isLess_30 : decode cX4_isLess 30 = .ok (.iaload, 1) := by decide +kernel
theorem dX4_isLess_31 : decode cX4_isLess 31 = .ok (.aload_n 0, 1) := by decide +kernel
theorem dX4_isLess_32 : decode cX4_isLess 32 = .ok (.getfield 47, 3) := by decide +kernel
theorem dX4_isLess_35 : decode cX4_isLess 35 = .ok (.iload_n 1, 1) := by decide +kernel
theorem dX4_isLess_36 : decode cX4_isLess 36 = .ok (.iaload, 1) := by decide +kernel
theorem dX4_isLess_37 : decode cX4_isLess 37 = .ok (.if_icmp .ge 7, 3) := by decide +kernel
theorem dX4_isLess_40 : decode cX4_isLess 40 = .ok (.iconst 1, 1) := by decide +kernel
theorem dX4_isLess_41 : decode cX4_isLess 41 = .ok (.goto 4, 3) := by decide +kernel
theorem dX4_isLess_44 : decode cX4_isLess 44 = .ok (.iconst 0, 1) := by decide +kernel
theorem dX4_isLess_45 : decode cX4_isLess 45 = .ok (.ireturn, 1) := by decide +kernel
theorem dX4_isLess_46 : decode cX4_isLess 46 = .ok (.iinc 1 1, 3) := by decide +kernel
theorem dX4_isLess_49 : decode cX4_isLess 49 = .ok (.goto (-47), 3) := by decide +kernel
theorem dX4_isLess_52 : decode cX4_isLess 52 = .ok (.iconst 0, 1) := by decide +kernel
theorem dX4_isLess_53 : decode cX4_isLess 53 = .ok (.ireturn, 1) := by decide +kernel
theorem dX4_fewest_0 : decode cX4_fewest 0 = .ok (.aload_n 0, 1) := by decide +kernel
theorem dX4_fewest_1 : decode cX4_fewest 1 = .ok (.iconst 0, 1) := by decide +kernel
theorem dX4_fewest_2 : decode cX4_fewest 2 = .ok (.putfield 63, 3) := by decide +kernel
theorem dX4_fewest_5 : decode cX4_fewest 5 = .ok (.aload_n 0, 1) := by decide +kernel
theorem dX4_fewest_6 : decode cX4_fewest 6 = .ok (.invokevirtual 112, 3) := by decide +kernel
theorem dX4_fewest_9 : decode cX4_fewest 9 = .ok (.ireturn, 1) := by decide +kernel
theorem dX4_best_0 : decode cX4_best 0 = .ok (.aload_n 0, 1) := by decide +kernel
theorem dX4_best_1 : decode cX4_best 1 = .ok (.aload_n 0, 1) := by decide +kernel
theorem dX4_best_2 : decode cX4_best 2 = .ok (.iload_n 1, 1) := by decide +kernel
theorem dX4_best_3 : decode cX4_best 3 = .ok (.invokevirtual 66, 3) := by decide +kernel
theorem dX4_best_6 : decode cX4_best 6 = .ok (.ifCond .ne 7, 3) := by decide +kernel
theorem dX4_best_9 : decode cX4_best 9 = .ok (.iconst 1, 1) := by decide +kernel
theorem dX4_best_10 : decode cX4_best 10 = .ok (.goto 4, 3) := by decide +kernel
theorem dX4_best_13 : decode cX4_best 13 = .ok (.iconst 0, 1) := by decide +kernel
theorem dX4_best_14 : decode cX4_best 14 = .ok (.invokevirtual 70, 3) := by decide +kernel
theorem dX4_best_17 : decode cX4_best 17 = .ok (.ifCond .eq 5, 3) := by decide +kernel
theorem dX4_best_20 : decode cX4_best 20 = .ok (.iconst 0, 1) := by decide +kernel
theorem dX4_best_21 : decode cX4_best 21 = .ok (.ireturn, 1) := by decide +kernel
theorem dX4_best_22 : decode cX4_best 22 = .ok (.aload_n 0, 1) := by decide +kernel
theorem dX4_best_23 : decode cX4_best 23 = .ok (.invokevirtual 112, 3) := by decide +kernel
theorem dX4_best_26 : decode cX4_best 26 = .ok (.istore_n 2, 1) := by decide +kernel
theorem dX4_best_27 : decode cX4_best 27 = .ok (.iload_n 2, 1) := by decide +kernel
theorem dX4_best_28 : decode cX4_best 28 = .ok (.ifCond .ge 7, 3) := by decide +kernel
theorem dX4_best_31 : decode cX4_best 31 = .ok (.iload_n 2, 1) := by decide +kernel
theorem dX4_best_32 : decode cX4_best 32 = .ok (.goto 9, 3) := by decide +kernel
theorem dX4_best_35 : decode cX4_best 35 = .ok (.aload_n 0, 1) := by decide +kernel
theorem dX4_best_36 : decode cX4_best 36 = .ok (.getfield 47, 3) := by decide +kernel
theorem dX4_best_39 : decode cX4_best 39 = .ok (.iload_n 1, 1) := by decide +kernel
theorem dX4_best_40 : decode cX4_best 40 = .ok (.iaload, 1) := by decide +kernel
theorem dX4_best_41 : decode cX4_best 41 = .ok (.ireturn, 1) := by decide +kernel
theorem dX4_alone_0 : decode cX4_alone 0 = .ok (.aload_n 0, 1) := by decide +kernel
theorem dX4_alone_1 : decode cX4_alone 1 = .ok (.aload_n 0, 1) := by decide +kernel
theorem dX4_alone_2 : decode cX4_alone 2 = .ok (.iload_n 1, 1) := by decide +kernel
theorem dX4_alone_3 : decode cX4_alone 3 = .ok (.invokevirtual 66, 3) := by decide +kernel
theorem dX4_alone_6 : decode cX4_alone 6 = .ok (.ifCond .ne 7, 3) := by decide +kernel
theorem dX4_alone_9 : decode cX4_alone 9 = .ok (.iconst 1, 1) := by decide +kernel
theorem dX4_alone_10 : decode cX4_alone 10 = .ok (.goto 4, 3) := by decide +kernel
theorem dX4_alone_13 : decode cX4_alone 13 = .ok (.iconst 0, 1) := by decide +kernel
theorem dX4_alone_14 : decode cX4_alone 14 = .ok (.invokevirtual 70, 3) := by decide +kernel
theorem dX4_alone_17 : decode cX4_alone 17 = .ok (.ifCond .eq 5, 3) := by decide +kernel
theorem dX4_alone_20 : decode cX4_alone 20 = .ok (.iconst 0, 1) := by decide +kernel
theorem dX4_alone_21 : decode cX4_alone 21 = .ok (.ireturn, 1) := by decide +kernel
theorem dX4_alone_22 : decode cX4_alone 22 = .ok (.aload_n 0, 1) := by decide +kernel
theorem dX4_alone_23 : decode cX4_alone 23 = .ok (.invokevirtual 99, 3) := by decide +kernel
theorem dX4_alone_26 : decode cX4_alone 26 = .ok (.iconst 0, 1) := by decide +kernel
theorem dX4_alone_27 : decode cX4_alone 27 = .ok (.istore_n 2, 1) := by decide +kernel
theorem dX4_alone_28 : decode cX4_alone 28 = .ok (.iload_n 2, 1) := by decide +kernel
theorem dX4_alone_29 : decode cX4_alone 29 = .ok (.aload_n 0, 1) := by decide +kernel
theorem dX4_alone_30 : decode cX4_alone 30 = .ok (.getfield 56, 3) := by decide +kernel
theorem dX4_alone_33 : decode cX4_alone 33 = .ok (.if_icmp .ge 25, 3) := by decide +kernel
theorem dX4_alone_36 : decode cX4_alone 36 = .ok (.aload_n 0, 1) := by decide +kernel
theorem dX4_alone_37 : decode cX4_alone 37 = .ok (.getfield 35, 3) := by decide +kernel
theorem dX4_alone_40 : decode cX4_alone 40 = .ok (.iload_n 2, 1) := by decide +kernel
theorem dX4_alone_41 : decode cX4_alone 41 = .ok (.iload_n 2, 1) := by decide +kernel
theorem dX4_alone_42 : decode cX4_alone 42 = .ok (.iload_n 1, 1) := by decide +kernel
theorem dX4_alone_43 : decode cX4_alone 43 = .ok (.if_icmp .ne 7, 3) := by decide +kernel
theorem dX4_alone_46 : decode cX4_alone 46 = .ok (.iconst 1, 1) := by decide +kernel
theorem dX4_alone_47 : decode cX4_alone 47 = .ok (.goto 4, 3) := by decide +kernel
theorem dX4_alone_50 : decode cX4_alone 50 = .ok (.iconst 0, 1) := by decide +kernel
theorem dX4_alone_51 : decode cX4_alone 51 = .ok (.iastore, 1) := by decide +kernel
theorem dX4_alone_52 : decode cX4_alone 52 = .ok (.iinc 2 1, 3) := by decide +kernel
theorem dX4_alone_55 : decode cX4_alone 55 = .ok (.goto (-27), 3) := by decide +kernel
theorem dX4_alone_58 : decode cX4_alone 58 = .ok (.aload_n 0, 1) := by decide +kernel
theorem dX4_alone_59 : decode cX4_alone 59 = .ok (.invokevirtual 92, 3) := by decide +kernel
theorem dX4_alone_62 : decode cX4_alone 62 = .ok (.aload_n 0, 1) := by decide +kernel
theorem dX4_alone_63 : decode cX4_alone 63 = .ok (.invokevirtual 95, 3) := by decide +kernel
theorem dX4_alone_66 : decode cX4_alone 66 = .ok (.ifCond .ge 7, 3) := by decide +kernel
theorem dX4_alone_69 : decode cX4_alone 69 = .ok (.iconst 1, 1) := by decide +kernel
theorem dX4_alone_70 : decode cX4_alone 70 = .ok (.goto 4, 3) := by decide +kernel
theorem dX4_alone_73 : decode cX4_alone 73 = .ok (.iconst 0, 1) := by decide +kernel
theorem dX4_alone_74 : decode cX4_alone 74 = .ok (.ireturn, 1) := by decide +kernel

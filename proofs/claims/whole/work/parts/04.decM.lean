theorem dX6_init_0 : decode cX6_init 0 = .ok (.aload_n 0, 1) := by decide +kernel
theorem dX6_init_1 : decode cX6_init 1 = .ok (.invokespecial 1, 3) := by decide +kernel
theorem dX6_init_4 : decode cX6_init 4 = .ok (.aload_n 0, 1) := by decide +kernel
theorem dX6_init_5 : decode cX6_init 5 = .ok (.iconst 4, 1) := by decide +kernel
theorem dX6_init_6 : decode cX6_init 6 = .ok (.newarray .int, 2) := by decide +kernel
theorem dX6_init_8 : decode cX6_init 8 = .ok (.dup, 1) := by decide +kernel
theorem dX6_init_9 : decode cX6_init 9 = .ok (.iconst 0, 1) := by decide +kernel
theorem dX6_init_10 : decode cX6_init 10 = .ok (.bipush (-9), 2) := by decide +kernel
theorem dX6_init_12 : decode cX6_init 12 = .ok (.iastore, 1) := by decide +kernel
theorem dX6_init_13 : decode cX6_init 13 = .ok (.dup, 1) := by decide +kernel
theorem dX6_init_14 : decode cX6_init 14 = .ok (.iconst 1, 1) := by decide +kernel
theorem dX6_init_15 : decode cX6_init 15 = .ok (.bipush (-9), 2) := by decide +kernel
theorem dX6_init_17 : decode cX6_init 17 = .ok (.iastore, 1) := by decide +kernel
theorem dX6_init_18 : decode cX6_init 18 = .ok (.dup, 1) := by decide +kernel
theorem dX6_init_19 : decode cX6_init 19 = .ok (.iconst 2, 1) := by decide +kernel
theorem dX6_init_20 : decode cX6_init 20 = .ok (.bipush (-9), 2) := by decide +kernel
theorem dX6_init_22 : decode cX6_init 22 = .ok (.iastore, 1) := by decide +kernel
theorem dX6_init_23 : decode cX6_init 23 = .ok (.dup, 1) := by decide +kernel
theorem dX6_init_24 : decode cX6_init 24 = .ok (.iconst 3, 1) := by decide +kernel
theorem dX6_init_25 : decode cX6_init 25 = .ok (.bipush (-9), 2) := by decide +kernel
theorem dX6_init_27 : decode cX6_init 27 = .ok (.iastore, 1) := by decide +kernel
theorem dX6_init_28 : decode cX6_init 28 = .ok (.putfield 9, 3) := by decide +kernel
theorem dX6_init_31 : decode cX6_init 31 = .ok (.aload_n 0, 1) := by decide +kernel
theorem dX6_init_32 : decode cX6_init 32 = .ok (.iconst 4, 1) := by decide +kernel
theorem dX6_init_33 : decode cX6_init 33 = .ok (.newarray .int, 2) := by decide +kernel
theorem dX6_init_35 : decode cX6_init 35 = .ok (.putfield 13, 3) := by decide +kernel
theorem dX6_init_38 : decode cX6_init 38 = .ok (.aload_n 0, 1) := by decide +kernel
theorem dX6_init_39 : decode cX6_init 39 = .ok (.sipush 240, 3) := by decide +kernel
theorem dX6_init_42 : decode cX6_init 42 = .ok (.newarray .int, 2) := by decide +kernel
theorem dX6_init_44 : decode cX6_init 44 = .ok (.putfield 16, 3) := by decide +kernel
theorem dX6_init_47 : decode cX6_init 47 = .ok (.aload_n 0, 1) := by decide +kernel
theorem dX6_init_48 : decode cX6_init 48 = .ok (.bipush 6, 2) := by decide +kernel
theorem dX6_init_50 : decode cX6_init 50 = .ok (.newarray .int, 2) := by decide +kernel
theorem dX6_init_52 : decode cX6_init 52 = .ok (.putfield 19, 3) := by decide +kernel
theorem dX6_init_55 : decode cX6_init 55 = .ok (.aload_n 0, 1) := by decide +kernel
theorem dX6_init_56 : decode cX6_init 56 = .ok (.bipush 6, 2) := by decide +kernel
theorem dX6_init_58 : decode cX6_init 58 = .ok (.newarray .int, 2) := by decide +kernel
theorem dX6_init_60 : decode cX6_init 60 = .ok (.putfield 22, 3) := by decide +kernel
theorem dX6_init_63 : decode cX6_init 63 = .ok (.aload_n 0, 1) := by decide +kernel
theorem dX6_init_64 : decode cX6_init 64 = .ok (.bipush 6, 2) := by decide +kernel
theorem dX6_init_66 : decode cX6_init 66 = .ok (.newarray .int, 2) := by decide +kernel
theorem dX6_init_68 : decode cX6_init 68 = .ok (.putfield 25, 3) := by decide +kernel
theorem dX6_init_71 : decode cX6_init 71 = .ok (.aload_n 0, 1) := by decide +kernel
theorem dX6_init_72 : decode cX6_init 72 = .ok (.bipush 6, 2) := by decide +kernel
theorem dX6_init_74 : decode cX6_init 74 = .ok (.newarray .int, 2) := by decide +kernel
theorem dX6_init_76 : decode cX6_init 76 = .ok (.putfield 28, 3) := by decide +kernel
theorem dX6_init_79 : decode cX6_init 79 = .ok (.aload_n 0, 1) := by decide +kernel
theorem dX6_init_80 : decode cX6_init 80 = .ok (.bipush 6, 2) := by decide +kernel
theorem dX6_init_82 : decode cX6_init 82 = .ok (.newarray .int, 2) := by decide +kernel
theorem dX6_init_84 : decode cX6_init 84 = .ok (.putfield 31, 3) := by decide +kernel
theorem dX6_init_87 : decode cX6_init 87 = .ok (.aload_n 0, 1) := by decide +kernel
theorem dX6_init_88 : decode cX6_init 88 = .ok (.bipush 6, 2) := by decide +kernel
theorem dX6_init_90 : decode cX6_init 90 = .ok (.newarray .int, 2) := by decide +kernel
theorem dX6_init_92 : decode cX6_init 92 = .ok (.putfield 34, 3) := by decide +kernel
theorem dX6_init_95 : decode cX6_init 95 = .ok (.aload_n 0, 1) := by decide +kernel
theorem dX6_init_96 : decode cX6_init 96 = .ok (.bipush 6, 2) := by decide +kernel
theorem dX6_init_98 : decode cX6_init 98 = .ok (.newarray .int, 2) := by decide +kernel
theorem dX6_init_100 : decode cX6_init 100 = .ok (.putfield 37, 3) := by decide +kernel
theorem dX6_init_103 : decode cX6_init 103 = .ok (.aload_n 0, 1) := by decide +kernel
theorem dX6_init_104 : decode cX6_init 104 = .ok (.bipush 6, 2) := by decide +kernel
theorem dX6_init_106 : decode cX6_init 106 = .ok (.newarray .int, 2) := by decide +kernel
theorem dX6_init_108 : decode cX6_init 108 = .ok (.putfield 40, 3) := by decide +kernel
theorem dX6_init_111 : decode cX6_init 111 = .ok (.aload_n 0, 1) := by decide +kernel
theorem dX6_init_112 : decode cX6_init 112 = .ok (.bipush 6, 2) := by decide +kernel
theorem dX6_init_114 : decode cX6_init 114 = .ok (.newarray .int, 2) := by decide +kernel
theorem dX6_init_116 : decode cX6_init 116 = .ok (.putfield 43, 3) := by decide +kernel
theorem dX6_init_119 : decode cX6_init 119 = .ok (.aload_n 0, 1) := by decide +kernel
theorem dX6_init_120 : decode cX6_init 120 = .ok (.bipush 6, 2) := by decide +kernel
theorem dX6_init_122 : decode cX6_init 122 = .ok (.newarray .int, 2) := by decide +kernel
theorem dX6_init_124 : decode cX6_init 124 = .ok (.putfield 46, 3) := by decide +kernel
theorem dX6_init_127 : decode cX6_init 127 = .ok (.aload_n 0, 1) := by decide +kernel
theorem dX6_init_128 : decode cX6_init 128 = .ok (.bipush 6, 2) := by decide +kernel
theorem dX6_init_130 : decode cX6_init 130 = .ok (.newarray .int, 2) := by decide +kernel
theorem dX6_init_132 : decode cX6_init 132 = .ok (.putfield 49, 3) := by decide +kernel
theorem dX6_init_135 : decode cX6_init 135 = .ok (.aload_n 0, 1) := by decide +kernel
theorem dX6_init_136 : decode cX6_init 136 = .ok (.bipush 6, 2) := by decide +kernel
theorem dX6_init_138 : decode cX6_init 138 = .ok (.newarray .int, 2) := by decide +kernel
theorem dX6_init_140 : decode cX6_init 140 = .ok (.putfield 52, 3) := by decide +kernel
theorem dX6_init_143 : decode cX6_init 143 = .ok (.aload_n 0, 1) := by decide +kernel
theorem dX6_init_144 : decode cX6_init 144 = .ok (.bipush 8, 2) := by decide +kernel
theorem dX6_init_146 : decode cX6_init 146 = .ok (.newarray .int, 2) := by decide +kernel
theorem dX6_init_148 : decode cX6_init 148 = .ok (.putfield 55, 3) := by decide +kernel
theorem dX6_init_151 : decode cX6_init 151 = .ok (.aload_n 0, 1) := by decide +kernel
theorem dX6_init_152 : decode cX6_init 152 = .ok (.bipush 8, 2) := by decide +kernel
theorem dX6_init_154 : decode cX6_init 154 = .ok (.newarray .int, 2) := by decide +kernel
theorem dX6_init_156 : decode cX6_init 156 = .ok (.putfield 58, 3) := by decide +kernel
theorem dX6_init_159 : decode cX6_init 159 = .ok (.aload_n 0, 1) := by decide +kernel
theorem dX6_init_160 : decode cX6_init 160 = .ok (.bipush 8, 2) := by decide +kernel
theorem dX6_init_162 : decode cX6_init 162 = .ok (.newarray .int, 2) := by decide +kernel
theorem dX6_init_164 : decode cX6_init 164 = .ok (.putfield 61, 3) := by decide +kernel
theorem dX6_init_167 : decode cX6_init 167 = .ok (.return_, 1) := by decide +kernel
theorem dX6_fails_0 : decode cX6_fails 0 = .ok (.aload_n 0, 1) := by decide +kernel
theorem dX6_fails_1 : decode cX6_fails 1 = .ok (.iload_n 1, 1) := by decide +kernel
theorem dX6_fails_2 : decode cX6_fails 2 = .ok (.putfield 64, 3) := by decide +kernel
theorem dX6_fails_5 : decode cX6_fails 5 = .ok (.bipush (-10), 2) := by decide +kernel
theorem dX6_fails_7 : decode cX6_fails 7 = .ok (.iload_n 1, 1) := by decide +kernel
theorem dX6_fails_8 : decode cX6_fails 8 = .ok (.isub, 1) := by decide +kernel
theorem dX6_fails_9 : decode cX6_fails 9 = .ok (.ireturn, 1) := by decide +kernel
theorem dX6_lost_0 : decode cX6_lost 0 = .ok (.aload_n 0, 1) := by decide +kernel
theorem dX6_lost_1 : decode cX6_lost 1 = .ok (.iload_n 1, 1) := by decide +kernel
theorem dX6_lost_2 : decode cX6_lost 2 = .ok (.putfield 64, 3) := by decide +kernel
theorem dX6_lost_5 : decode cX6_lost 5 = .ok (.ldc2_w 68, 3) := by decide +kernel
theorem dX6_lost_8 : decode cX6_lost 8 = .ok (.lreturn, 1) := by decide +kernel
theorem dX6_within_0 : decode cX6_within 0 = .ok (.iload_n 0, 1) := by decide +kernel
theorem dX6_within_1 : decode cX6_within 1 = .ok (.iload_n 1, 1) := by decide +kernel
theorem dX6_within_2 : decode cX6_within 2 = .ok (.if_icmp .lt 12, 3) := by decide +kernel
theorem dX6_within_5 : decode cX6_within 5 = .ok (.iload_n 0, 1) := by decide +kernel
theorem dX6_within_6 : decode cX6_within 6 = .ok (.iload_n 2, 1) := by decide +kernel
theorem dX6_within_7 : decode cX6_within 7 = .ok (.if_icmp .gt 7, 3) := by decide +kernel
theorem dX6_within_10 : decode cX6_within 10 = .ok (.iconst 1, 1) := by decide +kernel
theorem dX6_within_11 : decode cX6_within 11 = .ok (.goto 4, 3) := by decide +kernel
theorem dX6_within_14 : decode cX6_within 14 = .ok (.iconst 0, 1) := by decide +kernel
theorem dX6_within_15 : decode cX6_within 15 = .ok (.ireturn, 1) := by decide +kernel
theorem dX6_isSheet_0 : decode cX6_isSheet 0 = .ok (.iload_n 0, 1) := by decide +kernel
theorem dX6_isSheet_1 : decode cX6_isSheet 1 = .ok (.iconst 0, 1) := by decide +kernel
theorem dX6_isSheet_2 : decode cX6_isSheet 2 = .ok (.iconst 3, 1) := by decide +kernel
theorem dX6_isSheet_3 : decode cX6_isSheet 3 = .ok (.invokestatic 70, 3) := by decide +kernel
theorem dX6_isSheet_6 : decode cX6_isSheet 6 = .ok (.ireturn, 1) := by decide +kernel
theorem dX6_isSort_0 : decode cX6_isSort 0 = .ok (.iload_n 0, 1) := by decide +kernel
theorem dX6_isSort_1 : decode cX6_isSort 1 = .ok (.iconst 0, 1) := by decide +kernel
theorem dX6_isSort_2 : decode cX6_isSort 2 = .ok (.iconst 2, 1) := by decide +kernel
theorem dX6_isSort_3 : decode cX6_isSort 3 = .ok (.invokestatic 70, 3) := by decide +kernel
theorem dX6_isSort_6 : decode cX6_isSort 6 = .ok (.ireturn, 1) := by decide +kernel
theorem dX6_against_0 : decode cX6_against 0 = .ok (.aload_n 0, 1) := by decide +kernel
theorem dX6_against_1 : decode cX6_against 1 = .ok (.getfield 9, 3) := by decide +kernel
theorem dX6_against_4 : decode cX6_against 4 = .ok (.iload_n 1, 1) := by decide +kernel
theorem dX6_against_5 : decode cX6_against 5 = .ok (.iaload, 1) := by decide +kernel
theorem dX6_against_6 : decode cX6_against 6 = .ok (.bipush (-9), 2) := by decide +kernel
theorem dX6_against_8 : decode cX6_against 8 = .ok (.if_icmp .eq 15, 3) := by decide +kernel
theorem dX6_against_11 : decode cX6_against 11 = .ok (.aload_n 0, 1) := by decide +kernel
theorem dX6_against_12 : decode cX6_against 12 = .ok (.getfield 9, 3) := by decide +kernel
theorem dX6_against_15 : decode cX6_against 15 = .ok (.iload_n 1, 1) := by decide +kernel
theorem dX6_against_16 : decode cX6_against 16 = .ok (.iaload, 1) := by decide +kernel
theorem dX6_against_17 : decode cX6_against 17 = .ok (.iload_n 2, 1) := by decide +kernel
theorem dX6_against_18 : decode cX6_against 18 = .ok (.if_icmp .eq 5, 3) := by decide +kernel
theorem dX6_against_21 : decode cX6_against 21 = .ok (.iconst 2, 1) := by decide +kernel
theorem dX6_against_22 : decode cX6_against 22 = .ok (.ireturn, 1) := by decide +kernel
theorem dX6_against_23 : decode cX6_against 23 = .ok (.aload_n 0, 1) := by decide +kernel
theorem dX6_against_24 : decode cX6_against 24 = .ok (.getfield 9, 3) := by decide +kernel
theorem dX6_against_27 : decode cX6_against 27 = .ok (.iload_n 1, 1) := by decide +kernel
theorem dX6_against_28 : decode cX6_against 28 = .ok (.iaload, 1) := by decide +kernel
theorem dX6_against_29 : decode cX6_against 29 = .ok (.bipush (-9), 2) := by decide +kernel
theorem dX6_against_31 : decode cX6_against 31 = .ok (.if_icmp .ne 5, 3) := by decide +kernel
theorem dX6_against_34 : decode cX6_against 34 = .ok (.iconst 1, 1) := by decide +kernel
theorem dX6_against_35 : decode cX6_against 35 = .ok (.ireturn, 1) := by decide +kernel
theorem dX6_against_36 : decode cX6_against 36 = .ok (.iload 4, 2) := by decide +kernel
theorem dX6_against_38 : decode cX6_against 38 = .ok (.ifCond .ge 5, 3) := by decide +kernel
theorem dX6_against_41 : decode cX6_against 41 = .ok (.iconst 4, 1) := by decide +kernel
theorem dX6_against_42 : decode cX6_against 42 = .ok (.ireturn, 1) := by decide +kernel
theorem dX6_against_43 : decode cX6_against 43 = .ok (.iload_n 3, 1) := by decide +kernel
theorem dX6_against_44 : decode cX6_against 44 = .ok (.ifCond .lt 26, 3) := by decide +kernel
theorem dX6_against_47 : decode cX6_against 47 = .ok (.iload_n 3, 1) := by decide +kernel
theorem dX6_against_48 : decode cX6_against 48 = .ok (.aload_n 0, 1) := by decide +kernel
theorem dX6_against_49 : decode cX6_against 49 = .ok (.getfield 13, 3) := by decide +kernel
theorem dX6_against_52 : decode cX6_against 52 = .ok (.iload_n 1, 1) := by decide +kernel
theorem dX6_against_53 : decode cX6_against 53 = .ok (.iaload, 1) := by decide +kernel
theorem dX6_against_54 : decode cX6_against 54 = .ok (.if_icmp .gt 16, 3) := by decide +kernel
theorem dX6_against_57 : decode cX6_against 57 = .ok (.iload 4, 2) := by decide +kernel
theorem dX6_against_59 : decode cX6_against 59 = .ok (.aload_n 0, 1) := by decide +kernel
theorem dX6_against_60 : decode cX6_against 60 = .ok (.getfield 13, 3) := by decide +kernel
theorem dX6_against_63 : decode cX6_against 63 = .ok (.iload_n 1, 1) := by decide +kernel
theorem dX6_against_64 : decode cX6_against 64 = .ok (.iaload, 1) := by decide +kernel
theorem dX6_against_65 : decode cX6_against 65 = .ok (.iload_n 3, 1) := by decide +kernel
theorem dX6_against_66 : decode cX6_against 66 = .ok (.isub, 1) := by decide +kernel
theorem dX6_against_67 : decode cX6_against 67 = .ok (.if_icmp .le 7, 3) := by decide +kernel
theorem dX6_against_70 : decode cX6_against 70 = .ok (.iconst 3, 1) := by decide +kernel
theorem dX6_against_71 : decode cX6_against 71 = .ok (.goto 4, 3) := by decide +kernel
theorem dX6_against_74 : decode cX6_against 74 = .ok (.iconst 0, 1) := by decide +kernel
theorem dX6_against_75 : decode cX6_against 75 = .ok (.ireturn, 1) := by decide +kernel
theorem dX6_isPool_0 : decode cX6_isPool 0 = .ok (.iload_n 1, 1) := by decide +kernel
theorem dX6_isPool_1 : decode cX6_isPool 1 = .ok (.ifCond .lt 15, 3) := by decide +kernel
theorem dX6_isPool_4 : decode cX6_isPool 4 = .ok (.iload_n 1, 1) := by decide +kernel
theorem dX6_isPool_5 : decode cX6_isPool 5 = .ok (.aload_n 0, 1) := by decide +kernel
theorem dX6_isPool_6 : decode cX6_isPool 6 = .ok (.getfield 74, 3) := by decide +kernel
theorem dX6_isPool_9 : decode cX6_isPool 9 = .ok (.if_icmp .ge 7, 3) := by decide +kernel
theorem dX6_isPool_12 : decode cX6_isPool 12 = .ok (.iconst 1, 1) := by decide +kernel
theorem dX6_isPool_13 : decode cX6_isPool 13 = .ok (.goto 4, 3) := by decide +kernel
theorem dX6_isPool_16 : decode cX6_isPool 16 = .ok (.iconst 0, 1) := by decide +kernel
theorem dX6_isPool_17 : decode cX6_isPool 17 = .ok (.ireturn, 1) := by decide +kernel
theorem dX6_isMember_0 : decode cX6_isMember 0 = .ok (.iload_n 1, 1) := by decide +kernel
theorem dX6_isMember_1 : decode cX6_isMember 1 = .ok (.ifCond .lt 15, 3) := by decide +kernel
theorem dX6_isMember_4 : decode cX6_isMember 4 = .ok (.iload_n 1, 1) := by decide +kernel
theorem dX6_isMember_5 : decode cX6_isMember 5 = .ok (.aload_n 0, 1) := by decide +kernel
theorem dX6_isMember_6 : decode cX6_isMember 6 = .ok (.getfield 77, 3) := by decide +kernel
theorem dX6_isMember_9 : decode cX6_isMember 9 = .ok (.if_icmp .ge 7, 3) := by decide +kernel
theorem dX6_isMember_12 : decode cX6_isMember 12 = .ok (.iconst 1, 1) := by decide +kernel
theorem dX6_isMember_13 : decode cX6_isMember 13 = .ok (.goto 4, 3) := by decide +kernel
theorem dX6_isMember_16 : decode cX6_isMember 16 = .ok (.iconst 0, 1) := by decide +kernel
theorem dX6_isMember_17 : decode cX6_isMember 17 = .ok (.ireturn, 1) := by decide +kernel
theorem dX6_isDigit_0 : decode cX6_isDigit 0 = .ok (.iload_n 0, 1) := by decide +kernel
theorem dX6_isDigit_1 : decode cX6_isDigit 1 = .ok (.iconst 0, 1) := by decide +kernel
theorem dX6_isDigit_2 : decode cX6_isDigit 2 = .ok (.bipush 9, 2) := by decide +kernel
theorem dX6_isDigit_4 : decode cX6_isDigit 4 = .ok (.invokestatic 70, 3) := by decide +kernel
theorem dX6_isDigit_7 : decode cX6_isDigit 7 = .ok (.ireturn, 1) := by decide +kernel
theorem dX6_digit_0 : decode cX6_digit 0 = .ok (.aload_n 0, 1) := by decide +kernel
theorem dX6_digit_1 : decode cX6_digit 1 = .ok (.getfield 80, 3) := by decide +kernel
theorem dX6_digit_4 : decode cX6_digit 4 = .ok (.iload_n 1, 1) := by decide +kernel
theorem dX6_digit_5 : decode cX6_digit 5 = .ok (.if_icmp .ge 26, 3) := by decide +kernel
theorem dX6_digit_8 : decode cX6_digit 8 = .ok (.aload_n 0, 1) := by decide +kernel
theorem dX6_digit_9 : decode cX6_digit 9 = .ok (.getfield 16, 3) := by decide +kernel
theorem dX6_digit_12 : decode cX6_digit 12 = .ok (.aload_n 0, 1) := by decide +kernel
theorem dX6_digit_13 : decode cX6_digit 13 = .ok (.getfield 80, 3) := by decide +kernel
theorem dX6_digit_16 : decode cX6_digit 16 = .ok (.iaload, 1) := by decide +kernel
theorem dX6_digit_17 : decode cX6_digit 17 = .ok (.bipush 48, 2) := by decide +kernel
theorem dX6_digit_19 : decode cX6_digit 19 = .ok (.iload_n 2, 1) := by decide +kernel
theorem dX6_digit_20 : decode cX6_digit 20 = .ok (.iadd, 1) := by decide +kernel
theorem dX6_digit_21 : decode cX6_digit 21 = .ok (.bipush 48, 2) := by decide +kernel
theorem dX6_digit_23 : decode cX6_digit 23 = .ok (.iload_n 3, 1) := by decide +kernel
theorem dX6_digit_24 : decode cX6_digit 24 = .ok (.iadd, 1) := by decide +kernel
theorem dX6_digit_25 : decode cX6_digit 25 = .ok (.invokestatic 70, 3) := by decide +kernel
theorem dX6_digit_28 : decode cX6_digit 28 = .ok (.ifCond .ne 6, 3) := by decide +kernel
theorem dX6_digit_31 : decode cX6_digit 31 = .ok (.bipush (-9), 2) := by decide +kernel
theorem dX6_digit_33 : decode cX6_digit 33 = .ok (.ireturn, 1) := by decide +kernel
theorem dX6_digit_34 : decode cX6_digit 34 = .ok (.aload_n 0, 1) := by decide +kernel
theorem dX6_digit_35 : decode cX6_digit 35 = .ok (.dup, 1) := by decide +kernel
theorem dX6_digit_36 : decode cX6_digit 36 = .ok (.getfield 80, 3) := by decide +kernel
theorem dX6_digit_39 : decode cX6_digit 39 = .ok (.iconst 1, 1) := by decide +kernel
theorem dX6_digit_40 : decode cX6_digit 40 = .ok (.iadd, 1) := by decide +kernel
theorem dX6_digit_41 : decode cX6_digit 41 = .ok (.putfield 80, 3) := by decide +kernel
theorem dX6_digit_44 : decode cX6_digit 44 = .ok (.aload_n 0, 1) := by decide +kernel
theorem dX6_digit_45 : decode cX6_digit 45 = .ok (.getfield 16, 3) := by decide +kernel
theorem dX6_digit_48 : decode cX6_digit 48 = .ok (.aload_n 0, 1) := by decide +kernel
theorem dX6_digit_49 : decode cX6_digit 49 = .ok (.getfield 80, 3) := by decide +kernel
theorem dX6_digit_52 : decode cX6_digit 52 = .ok (.iconst 1, 1) := by decide +kernel
theorem dX6_digit_53 : decode cX6_digit 53 = .ok (.isub, 1) := by decide +kernel
theorem dX6_digit_54 : decode cX6_digit 54 = .ok (.iaload, 1) := by decide +kernel
theorem dX6_digit_55 : decode cX6_digit 55 = .ok (.bipush 48, 2) := by decide +kernel
theorem dX6_digit_57 : decode cX6_digit 57 = .ok (.isub, 1) := by decide +kernel
theorem dX6_digit_58 : decode cX6_digit 58 = .ok (.ireturn, 1) := by decide +kernel
theorem dX6_isSign_0 : decode cX6_isSign 0 = .ok (.aload_n 0, 1) := by decide +kernel
theorem dX6_isSign_1 : decode cX6_isSign 1 = .ok (.getfield 80, 3) := by decide +kernel
theorem dX6_isSign_4 : decode cX6_isSign 4 = .ok (.iload_n 1, 1) := by decide +kernel
theorem dX6_isSign_5 : decode cX6_isSign 5 = .ok (.if_icmp .ge 16, 3) := by decide +kernel
theorem dX6_isSign_8 : decode cX6_isSign 8 = .ok (.aload_n 0, 1) := by decide +kernel
theorem dX6_isSign_9 : decode cX6_isSign 9 = .ok (.getfield 16, 3) := by decide +kernel
theorem dX6_isSign_12 : decode cX6_isSign 12 = .ok (.aload_n 0, 1) := by decide +kernel
theorem dX6_isSign_13 : decode cX6_isSign 13 = .ok (.getfield 80, 3) := by decide +kernel
theorem dX6_isSign_16 : decode cX6_isSign 16 = .ok (.iaload, 1) := by decide +kernel
theorem dX6_isSign_17 : decode cX6_isSign 17 = .ok (.iload_n 2, 1) := by decide +kernel
theorem dX6_isSign_18 : decode cX6_isSign 18 = .ok (.if_icmp .eq 5, 3) := by decide +kernel
theorem dX6_isSign_21 : decode cX6_isSign 21 = .ok (.iconst 0, 1) := by decide +kernel
theorem dX6_isSign_22 : decode cX6_isSign 22 = .ok (.ireturn, 1) := by decide +kernel
theorem dX6_isSign_23 : decode cX6_isSign 23 = .ok (.aload_n 0, 1) := by decide +kernel
theorem dX6_isSign_24 : decode cX6_isSign 24 = .ok (.dup, 1) := by decide +kernel
theorem dX6_isSign_25 : decode cX6_isSign 25 = .ok (.getfield 80, 3) := by decide +kernel
theorem dX6_isSign_28 : decode cX6_isSign 28 = .ok (.iconst 1, 1) := by decide +kernel
theorem dX6_isSign_29 : decode cX6_isSign 29 = .ok (.iadd, 1) := by decide +kernel
theorem dX6_isSign_30 : decode cX6_isSign 30 = .ok (.putfield 80, 3) := by decide +kernel
theorem dX6_isSign_33 : decode cX6_isSign 33 = .ok (.iconst 1, 1) := by decide +kernel
theorem dX6_isSign_34 : decode cX6_isSign 34 = .ok (.ireturn, 1) := by decide +kernel
theorem dX6_shore_0 : decode cX6_shore 0 = .ok (.aload_n 0, 1) := by decide +kernel
theorem dX6_shore_1 : decode cX6_shore 1 = .ok (.iconst 0, 1) := by decide +kernel
theorem dX6_shore_2 : decode cX6_shore 2 = .ok (.putfield 64, 3) := by decide +kernel
theorem dX6_shore_5 : decode cX6_shore 5 = .ok (.iload_n 1, 1) := by decide +kernel
theorem dX6_shore_6 : decode cX6_shore 6 = .ok (.invokestatic 83, 3) := by decide +kernel
theorem dX6_shore_9 : decode cX6_shore 9 = .ok (.ifCond .ne 5, 3) := by decide +kernel
theorem dX6_shore_12 : decode cX6_shore 12 = .ok (.iconst (-1), 1) := by decide +kernel
theorem dX6_shore_13 : decode cX6_shore 13 = .ok (.ireturn, 1) := by decide +kernel
theorem dX6_shore_14 : decode cX6_shore 14 = .ok (.iload_n 2, 1) := by decide +kernel
theorem dX6_shore_15 : decode cX6_shore 15 = .ok (.invokestatic 87, 3) := by decide +kernel
theorem dX6_shore_18 : decode cX6_shore 18 = .ok (.ifCond .ne 6, 3) := by decide +kernel
theorem dX6_shore_21 : decode cX6_shore 21 = .ok (.bipush (-2), 2) := by decide +kernel
theorem dX6_shore_23 : decode cX6_shore 23 = .ok (.ireturn, 1) := by decide +kernel
theorem dX6_shore_24 : decode cX6_shore 24 = .ok (.aload_n 0, 1) := by decide +kernel
theorem dX6_shore_25 : decode cX6_shore 25 = .ok (.iload_n 1, 1) := by decide +kernel
theorem dX6_shore_26 : decode cX6_shore 26 = .ok (.iload_n 2, 1) := by decide +kernel
theorem dX6_shore_27 : decode cX6_shore 27 = .ok (.iload_n 3, 1) := by decide +kernel
theorem dX6_shore_28 : decode cX6_shore 28 = .ok (.iload 4, 2) := by decide +kernel
theorem dX6_shore_30 : decode cX6_shore 30 = .ok (.invokevirtual 90, 3) := by decide +kernel
theorem dX6_shore_33 : decode cX6_shore 33 = .ok (.istore 5, 2) := by decide +kernel
theorem dX6_shore_35 : decode cX6_shore 35 = .ok (.iload 5, 2) := by decide +kernel
theorem dX6_shore_37 : decode cX6_shore 37 = .ok (.ifCond .eq 10, 3) := by decide +kernel
theorem dX6_shore_40 : decode cX6_shore 40 = .ok (.aload_n 0, 1) := by decide +kernel
theorem dX6_shore_41 : decode cX6_shore 41 = .ok (.iload 5, 2) := by decide +kernel
theorem dX6_shore_43 : decode cX6_shore 43 = .ok (.invokevirtual 94, 3) := by decide +kernel
theorem dX6_shore_46 : decode cX6_shore 46 = .ok (.ireturn, 1) := by decide +kernel
theorem dX6_shore_47 : decode cX6_shore 47 = .ok (.bipush 60, 2) := by decide +kernel
theorem dX6_shore_49 : decode cX6_shore 49 = .ok (.iload_n 1, 1) := by decide +kernel
theorem dX6_shore_50 : decode cX6_shore 50 = .ok (.imul, 1) := by decide +kernel
theorem dX6_shore_51 : decode cX6_shore 51 = .ok (.iload_n 3, 1) := by decide +kernel
theorem dX6_shore_52 : decode cX6_shore 52 = .ok (.iadd, 1) := by decide +kernel
theorem dX6_shore_53 : decode cX6_shore 53 = .ok (.istore 6, 2) := by decide +kernel
theorem dX6_shore_55 : decode cX6_shore 55 = .ok (.aload_n 0, 1) := by decide +kernel
theorem dX6_shore_56 : decode cX6_shore 56 = .ok (.iload 6, 2) := by decide +kernel
theorem dX6_shore_58 : decode cX6_shore 58 = .ok (.putfield 80, 3) := by decide +kernel
theorem dX6_shore_61 : decode cX6_shore 61 = .ok (.aload_n 0, 1) := by decide +kernel
theorem dX6_shore_62 : decode cX6_shore 62 = .ok (.iload 6, 2) := by decide +kernel
theorem dX6_shore_64 : decode cX6_shore 64 = .ok (.iload 4, 2) := by decide +kernel
theorem dX6_shore_66 : decode cX6_shore 66 = .ok (.iadd, 1) := by decide +kernel
theorem dX6_shore_67 : decode cX6_shore 67 = .ok (.invokevirtual 98, 3) := by decide +kernel
theorem dX6_shore_70 : decode cX6_shore 70 = .ok (.ifCond .ne 14, 3) := by decide +kernel
theorem dX6_shore_73 : decode cX6_shore 73 = .ok (.bipush (-100), 2) := by decide +kernel
theorem dX6_shore_75 : decode cX6_shore 75 = .ok (.aload_n 0, 1) := by decide +kernel
theorem dX6_shore_76 : decode cX6_shore 76 = .ok (.getfield 80, 3) := by decide +kernel
theorem dX6_shore_79 : decode cX6_shore 79 = .ok (.iload 6, 2) := by decide +kernel
theorem dX6_shore_81 : decode cX6_shore 81 = .ok (.isub, 1) := by decide +kernel
theorem dX6_shore_82 : decode cX6_shore 82 = .ok (.isub, 1) := by decide +kernel
theorem dX6_shore_83 : decode cX6_shore 83 = .ok (.ireturn, 1) := by decide +kernel
theorem dX6_shore_84 : decode cX6_shore 84 = .ok (.aload_n 0, 1) := by decide +kernel
theorem dX6_shore_85 : decode cX6_shore 85 = .ok (.invokevirtual 101, 3) := by decide +kernel
theorem dX6_shore_88 : decode cX6_shore 88 = .ok (.aload_n 0, 1) := by decide +kernel
theorem dX6_shore_89 : decode cX6_shore 89 = .ok (.getfield 77, 3) := by decide +kernel
theorem dX6_shore_92 : decode cX6_shore 92 = .ok (.ireturn, 1) := by decide +kernel
theorem dX6_takeShore_0 : decode cX6_takeShore 0 = .ok (.aload_n 0, 1) := by decide +kernel
theorem dX6_takeShore_1 : decode cX6_takeShore 1 = .ok (.aload_n 0, 1) := by decide +kernel
theorem dX6_takeShore_2 : decode cX6_takeShore 2 = .ok (.getfield 104, 3) := by decide +kernel
theorem dX6_takeShore_5 : decode cX6_takeShore 5 = .ok (.putfield 107, 3) := by decide +kernel
theorem dX6_takeShore_8 : decode cX6_takeShore 8 = .ok (.aload_n 0, 1) := by decide +kernel
theorem dX6_takeShore_9 : decode cX6_takeShore 9 = .ok (.aload_n 0, 1) := by decide +kernel
theorem dX6_takeShore_10 : decode cX6_takeShore 10 = .ok (.getfield 110, 3) := by decide +kernel
theorem dX6_takeShore_13 : decode cX6_takeShore 13 = .ok (.putfield 113, 3) := by decide +kernel
theorem dX6_takeShore_16 : decode cX6_takeShore 16 = .ok (.aload_n 0, 1) := by decide +kernel
theorem dX6_takeShore_17 : decode cX6_takeShore 17 = .ok (.aload_n 0, 1) := by decide +kernel
theorem dX6_takeShore_18 : decode cX6_takeShore 18 = .ok (.getfield 116, 3) := by decide +kernel
theorem dX6_takeShore_21 : decode cX6_takeShore 21 = .ok (.putfield 119, 3) := by decide +kernel
theorem dX6_takeShore_24 : decode cX6_takeShore 24 = .ok (.aload_n 0, 1) := by decide +kernel
theorem dX6_takeShore_25 : decode cX6_takeShore 25 = .ok (.aload_n 0, 1) := by decide +kernel
theorem dX6_takeShore_26 : decode cX6_takeShore 26 = .ok (.getfield 122, 3) := by decide +kernel
theorem dX6_takeShore_29 : decode cX6_takeShore 29 = .ok (.putfield 74, 3) := by decide +kernel
theorem dX6_takeShore_32 : decode cX6_takeShore 32 = .ok (.iconst 0, 1) := by decide +kernel
theorem dX6_takeShore_33 : decode cX6_takeShore 33 = .ok (.istore_n 1, 1) := by decide +kernel
theorem dX6_takeShore_34 : decode cX6_takeShore 34 = .ok (.iload_n 1, 1) := by decide +kernel
theorem dX6_takeShore_35 : decode cX6_takeShore 35 = .ok (.aload_n 0, 1) := by decide +kernel
theorem dX6_takeShore_36 : decode cX6_takeShore 36 = .ok (.getfield 74, 3) := by decide +kernel
theorem dX6_takeShore_39 : decode cX6_takeShore 39 = .ok (.if_icmp .ge 33, 3) := by decide +kernel
theorem dX6_takeShore_42 : decode cX6_takeShore 42 = .ok (.aload_n 0, 1) := by decide +kernel
theorem dX6_takeShore_43 : decode cX6_takeShore 43 = .ok (.getfield 19, 3) := by decide +kernel
theorem dX6_takeShore_46 : decode cX6_takeShore 46 = .ok (.iload_n 1, 1) := by decide +kernel
theorem dX6_takeShore_47 : decode cX6_takeShore 47 = .ok (.aload_n 0, 1) := by decide +kernel
theorem dX6_takeShore_48 : decode cX6_takeShore 48 = .ok (.getfield 34, 3) := by decide +kernel
theorem dX6_takeShore_51 : decode cX6_takeShore 51 = .ok (.iload_n 1, 1) := by decide +kernel
theorem dX6_takeShore_52 : decode cX6_takeShore 52 = .ok (.iaload, 1) := by decide +kernel
theorem dX6_takeShore_53 : decode cX6_takeShore 53 = .ok (.iastore, 1) := by decide +kernel
theorem dX6_takeShore_54 : decode cX6_takeShore 54 = .ok (.aload_n 0, 1) := by decide +kernel
theorem dX6_takeShore_55 : decode cX6_takeShore 55 = .ok (.getfield 22, 3) := by decide +kernel
theorem dX6_takeShore_58 : decode cX6_takeShore 58 = .ok (.iload_n 1, 1) := by decide +kernel
theorem dX6_takeShore_59 : decode cX6_takeShore 59 = .ok (.aload_n 0, 1) := by decide +kernel
theorem dX6_takeShore_60 : decode cX6_takeShore 60 = .ok (.getfield 37, 3) := by decide +kernel
theorem dX6_takeShore_63 : decode cX6_takeShore 63 = .ok (.iload_n 1, 1) := by decide +kernel
theorem dX6_takeShore_64 : decode cX6_takeShore 64 = .ok (.iaload, 1) := by decide +kernel
theorem dX6_takeShore_65 : decode cX6_takeShore 65 = .ok (.iastore, 1) := by decide +kernel
theorem dX6_takeShore_66 : decode cX6_takeShore 66 = .ok (.iinc 1 1, 3) := by decide +kernel
theorem dX6_takeShore_69 : decode cX6_takeShore 69 = .ok (.goto (-35), 3) := by decide +kernel
theorem dX6_takeShore_72 : decode cX6_takeShore 72 = .ok (.aload_n 0, 1) := by decide +kernel
theorem dX6_takeShore_73 : decode cX6_takeShore 73 = .ok (.aload_n 0, 1) := by decide +kernel
theorem dX6_takeShore_74 : decode cX6_takeShore 74 = .ok (.getfield 125, 3) := by decide +kernel
theorem dX6_takeShore_77 : decode cX6_takeShore 77 = .ok (.putfield 77, 3) := by decide +kernel
theorem dX6_takeShore_80 : decode cX6_takeShore 80 = .ok (.iconst 0, 1) := by decide +kernel
theorem dX6_takeShore_81 : decode cX6_takeShore 81 = .ok (.istore_n 1, 1) := by decide +kernel
theorem dX6_takeShore_82 : decode cX6_takeShore 82 = .ok (.iload_n 1, 1) := by decide +kernel
theorem dX6_takeShore_83 : decode cX6_takeShore 83 = .ok (.aload_n 0, 1) := by decide +kernel
theorem dX6_takeShore_84 : decode cX6_takeShore 84 = .ok (.getfield 77, 3) := by decide +kernel
theorem dX6_takeShore_87 : decode cX6_takeShore 87 = .ok (.if_icmp .ge 45, 3) := by decide +kernel
theorem dX6_takeShore_90 : decode cX6_takeShore 90 = .ok (.aload_n 0, 1) := by decide +kernel
theorem dX6_takeShore_91 : decode cX6_takeShore 91 = .ok (.getfield 25, 3) := by decide +kernel
theorem dX6_takeShore_94 : decode cX6_takeShore 94 = .ok (.iload_n 1, 1) := by decide +kernel
theorem dX6_takeShore_95 : decode cX6_takeShore 95 = .ok (.aload_n 0, 1) := by decide +kernel
theorem dX6_takeShore_96 : decode cX6_takeShore 96 = .ok (.getfield 40, 3) := by decide +kernel
theorem dX6_takeShore_99 : decode cX6_takeShore 99 = .ok (.iload_n 1, 1) := by decide +kernel
theorem dX6_takeShore_100 : decode cX6_takeShore 100 = .ok (.iaload, 1) := by decide +kernel
theorem dX6_takeShore_101 : decode cX6_takeShore 101 = .ok (.iastore, 1) := by decide +kernel
theorem dX6_takeShore_102 : decode cX6_takeShore 102 = .ok (.aload_n 0, 1) := by decide +kernel
theorem dX6_takeShore_103 : decode cX6_takeShore 103 = .ok (.getfield 28, 3) := by decide +kernel
theorem dX6_takeShore_106 : decode cX6_takeShore 106 = .ok (.iload_n 1, 1) := by decide +kernel
theorem dX6_takeShore_107 : decode cX6_takeShore 107 = .ok (.aload_n 0, 1) := by decide +kernel
theorem dX6_takeShore_108 : decode cX6_takeShore 108 = .ok (.getfield 43, 3) := by decide +kernel
theorem dX6_takeShore_111 : decode cX6_takeShore 111 = .ok (.iload_n 1, 1) := by decide +kernel
theorem dX6_takeShore_112 : decode cX6_takeShore 112 = .ok (.iaload, 1) := by decide +kernel
theorem dX6_takeShore_113 : decode cX6_takeShore 113 = .ok (.iastore, 1) := by decide +kernel
theorem dX6_takeShore_114 : decode cX6_takeShore 114 = .ok (.aload_n 0, 1) := by decide +kernel
theorem dX6_takeShore_115 : decode cX6_takeShore 115 = .ok (.getfield 31, 3) := by decide +kernel
theorem dX6_takeShore_118 : decode cX6_takeShore 118 = .ok (.iload_n 1, 1) := by decide +kernel
theorem dX6_takeShore_119 : decode cX6_takeShore 119 = .ok (.aload_n 0, 1) := by decide +kernel
theorem dX6_takeShore_120 : decode cX6_takeShore 120 = .ok (.getfield 46, 3) := by decide +kernel
theorem dX6_takeShore_123 : decode cX6_takeShore 123 = .ok (.iload_n 1, 1) := by decide +kernel
theorem dX6_takeShore_124 : decode cX6_takeShore 124 = .ok (.iaload, 1) := by decide +kernel
theorem dX6_takeShore_125 : decode cX6_takeShore 125 = .ok (.iastore, 1) := by decide +kernel
theorem dX6_takeShore_126 : decode cX6_takeShore 126 = .ok (.iinc 1 1, 3) := by decide +kernel
theorem dX6_takeShore_129 : decode cX6_takeShore 129 = .ok (.goto (-47), 3) := by decide +kernel
theorem dX6_takeShore_132 : decode cX6_takeShore 132 = .ok (.aload_n 0, 1) := by decide +kernel
theorem dX6_takeShore_133 : decode cX6_takeShore 133 = .ok (.iconst 0, 1) := by decide +kernel
theorem dX6_takeShore_134 : decode cX6_takeShore 134 = .ok (.putfield 128, 3) := by decide +kernel
theorem dX6_takeShore_137 : decode cX6_takeShore 137 = .ok (.return_, 1) := by decide +kernel
theorem dX6_readShore_0 : decode cX6_readShore 0 = .ok (.aload_n 0, 1) := by decide +kernel
theorem dX6_readShore_1 : decode cX6_readShore 1 = .ok (.iconst 0, 1) := by decide +kernel
theorem dX6_readShore_2 : decode cX6_readShore 2 = .ok (.putfield 122, 3) := by decide +kernel
theorem dX6_readShore_5 : decode cX6_readShore 5 = .ok (.aload_n 0, 1) := by decide +kernel
theorem dX6_readShore_6 : decode cX6_readShore 6 = .ok (.iconst 0, 1) := by decide +kernel
theorem dX6_readShore_7 : decode cX6_readShore 7 = .ok (.putfield 125, 3) := by decide +kernel
theorem dX6_readShore_10 : decode cX6_readShore 10 = .ok (.aload_n 0, 1) := by decide +kernel
theorem dX6_readShore_11 : decode cX6_readShore 11 = .ok (.iload_n 1, 1) := by decide +kernel
theorem dX6_readShore_12 : decode cX6_readShore 12 = .ok (.bipush 114, 2) := by decide +kernel
theorem dX6_readShore_14 : decode cX6_readShore 14 = .ok (.invokevirtual 131, 3) := by decide +kernel
theorem dX6_readShore_17 : decode cX6_readShore 17 = .ok (.ifCond .ne 5, 3) := by decide +kernel
theorem dX6_readShore_20 : decode cX6_readShore 20 = .ok (.iconst 0, 1) := by decide +kernel
theorem dX6_readShore_21 : decode cX6_readShore 21 = .ok (.ireturn, 1) := by decide +kernel
theorem dX6_readShore_22 : decode cX6_readShore 22 = .ok (.aload_n 0, 1) := by decide +kernel
theorem dX6_readShore_23 : decode cX6_readShore 23 = .ok (.aload_n 0, 1) := by decide +kernel
theorem dX6_readShore_24 : decode cX6_readShore 24 = .ok (.iload_n 1, 1) := by decide +kernel
theorem dX6_readShore_25 : decode cX6_readShore 25 = .ok (.iconst 1, 1) := by decide +kernel
theorem dX6_readShore_26 : decode cX6_readShore 26 = .ok (.iconst 3, 1) := by decide +kernel
theorem dX6_readShore_27 : decode cX6_readShore 27 = .ok (.invokevirtual 135, 3) := by decide +kernel
theorem dX6_readShore_30 : decode cX6_readShore 30 = .ok (.putfield 104, 3) := by decide +kernel
theorem dX6_readShore_33 : decode cX6_readShore 33 = .ok (.aload_n 0, 1) := by decide +kernel
theorem dX6_readShore_34 : decode cX6_readShore 34 = .ok (.getfield 104, 3) := by decide +kernel
theorem dX6_readShore_37 : decode cX6_readShore 37 = .ok (.bipush (-9), 2) := by decide +kernel
theorem dX6_readShore_39 : decode cX6_readShore 39 = .ok (.if_icmp .ne 5, 3) := by decide +kernel
theorem dX6_readShore_42 : decode cX6_readShore 42 = .ok (.iconst 0, 1) := by decide +kernel
theorem dX6_readShore_43 : decode cX6_readShore 43 = .ok (.ireturn, 1) := by decide +kernel
theorem dX6_readShore_44 : decode cX6_readShore 44 = .ok (.aload_n 0, 1) := by decide +kernel
theorem dX6_readShore_45 : decode cX6_readShore 45 = .ok (.aload_n 0, 1) := by decide +kernel
theorem dX6_readShore_46 : decode cX6_readShore 46 = .ok (.iload_n 1, 1) := by decide +kernel
theorem dX6_readShore_47 : decode cX6_readShore 47 = .ok (.iconst 0, 1) := by decide +kernel
theorem dX6_readShore_48 : decode cX6_readShore 48 = .ok (.bipush 9, 2) := by decide +kernel
theorem dX6_readShore_50 : decode cX6_readShore 50 = .ok (.invokevirtual 135, 3) := by decide +kernel
theorem dX6_readShore_53 : decode cX6_readShore 53 = .ok (.putfield 110, 3) := by decide +kernel
theorem dX6_readShore_56 : decode cX6_readShore 56 = .ok (.aload_n 0, 1) := by decide +kernel
theorem dX6_readShore_57 : decode cX6_readShore 57 = .ok (.getfield 110, 3) := by decide +kernel
theorem dX6_readShore_60 : decode cX6_readShore 60 = .ok (.bipush (-9), 2) := by decide +kernel
theorem dX6_readShore_62 : decode cX6_readShore 62 = .ok (.if_icmp .ne 5, 3) := by decide +kernel
theorem dX6_readShore_65 : decode cX6_readShore 65 = .ok (.iconst 0, 1) := by decide +kernel
theorem dX6_readShore_66 : decode cX6_readShore 66 = .ok (.ireturn, 1) := by decide +kernel
theorem dX6_readShore_67 : decode cX6_readShore 67 = .ok (.aload_n 0, 1) := by decide +kernel
theorem dX6_readShore_68 : decode cX6_readShore 68 = .ok (.aload_n 0, 1) := by decide +kernel
theorem dX6_readShore_69 : decode cX6_readShore 69 = .ok (.iload_n 1, 1) := by decide +kernel
theorem dX6_readShore_70 : decode cX6_readShore 70 = .ok (.iconst 0, 1) := by decide +kernel
theorem dX6_readShore_71 : decode cX6_readShore 71 = .ok (.bipush 9, 2) := by decide +kernel
theorem dX6_readShore_73 : decode cX6_readShore 73 = .ok (.invokevirtual 135, 3) := by decide +kernel
theorem dX6_readShore_76 : decode cX6_readShore 76 = .ok (.putfield 116, 3) := by decide +kernel
theorem dX6_readShore_79 : decode cX6_readShore 79 = .ok (.aload_n 0, 1) := by decide +kernel
theorem dX6_readShore_80 : decode cX6_readShore 80 = .ok (.getfield 116, 3) := by decide +kernel
theorem dX6_readShore_83 : decode cX6_readShore 83 = .ok (.bipush (-9), 2) := by decide +kernel
theorem dX6_readShore_85 : decode cX6_readShore 85 = .ok (.if_icmp .ne 5, 3) := by decide +kernel
theorem dX6_readShore_88 : decode cX6_readShore 88 = .ok (.iconst 0, 1) := by decide +kernel
theorem dX6_readShore_89 : decode cX6_readShore 89 = .ok (.ireturn, 1) := by decide +kernel
theorem dX6_readShore_90 : decode cX6_readShore 90 = .ok (.aload_n 0, 1) := by decide +kernel
theorem dX6_readShore_91 : decode cX6_readShore 91 = .ok (.getfield 122, 3) := by decide +kernel
theorem dX6_readShore_94 : decode cX6_readShore 94 = .ok (.bipush 6, 2) := by decide +kernel
theorem dX6_readShore_96 : decode cX6_readShore 96 = .ok (.if_icmp .ge 23, 3) := by decide +kernel
theorem dX6_readShore_99 : decode cX6_readShore 99 = .ok (.aload_n 0, 1) := by decide +kernel
theorem dX6_readShore_100 : decode cX6_readShore 100 = .ok (.iload_n 1, 1) := by decide +kernel
theorem dX6_readShore_101 : decode cX6_readShore 101 = .ok (.bipush 44, 2) := by decide +kernel
theorem dX6_readShore_103 : decode cX6_readShore 103 = .ok (.invokevirtual 131, 3) := by decide +kernel
theorem dX6_readShore_106 : decode cX6_readShore 106 = .ok (.ifCond .eq 13, 3) := by decide +kernel
theorem dX6_readShore_109 : decode cX6_readShore 109 = .ok (.aload_n 0, 1) := by decide +kernel
theorem dX6_readShore_110 : decode cX6_readShore 110 = .ok (.iload_n 1, 1) := by decide +kernel
theorem dX6_readShore_111 : decode cX6_readShore 111 = .ok (.invokevirtual 139, 3) := by decide +kernel
theorem dX6_readShore_114 : decode cX6_readShore 114 = .ok (.ifCond .ne (-24), 3) := by decide +kernel
theorem dX6_readShore_117 : decode cX6_readShore 117 = .ok (.iconst 0, 1) := by decide +kernel
theorem dX6_readShore_118 : decode cX6_readShore 118 = .ok (.ireturn, 1) := by decide +kernel
theorem dX6_readShore_119 : decode cX6_readShore 119 = .ok (.aload_n 0, 1) := by decide +kernel
theorem dX6_readShore_120 : decode cX6_readShore 120 = .ok (.getfield 122, 3) := by decide +kernel
theorem dX6_readShore_123 : decode cX6_readShore 123 = .ok (.iconst 2, 1) := by decide +kernel
theorem dX6_readShore_124 : decode cX6_readShore 124 = .ok (.if_icmp .ge 5, 3) := by decide +kernel
theorem dX6_readShore_127 : decode cX6_readShore 127 = .ok (.iconst 0, 1) := by decide +kernel
theorem dX6_readShore_128 : decode cX6_readShore 128 = .ok (.ireturn, 1) := by decide +kernel
theorem dX6_readShore_129 : decode cX6_readShore 129 = .ok (.aload_n 0, 1) := by decide +kernel
theorem dX6_readShore_130 : decode cX6_readShore 130 = .ok (.getfield 125, 3) := by decide +kernel
theorem dX6_readShore_133 : decode cX6_readShore 133 = .ok (.ifCond .eq 20, 3) := by decide +kernel
theorem dX6_readShore_136 : decode cX6_readShore 136 = .ok (.aload_n 0, 1) := by decide +kernel
theorem dX6_readShore_137 : decode cX6_readShore 137 = .ok (.getfield 125, 3) := by decide +kernel
theorem dX6_readShore_140 : decode cX6_readShore 140 = .ok (.bipush 6, 2) := by decide +kernel
theorem dX6_readShore_142 : decode cX6_readShore 142 = .ok (.if_icmp .ge 31, 3) := by decide +kernel
theorem dX6_readShore_145 : decode cX6_readShore 145 = .ok (.aload_n 0, 1) := by decide +kernel
theorem dX6_readShore_146 : decode cX6_readShore 146 = .ok (.getfield 80, 3) := by decide +kernel
theorem dX6_readShore_149 : decode cX6_readShore 149 = .ok (.iload_n 1, 1) := by decide +kernel
theorem dX6_readShore_150 : decode cX6_readShore 150 = .ok (.if_icmp .ge 23, 3) := by decide +kernel
theorem dX6_readShore_153 : decode cX6_readShore 153 = .ok (.aload_n 0, 1) := by decide +kernel
theorem dX6_readShore_154 : decode cX6_readShore 154 = .ok (.iload_n 1, 1) := by decide +kernel
theorem dX6_readShore_155 : decode cX6_readShore 155 = .ok (.bipush 59, 2) := by decide +kernel
theorem dX6_readShore_157 : decode cX6_readShore 157 = .ok (.invokevirtual 131, 3) := by decide +kernel
theorem dX6_readShore_160 : decode cX6_readShore 160 = .ok (.ifCond .eq 11, 3) := by decide +kernel
theorem dX6_readShore_163 : decode cX6_readShore 163 = .ok (.aload_n 0, 1) := by decide +kernel
theorem dX6_readShore_164 : decode cX6_readShore 164 = .ok (.iload_n 1, 1) := by decide +kernel
theorem dX6_readShore_165 : decode cX6_readShore 165 = .ok (.invokevirtual 142, 3) := by decide +kernel
theorem dX6_readShore_168 : decode cX6_readShore 168 = .ok (.ifCond .ne (-39), 3) := by decide +kernel
theorem dX6_readShore_171 : decode cX6_readShore 171 = .ok (.iconst 0, 1) := by decide +kernel
theorem dX6_readShore_172 : decode cX6_readShore 172 = .ok (.ireturn, 1) := by decide +kernel
theorem dX6_readShore_173 : decode cX6_readShore 173 = .ok (.aload_n 0, 1) := by decide +kernel
theorem dX6_readShore_174 : decode cX6_readShore 174 = .ok (.getfield 80, 3) := by decide +kernel
theorem dX6_readShore_177 : decode cX6_readShore 177 = .ok (.iload_n 1, 1) := by decide +kernel
theorem dX6_readShore_178 : decode cX6_readShore 178 = .ok (.if_icmp .ne 7, 3) := by decide +kernel
theorem dX6_readShore_181 : decode cX6_readShore 181 = .ok (.iconst 1, 1) := by decide +kernel
theorem dX6_readShore_182 : decode cX6_readShore 182 = .ok (.goto 4, 3) := by decide +kernel
theorem dX6_readShore_185 : decode cX6_readShore 185 = .ok (.iconst 0, 1) := by decide +kernel
theorem dX6_readShore_186 : decode cX6_readShore 186 = .ok (.ireturn, 1) := by decide +kernel
theorem dX6_readPool_0 : decode cX6_readPool 0 = .ok (.aload_n 0, 1) := by decide +kernel
theorem dX6_readPool_1 : decode cX6_readPool 1 = .ok (.getfield 34, 3) := by decide +kernel
theorem dX6_readPool_4 : decode cX6_readPool 4 = .ok (.aload_n 0, 1) := by decide +kernel
theorem dX6_readPool_5 : decode cX6_readPool 5 = .ok (.getfield 122, 3) := by decide +kernel
theorem dX6_readPool_8 : decode cX6_readPool 8 = .ok (.aload_n 0, 1) := by decide +kernel
theorem dX6_readPool_9 : decode cX6_readPool 9 = .ok (.iload_n 1, 1) := by decide +kernel
theorem dX6_readPool_10 : decode cX6_readPool 10 = .ok (.iconst 1, 1) := by decide +kernel
theorem dX6_readPool_11 : decode cX6_readPool 11 = .ok (.bipush 9, 2) := by decide +kernel
theorem dX6_readPool_13 : decode cX6_readPool 13 = .ok (.invokevirtual 135, 3) := by decide +kernel
theorem dX6_readPool_16 : decode cX6_readPool 16 = .ok (.iastore, 1) := by decide +kernel
theorem dX6_readPool_17 : decode cX6_readPool 17 = .ok (.aload_n 0, 1) := by decide +kernel
theorem dX6_readPool_18 : decode cX6_readPool 18 = .ok (.getfield 34, 3) := by decide +kernel
theorem dX6_readPool_21 : decode cX6_readPool 21 = .ok (.aload_n 0, 1) := by decide +kernel
theorem dX6_readPool_22 : decode cX6_readPool 22 = .ok (.getfield 122, 3) := by decide +kernel
theorem dX6_readPool_25 : decode cX6_readPool 25 = .ok (.iaload, 1) := by decide +kernel
theorem dX6_readPool_26 : decode cX6_readPool 26 = .ok (.bipush (-9), 2) := by decide +kernel
theorem dX6_readPool_28 : decode cX6_readPool 28 = .ok (.if_icmp .ne 5, 3) := by decide +kernel
theorem dX6_readPool_31 : decode cX6_readPool 31 = .ok (.iconst 0, 1) := by decide +kernel
theorem dX6_readPool_32 : decode cX6_readPool 32 = .ok (.ireturn, 1) := by decide +kernel
theorem dX6_readPool_33 : decode cX6_readPool 33 = .ok (.aload_n 0, 1) := by decide +kernel
theorem dX6_readPool_34 : decode cX6_readPool 34 = .ok (.getfield 37, 3) := by decide +kernel
theorem dX6_readPool_37 : decode cX6_readPool 37 = .ok (.aload_n 0, 1) := by decide +kernel
theorem dX6_readPool_38 : decode cX6_readPool 38 = .ok (.getfield 122, 3) := by decide +kernel
theorem dX6_readPool_41 : decode cX6_readPool 41 = .ok (.aload_n 0, 1) := by decide +kernel
theorem dX6_readPool_42 : decode cX6_readPool 42 = .ok (.iload_n 1, 1) := by decide +kernel
theorem dX6_readPool_43 : decode cX6_readPool 43 = .ok (.iconst 1, 1) := by decide +kernel
theorem dX6_readPool_44 : decode cX6_readPool 44 = .ok (.bipush 9, 2) := by decide +kernel
theorem dX6_readPool_46 : decode cX6_readPool 46 = .ok (.invokevirtual 135, 3) := by decide +kernel
theorem dX6_readPool_49 : decode cX6_readPool 49 = .ok (.iastore, 1) := by decide +kernel
theorem dX6_readPool_50 : decode cX6_readPool 50 = .ok (.aload_n 0, 1) := by decide +kernel
theorem dX6_readPool_51 : decode cX6_readPool 51 = .ok (.dup, 1) := by decide +kernel
theorem dX6_readPool_52 : decode cX6_readPool 52 = .ok (.getfield 122, 3) := by decide +kernel
theorem dX6_readPool_55 : decode cX6_readPool 55 = .ok (.iconst 1, 1) := by decide +kernel
theorem dX6_readPool_56 : decode cX6_readPool 56 = .ok (.iadd, 1) := by decide +kernel
theorem dX6_readPool_57 : decode cX6_readPool 57 = .ok (.putfield 122, 3) := by decide +kernel
theorem dX6_readPool_60 : decode cX6_readPool 60 = .ok (.aload_n 0, 1) := by decide +kernel
theorem dX6_readPool_61 : decode cX6_readPool 61 = .ok (.getfield 37, 3) := by decide +kernel
theorem dX6_readPool_64 : decode cX6_readPool 64 = .ok (.aload_n 0, 1) := by decide +kernel
theorem dX6_readPool_65 : decode cX6_readPool 65 = .ok (.getfield 122, 3) := by decide +kernel
theorem dX6_readPool_68 : decode cX6_readPool 68 = .ok (.iconst 1, 1) := by decide +kernel
theorem dX6_readPool_69 : decode cX6_readPool 69 = .ok (.isub, 1) := by decide +kernel
theorem dX6_readPool_70 : decode cX6_readPool 70 = .ok (.iaload, 1) := by decide +kernel
theorem dX6_readPool_71 : decode cX6_readPool 71 = .ok (.bipush (-9), 2) := by decide +kernel
theorem dX6_readPool_73 : decode cX6_readPool 73 = .ok (.if_icmp .eq 7, 3) := by decide +kernel
theorem dX6_readPool_76 : decode cX6_readPool 76 = .ok (.iconst 1, 1) := by decide +kernel
theorem dX6_readPool_77 : decode cX6_readPool 77 = .ok (.goto 4, 3) := by decide +kernel
theorem dX6_readPool_80 : decode cX6_readPool 80 = .ok (.iconst 0, 1) := by decide +kernel
theorem dX6_readPool_81 : decode cX6_readPool 81 = .ok (.ireturn, 1) := by decide +kernel
theorem dX6_readMember_0 : decode cX6_readMember 0 = .ok (.aload_n 0, 1) := by decide +kernel
theorem dX6_readMember_1 : decode cX6_readMember 1 = .ok (.getfield 80, 3) := by decide +kernel
theorem dX6_readMember_4 : decode cX6_readMember 4 = .ok (.iload_n 1, 1) := by decide +kernel
theorem dX6_readMember_5 : decode cX6_readMember 5 = .ok (.if_icmp .ge 15, 3) := by decide +kernel
theorem dX6_readMember_8 : decode cX6_readMember 8 = .ok (.aload_n 0, 1) := by decide +kernel
theorem dX6_readMember_9 : decode cX6_readMember 9 = .ok (.getfield 16, 3) := by decide +kernel
theorem dX6_readMember_12 : decode cX6_readMember 12 = .ok (.aload_n 0, 1) := by decide +kernel
theorem dX6_readMember_13 : decode cX6_readMember 13 = .ok (.getfield 80, 3) := by decide +kernel
theorem dX6_readMember_16 : decode cX6_readMember 16 = .ok (.iaload, 1) := by decide +kernel
theorem dX6_readMember_17 : decode cX6_readMember 17 = .ok (.goto 4, 3) := by decide +kernel
theorem dX6_readMember_20 : decode cX6_readMember 20 = .ok (.iconst 0, 1) := by decide +kernel
theorem dX6_readMember_21 : decode cX6_readMember 21 = .ok (.istore_n 2, 1) := by decide +kernel
theorem dX6_readMember_22 : decode cX6_readMember 22 = .ok (.aload_n 0, 1) := by decide +kernel
theorem dX6_readMember_23 : decode cX6_readMember 23 = .ok (.getfield 40, 3) := by decide +kernel
theorem dX6_readMember_26 : decode cX6_readMember 26 = .ok (.aload_n 0, 1) := by decide +kernel
theorem dX6_readMember_27 : decode cX6_readMember 27 = .ok (.getfield 125, 3) := by decide +kernel
theorem dX6_readMember_30 : decode cX6_readMember 30 = .ok (.iload_n 2, 1) := by decide +kernel
theorem dX6_readMember_31 : decode cX6_readMember 31 = .ok (.bipush 115, 2) := by decide +kernel
theorem dX6_readMember_33 : decode cX6_readMember 33 = .ok (.if_icmp .ne 7, 3) := by decide +kernel
theorem dX6_readMember_36 : decode cX6_readMember 36 = .ok (.iconst 0, 1) := by decide +kernel
theorem dX6_readMember_37 : decode cX6_readMember 37 = .ok (.goto 25, 3) := by decide +kernel
theorem dX6_readMember_40 : decode cX6_readMember 40 = .ok (.iload_n 2, 1) := by decide +kernel
theorem dX6_readMember_41 : decode cX6_readMember 41 = .ok (.bipush 99, 2) := by decide +kernel
theorem dX6_readMember_43 : decode cX6_readMember 43 = .ok (.if_icmp .ne 7, 3) := by decide +kernel
theorem dX6_readMember_46 : decode cX6_readMember 46 = .ok (.iconst 1, 1) := by decide +kernel
theorem dX6_readMember_47 : decode cX6_readMember 47 = .ok (.goto 15, 3) := by decide +kernel
theorem dX6_readMember_50 : decode cX6_readMember 50 = .ok (.iload_n 2, 1) := by decide +kernel
theorem dX6_readMember_51 : decode cX6_readMember 51 = .ok (.bipush 108, 2) := by decide +kernel
theorem dX6_readMember_53 : decode cX6_readMember 53 = .ok (.if_icmp .ne 7, 3) := by decide +kernel
theorem dX6_readMember_56 : decode cX6_readMember 56 = .ok (.iconst 2, 1) := by decide +kernel
theorem dX6_readMember_57 : decode cX6_readMember 57 = .ok (.goto 5, 3) := by decide +kernel
theorem dX6_readMember_60 : decode cX6_readMember 60 = .ok (.bipush (-9), 2) := by decide +kernel
theorem dX6_readMember_62 : decode cX6_readMember 62 = .ok (.iastore, 1) := by decide +kernel
theorem dX6_readMember_63 : decode cX6_readMember 63 = .ok (.aload_n 0, 1) := by decide +kernel
theorem dX6_readMember_64 : decode cX6_readMember 64 = .ok (.getfield 40, 3) := by decide +kernel
theorem dX6_readMember_67 : decode cX6_readMember 67 = .ok (.aload_n 0, 1) := by decide +kernel
theorem dX6_readMember_68 : decode cX6_readMember 68 = .ok (.getfield 125, 3) := by decide +kernel
theorem dX6_readMember_71 : decode cX6_readMember 71 = .ok (.iaload, 1) := by decide +kernel
theorem dX6_readMember_72 : decode cX6_readMember 72 = .ok (.bipush (-9), 2) := by decide +kernel
theorem dX6_readMember_74 : decode cX6_readMember 74 = .ok (.if_icmp .ne 5, 3) := by decide +kernel
theorem dX6_readMember_77 : decode cX6_readMember 77 = .ok (.iconst 0, 1) := by decide +kernel
theorem dX6_readMember_78 : decode cX6_readMember 78 = .ok (.ireturn, 1) := by decide +kernel
theorem dX6_readMember_79 : decode cX6_readMember 79 = .ok (.aload_n 0, 1) := by decide +kernel
theorem dX6_readMember_80 : decode cX6_readMember 80 = .ok (.dup, 1) := by decide +kernel
theorem dX6_readMember_81 : decode cX6_readMember 81 = .ok (.getfield 80, 3) := by decide +kernel
theorem dX6_readMember_84 : decode cX6_readMember 84 = .ok (.iconst 1, 1) := by decide +kernel
theorem dX6_readMember_85 : decode cX6_readMember 85 = .ok (.iadd, 1) := by decide +kernel
theorem dX6_readMember_86 : decode cX6_readMember 86 = .ok (.putfield 80, 3) := by decide +kernel
theorem dX6_readMember_89 : decode cX6_readMember 89 = .ok (.aload_n 0, 1) := by decide +kernel
theorem dX6_readMember_90 : decode cX6_readMember 90 = .ok (.getfield 43, 3) := by decide +kernel
theorem dX6_readMember_93 : decode cX6_readMember 93 = .ok (.aload_n 0, 1) := by decide +kernel
theorem dX6_readMember_94 : decode cX6_readMember 94 = .ok (.getfield 125, 3) := by decide +kernel
theorem dX6_readMember_97 : decode cX6_readMember 97 = .ok (.aload_n 0, 1) := by decide +kernel
theorem dX6_readMember_98 : decode cX6_readMember 98 = .ok (.iload_n 1, 1) := by decide +kernel
theorem dX6_readMember_99 : decode cX6_readMember 99 = .ok (.iconst 0, 1) := by decide +kernel
theorem dX6_readMember_100 : decode cX6_readMember 100 = .ok (.aload_n 0, 1) := by decide +kernel
theorem dX6_readMember_101 : decode cX6_readMember 101 = .ok (.getfield 122, 3) := by decide +kernel
theorem dX6_readMember_104 : decode cX6_readMember 104 = .ok (.iconst 1, 1) := by decide +kernel
theorem dX6_readMember_105 : decode cX6_readMember 105 = .ok (.isub, 1) := by decide +kernel
theorem dX6_readMember_106 : decode cX6_readMember 106 = .ok (.invokevirtual 135, 3) := by decide +kernel
theorem dX6_readMember_109 : decode cX6_readMember 109 = .ok (.iastore, 1) := by decide +kernel
theorem dX6_readMember_110 : decode cX6_readMember 110 = .ok (.aload_n 0, 1) := by decide +kernel
theorem dX6_readMember_111 : decode cX6_readMember 111 = .ok (.getfield 43, 3) := by decide +kernel
theorem dX6_readMember_114 : decode cX6_readMember 114 = .ok (.aload_n 0, 1) := by decide +kernel
theorem dX6_readMember_115 : decode cX6_readMember 115 = .ok (.getfield 125, 3) := by decide +kernel
theorem dX6_readMember_118 : decode cX6_readMember 118 = .ok (.iaload, 1) := by decide +kernel
theorem dX6_readMember_119 : decode cX6_readMember 119 = .ok (.bipush (-9), 2) := by decide +kernel
theorem dX6_readMember_121 : decode cX6_readMember 121 = .ok (.if_icmp .ne 5, 3) := by decide +kernel
theorem dX6_readMember_124 : decode cX6_readMember 124 = .ok (.iconst 0, 1) := by decide +kernel
theorem dX6_readMember_125 : decode cX6_readMember 125 = .ok (.ireturn, 1) := by decide +kernel
theorem dX6_readMember_126 : decode cX6_readMember 126 = .ok (.aload_n 0, 1) := by decide +kernel
theorem dX6_readMember_127 : decode cX6_readMember 127 = .ok (.getfield 46, 3) := by decide +kernel
theorem dX6_readMember_130 : decode cX6_readMember 130 = .ok (.aload_n 0, 1) := by decide +kernel
theorem dX6_readMember_131 : decode cX6_readMember 131 = .ok (.getfield 125, 3) := by decide +kernel
theorem dX6_readMember_134 : decode cX6_readMember 134 = .ok (.aload_n 0, 1) := by decide +kernel
theorem dX6_readMember_135 : decode cX6_readMember 135 = .ok (.iload_n 1, 1) := by decide +kernel
theorem dX6_readMember_136 : decode cX6_readMember 136 = .ok (.iconst 0, 1) := by decide +kernel
theorem dX6_readMember_137 : decode cX6_readMember 137 = .ok (.bipush 9, 2) := by decide +kernel
theorem dX6_readMember_139 : decode cX6_readMember 139 = .ok (.invokevirtual 135, 3) := by decide +kernel
theorem dX6_readMember_142 : decode cX6_readMember 142 = .ok (.iastore, 1) := by decide +kernel
theorem dX6_readMember_143 : decode cX6_readMember 143 = .ok (.aload_n 0, 1) := by decide +kernel
theorem dX6_readMember_144 : decode cX6_readMember 144 = .ok (.dup, 1) := by decide +kernel
theorem dX6_readMember_145 : decode cX6_readMember 145 = .ok (.getfield 125, 3) := by decide +kernel
theorem dX6_readMember_148 : decode cX6_readMember 148 = .ok (.iconst 1, 1) := by decide +kernel
theorem dX6_readMember_149 : decode cX6_readMember 149 = .ok (.iadd, 1) := by decide +kernel
theorem dX6_readMember_150 : decode cX6_readMember 150 = .ok (.putfield 125, 3) := by decide +kernel
theorem dX6_readMember_153 : decode cX6_readMember 153 = .ok (.aload_n 0, 1) := by decide +kernel
theorem dX6_readMember_154 : decode cX6_readMember 154 = .ok (.getfield 46, 3) := by decide +kernel
theorem dX6_readMember_157 : decode cX6_readMember 157 = .ok (.aload_n 0, 1) := by decide +kernel
theorem dX6_readMember_158 : decode cX6_readMember 158 = .ok (.getfield 125, 3) := by decide +kernel
theorem dX6_readMember_161 : decode cX6_readMember 161 = .ok (.iconst 1, 1) := by decide +kernel
theorem dX6_readMember_162 : decode cX6_readMember 162 = .ok (.isub, 1) := by decide +kernel
theorem dX6_readMember_163 : decode cX6_readMember 163 = .ok (.iaload, 1) := by decide +kernel
theorem dX6_readMember_164 : decode cX6_readMember 164 = .ok (.bipush (-9), 2) := by decide +kernel
theorem dX6_readMember_166 : decode cX6_readMember 166 = .ok (.if_icmp .eq 7, 3) := by decide +kernel
theorem dX6_readMember_169 : decode cX6_readMember 169 = .ok (.iconst 1, 1) := by decide +kernel
theorem dX6_readMember_170 : decode cX6_readMember 170 = .ok (.goto 4, 3) := by decide +kernel
theorem dX6_readMember_173 : decode cX6_readMember 173 = .ok (.iconst 0, 1) := by decide +kernel
theorem dX6_readMember_174 : decode cX6_readMember 174 = .ok (.ireturn, 1) := by decide +kernel
theorem dX6_sitters_0 : decode cX6_sitters 0 = .ok (.iconst 0, 1) := by decide +kernel
theorem dX6_sitters_1 : decode cX6_sitters 1 = .ok (.istore_n 2, 1) := by decide +kernel
theorem dX6_sitters_2 : decode cX6_sitters 2 = .ok (.iconst 0, 1) := by decide +kernel
theorem dX6_sitters_3 : decode cX6_sitters 3 = .ok (.istore_n 3, 1) := by decide +kernel
theorem dX6_sitters_4 : decode cX6_sitters 4 = .ok (.iload_n 3, 1) := by decide +kernel
theorem dX6_sitters_5 : decode cX6_sitters 5 = .ok (.aload_n 0, 1) := by decide +kernel
theorem dX6_sitters_6 : decode cX6_sitters 6 = .ok (.getfield 77, 3) := by decide +kernel
theorem dX6_sitters_9 : decode cX6_sitters 9 = .ok (.if_icmp .ge 29, 3) := by decide +kernel
theorem dX6_sitters_12 : decode cX6_sitters 12 = .ok (.iload_n 2, 1) := by decide +kernel
theorem dX6_sitters_13 : decode cX6_sitters 13 = .ok (.aload_n 0, 1) := by decide +kernel
theorem dX6_sitters_14 : decode cX6_sitters 14 = .ok (.getfield 28, 3) := by decide +kernel
theorem dX6_sitters_17 : decode cX6_sitters 17 = .ok (.iload_n 3, 1) := by decide +kernel
theorem dX6_sitters_18 : decode cX6_sitters 18 = .ok (.iaload, 1) := by decide +kernel
theorem dX6_sitters_19 : decode cX6_sitters 19 = .ok (.iload_n 1, 1) := by decide +kernel
theorem dX6_sitters_20 : decode cX6_sitters 20 = .ok (.if_icmp .ne 9, 3) := by decide +kernel
theorem dX6_sitters_23 : decode cX6_sitters 23 = .ok (.iconst 1, 1) := by decide +kernel
theorem dX6_sitters_24 : decode cX6_sitters 24 = .ok (.iload_n 3, 1) := by decide +kernel
theorem dX6_sitters_25 : decode cX6_sitters 25 = .ok (.ishl, 1) := by decide +kernel
theorem dX6_sitters_26 : decode cX6_sitters 26 = .ok (.goto 4, 3) := by decide +kernel
theorem dX6_sitters_29 : decode cX6_sitters 29 = .ok (.iconst 0, 1) := by decide +kernel
theorem dX6_sitters_30 : decode cX6_sitters 30 = .ok (.ior, 1) := by decide +kernel
theorem dX6_sitters_31 : decode cX6_sitters 31 = .ok (.istore_n 2, 1) := by decide +kernel
theorem dX6_sitters_32 : decode cX6_sitters 32 = .ok (.iinc 3 1, 3) := by decide +kernel
theorem dX6_sitters_35 : decode cX6_sitters 35 = .ok (.goto (-31), 3) := by decide +kernel
theorem dX6_sitters_38 : decode cX6_sitters 38 = .ok (.iload_n 2, 1) := by decide +kernel
theorem dX6_sitters_39 : decode cX6_sitters 39 = .ok (.ireturn, 1) := by decide +kernel
theorem dX6_size_0 : decode cX6_size 0 = .ok (.iconst 0, 1) := by decide +kernel
theorem dX6_size_1 : decode cX6_size 1 = .ok (.istore_n 1, 1) := by decide +kernel
theorem dX6_size_2 : decode cX6_size 2 = .ok (.iload_n 0, 1) := by decide +kernel
theorem dX6_size_3 : decode cX6_size 3 = .ok (.istore_n 2, 1) := by decide +kernel
theorem dX6_size_4 : decode cX6_size 4 = .ok (.iload_n 2, 1) := by decide +kernel
theorem dX6_size_5 : decode cX6_size 5 = .ok (.ifCond .le 16, 3) := by decide +kernel
theorem dX6_size_8 : decode cX6_size 8 = .ok (.iload_n 1, 1) := by decide +kernel
theorem dX6_size_9 : decode cX6_size 9 = .ok (.iload_n 2, 1) := by decide +kernel
theorem dX6_size_10 : decode cX6_size 10 = .ok (.iconst 1, 1) := by decide +kernel
theorem dX6_size_11 : decode cX6_size 11 = .ok (.iand, 1) := by decide +kernel
theorem dX6_size_12 : decode cX6_size 12 = .ok (.iadd, 1) := by decide +kernel
theorem dX6_size_13 : decode cX6_size 13 = .ok (.istore_n 1, 1) := by decide +kernel
theorem dX6_size_14 : decode cX6_size 14 = .ok (.iload_n 2, 1) := by decide +kernel
theorem dX6_size_15 : decode cX6_size 15 = .ok (.iconst 1, 1) := by decide +kernel
theorem dX6_size_16 : decode cX6_size 16 = .ok (.ishr, 1) := by decide +kernel
theorem dX6_size_17 : decode cX6_size 17 = .ok (.istore_n 2, 1) := by decide +kernel
theorem dX6_size_18 : decode cX6_size 18 = .ok (.goto (-14), 3) := by decide +kernel
theorem dX6_size_21 : decode cX6_size 21 = .ok (.iload_n 1, 1) := by decide +kernel
theorem dX6_size_22 : decode cX6_size 22 = .ok (.ireturn, 1) := by decide +kernel
theorem dX6_farOf_0 : decode cX6_farOf 0 = .ok (.aload_n 0, 1) := by decide +kernel
theorem dX6_farOf_1 : decode cX6_farOf 1 = .ok (.getfield 25, 3) := by decide +kernel
theorem dX6_farOf_4 : decode cX6_farOf 4 = .ok (.iload_n 1, 1) := by decide +kernel
theorem dX6_farOf_5 : decode cX6_farOf 5 = .ok (.iaload, 1) := by decide +kernel
theorem dX6_farOf_6 : decode cX6_farOf 6 = .ok (.ifCond .ne 10, 3) := by decide +kernel
theorem dX6_farOf_9 : decode cX6_farOf 9 = .ok (.aload_n 0, 1) := by decide +kernel
theorem dX6_farOf_10 : decode cX6_farOf 10 = .ok (.getfield 107, 3) := by decide +kernel
theorem dX6_farOf_13 : decode cX6_farOf 13 = .ok (.goto 28, 3) := by decide +kernel
theorem dX6_farOf_16 : decode cX6_farOf 16 = .ok (.aload_n 0, 1) := by decide +kernel
theorem dX6_farOf_17 : decode cX6_farOf 17 = .ok (.getfield 25, 3) := by decide +kernel
theorem dX6_farOf_20 : decode cX6_farOf 20 = .ok (.iload_n 1, 1) := by decide +kernel
theorem dX6_farOf_21 : decode cX6_farOf 21 = .ok (.iaload, 1) := by decide +kernel
theorem dX6_farOf_22 : decode cX6_farOf 22 = .ok (.iconst 1, 1) := by decide +kernel
theorem dX6_farOf_23 : decode cX6_farOf 23 = .ok (.if_icmp .ne 12, 3) := by decide +kernel
theorem dX6_farOf_26 : decode cX6_farOf 26 = .ok (.aload_n 0, 1) := by decide +kernel
theorem dX6_farOf_27 : decode cX6_farOf 27 = .ok (.getfield 107, 3) := by decide +kernel
theorem dX6_farOf_30 : decode cX6_farOf 30 = .ok (.iconst 1, 1) := by decide +kernel
theorem dX6_farOf_31 : decode cX6_farOf 31 = .ok (.isub, 1) := by decide +kernel
theorem dX6_farOf_32 : decode cX6_farOf 32 = .ok (.goto 9, 3) := by decide +kernel
theorem dX6_farOf_35 : decode cX6_farOf 35 = .ok (.aload_n 0, 1) := by decide +kernel
theorem dX6_farOf_36 : decode cX6_farOf 36 = .ok (.getfield 107, 3) := by decide +kernel
theorem dX6_farOf_39 : decode cX6_farOf 39 = .ok (.iconst 2, 1) := by decide +kernel
theorem dX6_farOf_40 : decode cX6_farOf 40 = .ok (.idiv, 1) := by decide +kernel
theorem dX6_farOf_41 : decode cX6_farOf 41 = .ok (.ireturn, 1) := by decide +kernel
theorem dX6_ofPool_0 : decode cX6_ofPool 0 = .ok (.aload_n 0, 1) := by decide +kernel
theorem dX6_ofPool_1 : decode cX6_ofPool 1 = .ok (.iload_n 1, 1) := by decide +kernel
theorem dX6_ofPool_2 : decode cX6_ofPool 2 = .ok (.invokevirtual 145, 3) := by decide +kernel
theorem dX6_ofPool_5 : decode cX6_ofPool 5 = .ok (.ifCond .ne 5, 3) := by decide +kernel
theorem dX6_ofPool_8 : decode cX6_ofPool 8 = .ok (.iconst (-1), 1) := by decide +kernel
theorem dX6_ofPool_9 : decode cX6_ofPool 9 = .ok (.ireturn, 1) := by decide +kernel
theorem dX6_ofPool_10 : decode cX6_ofPool 10 = .ok (.iload_n 2, 1) := by decide +kernel
theorem dX6_ofPool_11 : decode cX6_ofPool 11 = .ok (.tableswitch 70 0 3 #[29, 36, 43, 49], 29) := by decide +kernel
theorem dX6_ofPool_40 : decode cX6_ofPool 40 = .ok (.aload_n 0, 1) := by decide +kernel
theorem dX6_ofPool_41 : decode cX6_ofPool 41 = .ok (.getfield 19, 3) := by decide +kernel
theorem dX6_ofPool_44 : decode cX6_ofPool 44 = .ok (.iload_n 1, 1) := by decide +kernel
theorem dX6_ofPool_45 : decode cX6_ofPool 45 = .ok (.iaload, 1) := by decide +kernel
theorem dX6_ofPool_46 : decode cX6_ofPool 46 = .ok (.ireturn, 1) := by decide +kernel
theorem dX6_ofPool_47 : decode cX6_ofPool 47 = .ok (.aload_n 0, 1) := by decide +kernel
theorem dX6_ofPool_48 : decode cX6_ofPool 48 = .ok (.getfield 22, 3) := by decide +kernel
theorem dX6_ofPool_51 : decode cX6_ofPool 51 = .ok (.iload_n 1, 1) := by decide +kernel
theorem dX6_ofPool_52 : decode cX6_ofPool 52 = .ok (.iaload, 1) := by decide +kernel
theorem dX6_ofPool_53 : decode cX6_ofPool 53 = .ok (.ireturn, 1) := by decide +kernel
theorem dX6_ofPool_54 : decode cX6_ofPool 54 = .ok (.aload_n 0, 1) := by decide +kernel
theorem dX6_ofPool_55 : decode cX6_ofPool 55 = .ok (.iload_n 1, 1) := by decide +kernel
theorem dX6_ofPool_56 : decode cX6_ofPool 56 = .ok (.invokevirtual 148, 3) := by decide +kernel
theorem dX6_ofPool_59 : decode cX6_ofPool 59 = .ok (.ireturn, 1) := by decide +kernel
theorem dX6_ofPool_60 : decode cX6_ofPool 60 = .ok (.bipush 6, 2) := by decide +kernel
theorem dX6_ofPool_62 : decode cX6_ofPool 62 = .ok (.aload_n 0, 1) := by decide +kernel
theorem dX6_ofPool_63 : decode cX6_ofPool 63 = .ok (.getfield 22, 3) := by decide +kernel
theorem dX6_ofPool_66 : decode cX6_ofPool 66 = .ok (.iload_n 1, 1) := by decide +kernel
theorem dX6_ofPool_67 : decode cX6_ofPool 67 = .ok (.iaload, 1) := by decide +kernel
theorem dX6_ofPool_68 : decode cX6_ofPool 68 = .ok (.imul, 1) := by decide +kernel
theorem dX6_ofPool_69 : decode cX6_ofPool 69 = .ok (.aload_n 0, 1) := by decide +kernel
theorem dX6_ofPool_70 : decode cX6_ofPool 70 = .ok (.iload_n 1, 1) := by decide +kernel
theorem dX6_ofPool_71 : decode cX6_ofPool 71 = .ok (.invokevirtual 148, 3) := by decide +kernel
theorem dX6_ofPool_74 : decode cX6_ofPool 74 = .ok (.invokestatic 151, 3) := by decide +kernel
theorem dX6_ofPool_77 : decode cX6_ofPool 77 = .ok (.iconst 1, 1) := by decide +kernel
theorem dX6_ofPool_78 : decode cX6_ofPool 78 = .ok (.iadd, 1) := by decide +kernel
theorem dX6_ofPool_79 : decode cX6_ofPool 79 = .ok (.idiv, 1) := by decide +kernel
theorem dX6_ofPool_80 : decode cX6_ofPool 80 = .ok (.ireturn, 1) := by decide +kernel
theorem dX6_ofPool_81 : decode cX6_ofPool 81 = .ok (.bipush (-2), 2) := by decide +kernel
theorem dX6_ofPool_83 : decode cX6_ofPool 83 = .ok (.ireturn, 1) := by decide +kernel
theorem dX6_ofMember_0 : decode cX6_ofMember 0 = .ok (.aload_n 0, 1) := by decide +kernel
theorem dX6_ofMember_1 : decode cX6_ofMember 1 = .ok (.iload_n 1, 1) := by decide +kernel
theorem dX6_ofMember_2 : decode cX6_ofMember 2 = .ok (.invokevirtual 154, 3) := by decide +kernel
theorem dX6_ofMember_5 : decode cX6_ofMember 5 = .ok (.ifCond .ne 5, 3) := by decide +kernel
theorem dX6_ofMember_8 : decode cX6_ofMember 8 = .ok (.iconst (-1), 1) := by decide +kernel
theorem dX6_ofMember_9 : decode cX6_ofMember 9 = .ok (.ireturn, 1) := by decide +kernel
theorem dX6_ofMember_10 : decode cX6_ofMember 10 = .ok (.iload_n 2, 1) := by decide +kernel
theorem dX6_ofMember_11 : decode cX6_ofMember 11 = .ok (.ifCond .ne 12, 3) := by decide +kernel
theorem dX6_ofMember_14 : decode cX6_ofMember 14 = .ok (.aload_n 0, 1) := by decide +kernel
theorem dX6_ofMember_15 : decode cX6_ofMember 15 = .ok (.getfield 25, 3) := by decide +kernel
theorem dX6_ofMember_18 : decode cX6_ofMember 18 = .ok (.iload_n 1, 1) := by decide +kernel
theorem dX6_ofMember_19 : decode cX6_ofMember 19 = .ok (.iaload, 1) := by decide +kernel
theorem dX6_ofMember_20 : decode cX6_ofMember 20 = .ok (.goto 46, 3) := by decide +kernel
theorem dX6_ofMember_23 : decode cX6_ofMember 23 = .ok (.iload_n 2, 1) := by decide +kernel
theorem dX6_ofMember_24 : decode cX6_ofMember 24 = .ok (.iconst 1, 1) := by decide +kernel
theorem dX6_ofMember_25 : decode cX6_ofMember 25 = .ok (.if_icmp .ne 12, 3) := by decide +kernel
theorem dX6_ofMember_28 : decode cX6_ofMember 28 = .ok (.aload_n 0, 1) := by decide +kernel
theorem dX6_ofMember_29 : decode cX6_ofMember 29 = .ok (.getfield 28, 3) := by decide +kernel
theorem dX6_ofMember_32 : decode cX6_ofMember 32 = .ok (.iload_n 1, 1) := by decide +kernel
theorem dX6_ofMember_33 : decode cX6_ofMember 33 = .ok (.iaload, 1) := by decide +kernel
theorem dX6_ofMember_34 : decode cX6_ofMember 34 = .ok (.goto 32, 3) := by decide +kernel
theorem dX6_ofMember_37 : decode cX6_ofMember 37 = .ok (.iload_n 2, 1) := by decide +kernel
theorem dX6_ofMember_38 : decode cX6_ofMember 38 = .ok (.iconst 2, 1) := by decide +kernel
theorem dX6_ofMember_39 : decode cX6_ofMember 39 = .ok (.if_icmp .ne 12, 3) := by decide +kernel
theorem dX6_ofMember_42 : decode cX6_ofMember 42 = .ok (.aload_n 0, 1) := by decide +kernel
theorem dX6_ofMember_43 : decode cX6_ofMember 43 = .ok (.getfield 31, 3) := by decide +kernel
theorem dX6_ofMember_46 : decode cX6_ofMember 46 = .ok (.iload_n 1, 1) := by decide +kernel
theorem dX6_ofMember_47 : decode cX6_ofMember 47 = .ok (.iaload, 1) := by decide +kernel
theorem dX6_ofMember_48 : decode cX6_ofMember 48 = .ok (.goto 18, 3) := by decide +kernel
theorem dX6_ofMember_51 : decode cX6_ofMember 51 = .ok (.iload_n 2, 1) := by decide +kernel
theorem dX6_ofMember_52 : decode cX6_ofMember 52 = .ok (.iconst 3, 1) := by decide +kernel
theorem dX6_ofMember_53 : decode cX6_ofMember 53 = .ok (.if_icmp .ne 11, 3) := by decide +kernel
theorem dX6_ofMember_56 : decode cX6_ofMember 56 = .ok (.aload_n 0, 1) := by decide +kernel
theorem dX6_ofMember_57 : decode cX6_ofMember 57 = .ok (.iload_n 1, 1) := by decide +kernel
theorem dX6_ofMember_58 : decode cX6_ofMember 58 = .ok (.invokevirtual 157, 3) := by decide +kernel
theorem dX6_ofMember_61 : decode cX6_ofMember 61 = .ok (.goto 5, 3) := by decide +kernel
theorem dX6_ofMember_64 : decode cX6_ofMember 64 = .ok (.bipush (-2), 2) := by decide +kernel
theorem dX6_ofMember_66 : decode cX6_ofMember 66 = .ok (.ireturn, 1) := by decide +kernel
theorem dX6_raise_0 : decode cX6_raise 0 = .ok (.aload_n 0, 1) := by decide +kernel
theorem dX6_raise_1 : decode cX6_raise 1 = .ok (.iload_n 1, 1) := by decide +kernel
theorem dX6_raise_2 : decode cX6_raise 2 = .ok (.invokevirtual 145, 3) := by decide +kernel
theorem dX6_raise_5 : decode cX6_raise 5 = .ok (.ifCond .ne 5, 3) := by decide +kernel
theorem dX6_raise_8 : decode cX6_raise 8 = .ok (.iconst (-1), 1) := by decide +kernel
theorem dX6_raise_9 : decode cX6_raise 9 = .ok (.ireturn, 1) := by decide +kernel
theorem dX6_raise_10 : decode cX6_raise 10 = .ok (.iload_n 2, 1) := by decide +kernel
theorem dX6_raise_11 : decode cX6_raise 11 = .ok (.iconst 1, 1) := by decide +kernel
theorem dX6_raise_12 : decode cX6_raise 12 = .ok (.bipush 9, 2) := by decide +kernel
theorem dX6_raise_14 : decode cX6_raise 14 = .ok (.invokestatic 70, 3) := by decide +kernel
theorem dX6_raise_17 : decode cX6_raise 17 = .ok (.ifCond .ne 6, 3) := by decide +kernel
theorem dX6_raise_20 : decode cX6_raise 20 = .ok (.bipush (-2), 2) := by decide +kernel
theorem dX6_raise_22 : decode cX6_raise 22 = .ok (.ireturn, 1) := by decide +kernel
theorem dX6_raise_23 : decode cX6_raise 23 = .ok (.aload_n 0, 1) := by decide +kernel
theorem dX6_raise_24 : decode cX6_raise 24 = .ok (.getfield 19, 3) := by decide +kernel
theorem dX6_raise_27 : decode cX6_raise 27 = .ok (.iload_n 1, 1) := by decide +kernel
theorem dX6_raise_28 : decode cX6_raise 28 = .ok (.iaload, 1) := by decide +kernel
theorem dX6_raise_29 : decode cX6_raise 29 = .ok (.istore_n 3, 1) := by decide +kernel
theorem dX6_raise_30 : decode cX6_raise 30 = .ok (.aload_n 0, 1) := by decide +kernel
theorem dX6_raise_31 : decode cX6_raise 31 = .ok (.getfield 19, 3) := by decide +kernel
theorem dX6_raise_34 : decode cX6_raise 34 = .ok (.iload_n 1, 1) := by decide +kernel
theorem dX6_raise_35 : decode cX6_raise 35 = .ok (.iload_n 2, 1) := by decide +kernel
theorem dX6_raise_36 : decode cX6_raise 36 = .ok (.iastore, 1) := by decide +kernel
theorem dX6_raise_37 : decode cX6_raise 37 = .ok (.iload_n 3, 1) := by decide +kernel
theorem dX6_raise_38 : decode cX6_raise 38 = .ok (.ireturn, 1) := by decide +kernel
theorem dX6_sway_0 : decode cX6_sway 0 = .ok (.aload_n 0, 1) := by decide +kernel
theorem dX6_sway_1 : decode cX6_sway 1 = .ok (.iload_n 1, 1) := by decide +kernel
theorem dX6_sway_2 : decode cX6_sway 2 = .ok (.invokevirtual 154, 3) := by decide +kernel
theorem dX6_sway_5 : decode cX6_sway 5 = .ok (.ifCond .ne 5, 3) := by decide +kernel
theorem dX6_sway_8 : decode cX6_sway 8 = .ok (.iconst (-1), 1) := by decide +kernel
theorem dX6_sway_9 : decode cX6_sway 9 = .ok (.ireturn, 1) := by decide +kernel
theorem dX6_sway_10 : decode cX6_sway 10 = .ok (.iload_n 2, 1) := by decide +kernel
theorem dX6_sway_11 : decode cX6_sway 11 = .ok (.invokestatic 160, 3) := by decide +kernel
theorem dX6_sway_14 : decode cX6_sway 14 = .ok (.ifCond .ne 6, 3) := by decide +kernel
theorem dX6_sway_17 : decode cX6_sway 17 = .ok (.bipush (-2), 2) := by decide +kernel
theorem dX6_sway_19 : decode cX6_sway 19 = .ok (.ireturn, 1) := by decide +kernel
theorem dX6_sway_20 : decode cX6_sway 20 = .ok (.aload_n 0, 1) := by decide +kernel
theorem dX6_sway_21 : decode cX6_sway 21 = .ok (.getfield 31, 3) := by decide +kernel
theorem dX6_sway_24 : decode cX6_sway 24 = .ok (.iload_n 1, 1) := by decide +kernel
theorem dX6_sway_25 : decode cX6_sway 25 = .ok (.iaload, 1) := by decide +kernel
theorem dX6_sway_26 : decode cX6_sway 26 = .ok (.istore_n 3, 1) := by decide +kernel
theorem dX6_sway_27 : decode cX6_sway 27 = .ok (.aload_n 0, 1) := by decide +kernel
theorem dX6_sway_28 : decode cX6_sway 28 = .ok (.getfield 31, 3) := by decide +kernel
theorem dX6_sway_31 : decode cX6_sway 31 = .ok (.iload_n 1, 1) := by decide +kernel
theorem dX6_sway_32 : decode cX6_sway 32 = .ok (.iload_n 2, 1) := by decide +kernel
theorem dX6_sway_33 : decode cX6_sway 33 = .ok (.iastore, 1) := by decide +kernel
theorem dX6_sway_34 : decode cX6_sway 34 = .ok (.iload_n 3, 1) := by decide +kernel
theorem dX6_sway_35 : decode cX6_sway 35 = .ok (.ireturn, 1) := by decide +kernel
theorem dX6_seat_0 : decode cX6_seat 0 = .ok (.aload_n 0, 1) := by decide +kernel
theorem dX6_seat_1 : decode cX6_seat 1 = .ok (.iload_n 1, 1) := by decide +kernel
theorem dX6_seat_2 : decode cX6_seat 2 = .ok (.invokevirtual 154, 3) := by decide +kernel
theorem dX6_seat_5 : decode cX6_seat 5 = .ok (.ifCond .eq 11, 3) := by decide +kernel
theorem dX6_seat_8 : decode cX6_seat 8 = .ok (.aload_n 0, 1) := by decide +kernel
theorem dX6_seat_9 : decode cX6_seat 9 = .ok (.iload_n 2, 1) := by decide +kernel
theorem dX6_seat_10 : decode cX6_seat 10 = .ok (.invokevirtual 145, 3) := by decide +kernel
theorem dX6_seat_13 : decode cX6_seat 13 = .ok (.ifCond .ne 5, 3) := by decide +kernel
theorem dX6_seat_16 : decode cX6_seat 16 = .ok (.iconst (-1), 1) := by decide +kernel
theorem dX6_seat_17 : decode cX6_seat 17 = .ok (.ireturn, 1) := by decide +kernel
theorem dX6_seat_18 : decode cX6_seat 18 = .ok (.aload_n 0, 1) := by decide +kernel
theorem dX6_seat_19 : decode cX6_seat 19 = .ok (.getfield 28, 3) := by decide +kernel
theorem dX6_seat_22 : decode cX6_seat 22 = .ok (.iload_n 1, 1) := by decide +kernel
theorem dX6_seat_23 : decode cX6_seat 23 = .ok (.iaload, 1) := by decide +kernel
theorem dX6_seat_24 : decode cX6_seat 24 = .ok (.istore_n 3, 1) := by decide +kernel
theorem dX6_seat_25 : decode cX6_seat 25 = .ok (.aload_n 0, 1) := by decide +kernel
theorem dX6_seat_26 : decode cX6_seat 26 = .ok (.getfield 28, 3) := by decide +kernel
theorem dX6_seat_29 : decode cX6_seat 29 = .ok (.iload_n 1, 1) := by decide +kernel
theorem dX6_seat_30 : decode cX6_seat 30 = .ok (.iload_n 2, 1) := by decide +kernel
theorem dX6_seat_31 : decode cX6_seat 31 = .ok (.iastore, 1) := by decide +kernel
theorem dX6_seat_32 : decode cX6_seat 32 = .ok (.iload_n 3, 1) := by decide +kernel
theorem dX6_seat_33 : decode cX6_seat 33 = .ok (.ireturn, 1) := by decide +kernel
theorem dX6_flow_0 : decode cX6_flow 0 = .ok (.iload_n 1, 1) := by decide +kernel
theorem dX6_flow_1 : decode cX6_flow 1 = .ok (.iconst 1, 1) := by decide +kernel
theorem dX6_flow_2 : decode cX6_flow 2 = .ok (.iconst 3, 1) := by decide +kernel
theorem dX6_flow_3 : decode cX6_flow 3 = .ok (.invokestatic 70, 3) := by decide +kernel
theorem dX6_flow_6 : decode cX6_flow 6 = .ok (.ifCond .ne 6, 3) := by decide +kernel
theorem dX6_flow_9 : decode cX6_flow 9 = .ok (.bipush (-2), 2) := by decide +kernel
theorem dX6_flow_11 : decode cX6_flow 11 = .ok (.ireturn, 1) := by decide +kernel
theorem dX6_flow_12 : decode cX6_flow 12 = .ok (.aload_n 0, 1) := by decide +kernel
theorem dX6_flow_13 : decode cX6_flow 13 = .ok (.getfield 74, 3) := by decide +kernel
theorem dX6_flow_16 : decode cX6_flow 16 = .ok (.ifCond .ne 6, 3) := by decide +kernel
theorem dX6_flow_19 : decode cX6_flow 19 = .ok (.bipush (-3), 2) := by decide +kernel
theorem dX6_flow_21 : decode cX6_flow 21 = .ok (.ireturn, 1) := by decide +kernel
theorem dX6_flow_22 : decode cX6_flow 22 = .ok (.aload_n 0, 1) := by decide +kernel
theorem dX6_flow_23 : decode cX6_flow 23 = .ok (.getfield 107, 3) := by decide +kernel
theorem dX6_flow_26 : decode cX6_flow 26 = .ok (.istore_n 2, 1) := by decide +kernel
theorem dX6_flow_27 : decode cX6_flow 27 = .ok (.aload_n 0, 1) := by decide +kernel
theorem dX6_flow_28 : decode cX6_flow 28 = .ok (.iload_n 1, 1) := by decide +kernel
theorem dX6_flow_29 : decode cX6_flow 29 = .ok (.putfield 107, 3) := by decide +kernel
theorem dX6_flow_32 : decode cX6_flow 32 = .ok (.iload_n 2, 1) := by decide +kernel
theorem dX6_flow_33 : decode cX6_flow 33 = .ok (.ireturn, 1) := by decide +kernel
theorem dX6_calm_0 : decode cX6_calm 0 = .ok (.iload_n 1, 1) := by decide +kernel
theorem dX6_calm_1 : decode cX6_calm 1 = .ok (.invokestatic 160, 3) := by decide +kernel
theorem dX6_calm_4 : decode cX6_calm 4 = .ok (.ifCond .ne 6, 3) := by decide +kernel
theorem dX6_calm_7 : decode cX6_calm 7 = .ok (.bipush (-2), 2) := by decide +kernel
theorem dX6_calm_9 : decode cX6_calm 9 = .ok (.ireturn, 1) := by decide +kernel
theorem dX6_calm_10 : decode cX6_calm 10 = .ok (.aload_n 0, 1) := by decide +kernel
theorem dX6_calm_11 : decode cX6_calm 11 = .ok (.getfield 74, 3) := by decide +kernel
theorem dX6_calm_14 : decode cX6_calm 14 = .ok (.ifCond .ne 6, 3) := by decide +kernel
theorem dX6_calm_17 : decode cX6_calm 17 = .ok (.bipush (-3), 2) := by decide +kernel
theorem dX6_calm_19 : decode cX6_calm 19 = .ok (.ireturn, 1) := by decide +kernel
theorem dX6_calm_20 : decode cX6_calm 20 = .ok (.aload_n 0, 1) := by decide +kernel
theorem dX6_calm_21 : decode cX6_calm 21 = .ok (.getfield 113, 3) := by decide +kernel
theorem dX6_calm_24 : decode cX6_calm 24 = .ok (.istore_n 2, 1) := by decide +kernel
theorem dX6_calm_25 : decode cX6_calm 25 = .ok (.aload_n 0, 1) := by decide +kernel
theorem dX6_calm_26 : decode cX6_calm 26 = .ok (.iload_n 1, 1) := by decide +kernel
theorem dX6_calm_27 : decode cX6_calm 27 = .ok (.putfield 113, 3) := by decide +kernel
theorem dX6_calm_30 : decode cX6_calm 30 = .ok (.iload_n 2, 1) := by decide +kernel
theorem dX6_calm_31 : decode cX6_calm 31 = .ok (.ireturn, 1) := by decide +kernel
theorem dX6_leap_0 : decode cX6_leap 0 = .ok (.iload_n 1, 1) := by decide +kernel
theorem dX6_leap_1 : decode cX6_leap 1 = .ok (.invokestatic 160, 3) := by decide +kernel
theorem dX6_leap_4 : decode cX6_leap 4 = .ok (.ifCond .ne 6, 3) := by decide +kernel
theorem dX6_leap_7 : decode cX6_leap 7 = .ok (.bipush (-2), 2) := by decide +kernel
theorem dX6_leap_9 : decode cX6_leap 9 = .ok (.ireturn, 1) := by decide +kernel
theorem dX6_leap_10 : decode cX6_leap 10 = .ok (.aload_n 0, 1) := by decide +kernel
theorem dX6_leap_11 : decode cX6_leap 11 = .ok (.getfield 74, 3) := by decide +kernel
theorem dX6_leap_14 : decode cX6_leap 14 = .ok (.ifCond .ne 6, 3) := by decide +kernel
theorem dX6_leap_17 : decode cX6_leap 17 = .ok (.bipush (-3), 2) := by decide +kernel
theorem dX6_leap_19 : decode cX6_leap 19 = .ok (.ireturn, 1) := by decide +kernel
theorem dX6_leap_20 : decode cX6_leap 20 = .ok (.aload_n 0, 1) := by decide +kernel
theorem dX6_leap_21 : decode cX6_leap 21 = .ok (.getfield 119, 3) := by decide +kernel
theorem dX6_leap_24 : decode cX6_leap 24 = .ok (.istore_n 2, 1) := by decide +kernel
theorem dX6_leap_25 : decode cX6_leap 25 = .ok (.aload_n 0, 1) := by decide +kernel
theorem dX6_leap_26 : decode cX6_leap 26 = .ok (.iload_n 1, 1) := by decide +kernel
theorem dX6_leap_27 : decode cX6_leap 27 = .ok (.putfield 119, 3) := by decide +kernel
theorem dX6_leap_30 : decode cX6_leap 30 = .ok (.iload_n 2, 1) := by decide +kernel
theorem dX6_leap_31 : decode cX6_leap 31 = .ok (.ireturn, 1) := by decide +kernel
theorem dX6_washedBy_0 : decode cX6_washedBy 0 = .ok (.iconst 0, 1) := by decide +kernel
theorem dX6_washedBy_1 : decode cX6_washedBy 1 = .ok (.istore_n 2, 1) := by decide +kernel
theorem dX6_washedBy_2 : decode cX6_washedBy 2 = .ok (.iconst 0, 1) := by decide +kernel
theorem dX6_washedBy_3 : decode cX6_washedBy 3 = .ok (.istore_n 3, 1) := by decide +kernel
theorem dX6_washedBy_4 : decode cX6_washedBy 4 = .ok (.iload_n 3, 1) := by decide +kernel
theorem dX6_washedBy_5 : decode cX6_washedBy 5 = .ok (.aload_n 0, 1) := by decide +kernel
theorem dX6_washedBy_6 : decode cX6_washedBy 6 = .ok (.getfield 74, 3) := by decide +kernel
theorem dX6_washedBy_9 : decode cX6_washedBy 9 = .ok (.if_icmp .ge 29, 3) := by decide +kernel
theorem dX6_washedBy_12 : decode cX6_washedBy 12 = .ok (.iload_n 2, 1) := by decide +kernel
theorem dX6_washedBy_13 : decode cX6_washedBy 13 = .ok (.aload_n 0, 1) := by decide +kernel
theorem dX6_washedBy_14 : decode cX6_washedBy 14 = .ok (.getfield 19, 3) := by decide +kernel
theorem dX6_washedBy_17 : decode cX6_washedBy 17 = .ok (.iload_n 3, 1) := by decide +kernel
theorem dX6_washedBy_18 : decode cX6_washedBy 18 = .ok (.iaload, 1) := by decide +kernel
theorem dX6_washedBy_19 : decode cX6_washedBy 19 = .ok (.iload_n 1, 1) := by decide +kernel
theorem dX6_washedBy_20 : decode cX6_washedBy 20 = .ok (.if_icmp .ge 9, 3) := by decide +kernel
theorem dX6_washedBy_23 : decode cX6_washedBy 23 = .ok (.iconst 1, 1) := by decide +kernel
theorem dX6_washedBy_24 : decode cX6_washedBy 24 = .ok (.iload_n 3, 1) := by decide +kernel
theorem dX6_washedBy_25 : decode cX6_washedBy 25 = .ok (.ishl, 1) := by decide +kernel
theorem dX6_washedBy_26 : decode cX6_washedBy 26 = .ok (.goto 4, 3) := by decide +kernel
theorem dX6_washedBy_29 : decode cX6_washedBy 29 = .ok (.iconst 0, 1) := by decide +kernel
theorem dX6_washedBy_30 : decode cX6_washedBy 30 = .ok (.ior, 1) := by decide +kernel
theorem dX6_washedBy_31 : decode cX6_washedBy 31 = .ok (.istore_n 2, 1) := by decide +kernel
theorem dX6_washedBy_32 : decode cX6_washedBy 32 = .ok (.iinc 3 1, 3) := by decide +kernel
theorem dX6_washedBy_35 : decode cX6_washedBy 35 = .ok (.goto (-31), 3) := by decide +kernel
theorem dX6_washedBy_38 : decode cX6_washedBy 38 = .ok (.iload_n 2, 1) := by decide +kernel
theorem dX6_washedBy_39 : decode cX6_washedBy 39 = .ok (.ireturn, 1) := by decide +kernel
theorem dX6_carriedFrom_0 : decode cX6_carriedFrom 0 = .ok (.aload_n 0, 1) := by decide +kernel
theorem dX6_carriedFrom_1 : decode cX6_carriedFrom 1 = .ok (.getfield 19, 3) := by decide +kernel
theorem dX6_carriedFrom_4 : decode cX6_carriedFrom 4 = .ok (.iload_n 1, 1) := by decide +kernel
theorem dX6_carriedFrom_5 : decode cX6_carriedFrom 5 = .ok (.iaload, 1) := by decide +kernel
theorem dX6_carriedFrom_6 : decode cX6_carriedFrom 6 = .ok (.iload_n 3, 1) := by decide +kernel
theorem dX6_carriedFrom_7 : decode cX6_carriedFrom 7 = .ok (.if_icmp .lt 5, 3) := by decide +kernel
theorem dX6_carriedFrom_10 : decode cX6_carriedFrom 10 = .ok (.iload_n 1, 1) := by decide +kernel
theorem dX6_carriedFrom_11 : decode cX6_carriedFrom 11 = .ok (.ireturn, 1) := by decide +kernel
theorem dX6_carriedFrom_12 : decode cX6_carriedFrom 12 = .ok (.iload_n 1, 1) := by decide +kernel
theorem dX6_carriedFrom_13 : decode cX6_carriedFrom 13 = .ok (.istore 4, 2) := by decide +kernel
theorem dX6_carriedFrom_15 : decode cX6_carriedFrom 15 = .ok (.iconst 0, 1) := by decide +kernel
theorem dX6_carriedFrom_16 : decode cX6_carriedFrom 16 = .ok (.istore 5, 2) := by decide +kernel
theorem dX6_carriedFrom_18 : decode cX6_carriedFrom 18 = .ok (.iload 5, 2) := by decide +kernel
theorem dX6_carriedFrom_20 : decode cX6_carriedFrom 20 = .ok (.iload_n 2, 1) := by decide +kernel
theorem dX6_carriedFrom_21 : decode cX6_carriedFrom 21 = .ok (.if_icmp .ge 45, 3) := by decide +kernel
theorem dX6_carriedFrom_24 : decode cX6_carriedFrom 24 = .ok (.iload 4, 2) := by decide +kernel
theorem dX6_carriedFrom_26 : decode cX6_carriedFrom 26 = .ok (.iconst 1, 1) := by decide +kernel
theorem dX6_carriedFrom_27 : decode cX6_carriedFrom 27 = .ok (.iadd, 1) := by decide +kernel
theorem dX6_carriedFrom_28 : decode cX6_carriedFrom 28 = .ok (.aload_n 0, 1) := by decide +kernel
theorem dX6_carriedFrom_29 : decode cX6_carriedFrom 29 = .ok (.getfield 74, 3) := by decide +kernel
theorem dX6_carriedFrom_32 : decode cX6_carriedFrom 32 = .ok (.irem, 1) := by decide +kernel
theorem dX6_carriedFrom_33 : decode cX6_carriedFrom 33 = .ok (.istore 4, 2) := by decide +kernel
theorem dX6_carriedFrom_35 : decode cX6_carriedFrom 35 = .ok (.aload_n 0, 1) := by decide +kernel
theorem dX6_carriedFrom_36 : decode cX6_carriedFrom 36 = .ok (.getfield 19, 3) := by decide +kernel
theorem dX6_carriedFrom_39 : decode cX6_carriedFrom 39 = .ok (.iload 4, 2) := by decide +kernel
theorem dX6_carriedFrom_41 : decode cX6_carriedFrom 41 = .ok (.iaload, 1) := by decide +kernel
theorem dX6_carriedFrom_42 : decode cX6_carriedFrom 42 = .ok (.iload_n 3, 1) := by decide +kernel
theorem dX6_carriedFrom_43 : decode cX6_carriedFrom 43 = .ok (.if_icmp .lt 17, 3) := by decide +kernel
theorem dX6_carriedFrom_46 : decode cX6_carriedFrom 46 = .ok (.iload 4, 2) := by decide +kernel
theorem dX6_carriedFrom_48 : decode cX6_carriedFrom 48 = .ok (.iconst 1, 1) := by decide +kernel
theorem dX6_carriedFrom_49 : decode cX6_carriedFrom 49 = .ok (.iadd, 1) := by decide +kernel
theorem dX6_carriedFrom_50 : decode cX6_carriedFrom 50 = .ok (.aload_n 0, 1) := by decide +kernel
theorem dX6_carriedFrom_51 : decode cX6_carriedFrom 51 = .ok (.getfield 74, 3) := by decide +kernel
theorem dX6_carriedFrom_54 : decode cX6_carriedFrom 54 = .ok (.irem, 1) := by decide +kernel
theorem dX6_carriedFrom_55 : decode cX6_carriedFrom 55 = .ok (.istore 4, 2) := by decide +kernel
theorem dX6_carriedFrom_57 : decode cX6_carriedFrom 57 = .ok (.goto (-22), 3) := by decide +kernel
theorem dX6_carriedFrom_60 : decode cX6_carriedFrom 60 = .ok (.iinc 5 1, 3) := by decide +kernel
theorem dX6_carriedFrom_63 : decode cX6_carriedFrom 63 = .ok (.goto (-45), 3) := by decide +kernel
theorem dX6_carriedFrom_66 : decode cX6_carriedFrom 66 = .ok (.iload 4, 2) := by decide +kernel
theorem dX6_carriedFrom_68 : decode cX6_carriedFrom 68 = .ok (.ireturn, 1) := by decide +kernel
theorem dX6_washed_0 : decode cX6_washed 0 = .ok (.iload_n 1, 1) := by decide +kernel
theorem dX6_washed_1 : decode cX6_washed 1 = .ok (.invokestatic 160, 3) := by decide +kernel
theorem dX6_washed_4 : decode cX6_washed 4 = .ok (.ifCond .ne 6, 3) := by decide +kernel
theorem dX6_washed_7 : decode cX6_washed 7 = .ok (.bipush (-2), 2) := by decide +kernel
theorem dX6_washed_9 : decode cX6_washed 9 = .ok (.ireturn, 1) := by decide +kernel
theorem dX6_washed_10 : decode cX6_washed 10 = .ok (.aload_n 0, 1) := by decide +kernel
theorem dX6_washed_11 : decode cX6_washed 11 = .ok (.getfield 74, 3) := by decide +kernel
theorem dX6_washed_14 : decode cX6_washed 14 = .ok (.ifCond .ne 8, 3) := by decide +kernel
theorem dX6_washed_17 : decode cX6_washed 17 = .ok (.bipush (-3), 2) := by decide +kernel
theorem dX6_washed_19 : decode cX6_washed 19 = .ok (.goto 8, 3) := by decide +kernel
theorem dX6_washed_22 : decode cX6_washed 22 = .ok (.aload_n 0, 1) := by decide +kernel
theorem dX6_washed_23 : decode cX6_washed 23 = .ok (.iload_n 1, 1) := by decide +kernel
theorem dX6_washed_24 : decode cX6_washed 24 = .ok (.invokevirtual 163, 3) := by decide +kernel
theorem dX6_washed_27 : decode cX6_washed 27 = .ok (.ireturn, 1) := by decide +kernel
theorem dX6_carried_0 : decode cX6_carried 0 = .ok (.aload_n 0, 1) := by decide +kernel
theorem dX6_carried_1 : decode cX6_carried 1 = .ok (.iload_n 1, 1) := by decide +kernel
theorem dX6_carried_2 : decode cX6_carried 2 = .ok (.invokevirtual 154, 3) := by decide +kernel
theorem dX6_carried_5 : decode cX6_carried 5 = .ok (.ifCond .ne 5, 3) := by decide +kernel
theorem dX6_carried_8 : decode cX6_carried 8 = .ok (.iconst (-1), 1) := by decide +kernel
theorem dX6_carried_9 : decode cX6_carried 9 = .ok (.ireturn, 1) := by decide +kernel
theorem dX6_carried_10 : decode cX6_carried 10 = .ok (.iload_n 2, 1) := by decide +kernel
theorem dX6_carried_11 : decode cX6_carried 11 = .ok (.invokestatic 160, 3) := by decide +kernel
theorem dX6_carried_14 : decode cX6_carried 14 = .ok (.ifCond .eq 22, 3) := by decide +kernel
theorem dX6_carried_17 : decode cX6_carried 17 = .ok (.aload_n 0, 1) := by decide +kernel
theorem dX6_carried_18 : decode cX6_carried 18 = .ok (.aload_n 0, 1) := by decide +kernel
theorem dX6_carried_19 : decode cX6_carried 19 = .ok (.getfield 28, 3) := by decide +kernel
theorem dX6_carried_22 : decode cX6_carried 22 = .ok (.iload_n 1, 1) := by decide +kernel
theorem dX6_carried_23 : decode cX6_carried 23 = .ok (.iaload, 1) := by decide +kernel
theorem dX6_carried_24 : decode cX6_carried 24 = .ok (.aload_n 0, 1) := by decide +kernel
theorem dX6_carried_25 : decode cX6_carried 25 = .ok (.iload_n 1, 1) := by decide +kernel
theorem dX6_carried_26 : decode cX6_carried 26 = .ok (.invokevirtual 157, 3) := by decide +kernel
theorem dX6_carried_29 : decode cX6_carried 29 = .ok (.iload_n 2, 1) := by decide +kernel
theorem dX6_carried_30 : decode cX6_carried 30 = .ok (.invokevirtual 166, 3) := by decide +kernel
theorem dX6_carried_33 : decode cX6_carried 33 = .ok (.goto 5, 3) := by decide +kernel
theorem dX6_carried_36 : decode cX6_carried 36 = .ok (.bipush (-2), 2) := by decide +kernel
theorem dX6_carried_38 : decode cX6_carried 38 = .ok (.ireturn, 1) := by decide +kernel
theorem dX6_carryAll_0 : decode cX6_carryAll 0 = .ok (.iconst 0, 1) := by decide +kernel
theorem dX6_carryAll_1 : decode cX6_carryAll 1 = .ok (.istore_n 2, 1) := by decide +kernel
theorem dX6_carryAll_2 : decode cX6_carryAll 2 = .ok (.iconst 0, 1) := by decide +kernel
theorem dX6_carryAll_3 : decode cX6_carryAll 3 = .ok (.istore_n 3, 1) := by decide +kernel
theorem dX6_carryAll_4 : decode cX6_carryAll 4 = .ok (.iload_n 3, 1) := by decide +kernel
theorem dX6_carryAll_5 : decode cX6_carryAll 5 = .ok (.aload_n 0, 1) := by decide +kernel
theorem dX6_carryAll_6 : decode cX6_carryAll 6 = .ok (.getfield 77, 3) := by decide +kernel
theorem dX6_carryAll_9 : decode cX6_carryAll 9 = .ok (.if_icmp .ge 54, 3) := by decide +kernel
theorem dX6_carryAll_12 : decode cX6_carryAll 12 = .ok (.aload_n 0, 1) := by decide +kernel
theorem dX6_carryAll_13 : decode cX6_carryAll 13 = .ok (.aload_n 0, 1) := by decide +kernel
theorem dX6_carryAll_14 : decode cX6_carryAll 14 = .ok (.getfield 28, 3) := by decide +kernel
theorem dX6_carryAll_17 : decode cX6_carryAll 17 = .ok (.iload_n 3, 1) := by decide +kernel
theorem dX6_carryAll_18 : decode cX6_carryAll 18 = .ok (.iaload, 1) := by decide +kernel
theorem dX6_carryAll_19 : decode cX6_carryAll 19 = .ok (.aload_n 0, 1) := by decide +kernel
theorem dX6_carryAll_20 : decode cX6_carryAll 20 = .ok (.iload_n 3, 1) := by decide +kernel
theorem dX6_carryAll_21 : decode cX6_carryAll 21 = .ok (.invokevirtual 157, 3) := by decide +kernel
theorem dX6_carryAll_24 : decode cX6_carryAll 24 = .ok (.iload_n 1, 1) := by decide +kernel
theorem dX6_carryAll_25 : decode cX6_carryAll 25 = .ok (.invokevirtual 166, 3) := by decide +kernel
theorem dX6_carryAll_28 : decode cX6_carryAll 28 = .ok (.istore 4, 2) := by decide +kernel
theorem dX6_carryAll_30 : decode cX6_carryAll 30 = .ok (.iload_n 2, 1) := by decide +kernel
theorem dX6_carryAll_31 : decode cX6_carryAll 31 = .ok (.iload 4, 2) := by decide +kernel
theorem dX6_carryAll_33 : decode cX6_carryAll 33 = .ok (.aload_n 0, 1) := by decide +kernel
theorem dX6_carryAll_34 : decode cX6_carryAll 34 = .ok (.getfield 28, 3) := by decide +kernel
theorem dX6_carryAll_37 : decode cX6_carryAll 37 = .ok (.iload_n 3, 1) := by decide +kernel
theorem dX6_carryAll_38 : decode cX6_carryAll 38 = .ok (.iaload, 1) := by decide +kernel
theorem dX6_carryAll_39 : decode cX6_carryAll 39 = .ok (.if_icmp .ne 7, 3) := by decide +kernel
theorem dX6_carryAll_42 : decode cX6_carryAll 42 = .ok (.iconst 0, 1) := by decide +kernel
theorem dX6_carryAll_43 : decode cX6_carryAll 43 = .ok (.goto 4, 3) := by decide +kernel
theorem dX6_carryAll_46 : decode cX6_carryAll 46 = .ok (.iconst 1, 1) := by decide +kernel
theorem dX6_carryAll_47 : decode cX6_carryAll 47 = .ok (.iadd, 1) := by decide +kernel
theorem dX6_carryAll_48 : decode cX6_carryAll 48 = .ok (.istore_n 2, 1) := by decide +kernel
theorem dX6_carryAll_49 : decode cX6_carryAll 49 = .ok (.aload_n 0, 1) := by decide +kernel
theorem dX6_carryAll_50 : decode cX6_carryAll 50 = .ok (.getfield 28, 3) := by decide +kernel
theorem dX6_carryAll_53 : decode cX6_carryAll 53 = .ok (.iload_n 3, 1) := by decide +kernel
theorem dX6_carryAll_54 : decode cX6_carryAll 54 = .ok (.iload 4, 2) := by decide +kernel
theorem dX6_carryAll_56 : decode cX6_carryAll 56 = .ok (.iastore, 1) := by decide +kernel
theorem dX6_carryAll_57 : decode cX6_carryAll 57 = .ok (.iinc 3 1, 3) := by decide +kernel
theorem dX6_carryAll_60 : decode cX6_carryAll 60 = .ok (.goto (-56), 3) := by decide +kernel
theorem dX6_carryAll_63 : decode cX6_carryAll 63 = .ok (.iload_n 2, 1) := by decide +kernel
theorem dX6_carryAll_64 : decode cX6_carryAll 64 = .ok (.ireturn, 1) := by decide +kernel
theorem dX6_tide_0 : decode cX6_tide 0 = .ok (.iload_n 1, 1) := by decide +kernel
theorem dX6_tide_1 : decode cX6_tide 1 = .ok (.invokestatic 160, 3) := by decide +kernel
theorem dX6_tide_4 : decode cX6_tide 4 = .ok (.ifCond .ne 6, 3) := by decide +kernel
theorem dX6_tide_7 : decode cX6_tide 7 = .ok (.bipush (-2), 2) := by decide +kernel
theorem dX6_tide_9 : decode cX6_tide 9 = .ok (.ireturn, 1) := by decide +kernel
theorem dX6_tide_10 : decode cX6_tide 10 = .ok (.aload_n 0, 1) := by decide +kernel
theorem dX6_tide_11 : decode cX6_tide 11 = .ok (.getfield 74, 3) := by decide +kernel
theorem dX6_tide_14 : decode cX6_tide 14 = .ok (.ifCond .ne 8, 3) := by decide +kernel
theorem dX6_tide_17 : decode cX6_tide 17 = .ok (.bipush (-3), 2) := by decide +kernel
theorem dX6_tide_19 : decode cX6_tide 19 = .ok (.goto 8, 3) := by decide +kernel
theorem dX6_tide_22 : decode cX6_tide 22 = .ok (.aload_n 0, 1) := by decide +kernel
theorem dX6_tide_23 : decode cX6_tide 23 = .ok (.iload_n 1, 1) := by decide +kernel
theorem dX6_tide_24 : decode cX6_tide 24 = .ok (.invokevirtual 169, 3) := by decide +kernel
theorem dX6_tide_27 : decode cX6_tide 27 = .ok (.ireturn, 1) := by decide +kernel
theorem dX6_ayesOf_0 : decode cX6_ayesOf 0 = .ok (.iconst 0, 1) := by decide +kernel
theorem dX6_ayesOf_1 : decode cX6_ayesOf 1 = .ok (.istore_n 2, 1) := by decide +kernel
theorem dX6_ayesOf_2 : decode cX6_ayesOf 2 = .ok (.iconst 0, 1) := by decide +kernel
theorem dX6_ayesOf_3 : decode cX6_ayesOf 3 = .ok (.istore_n 3, 1) := by decide +kernel
theorem dX6_ayesOf_4 : decode cX6_ayesOf 4 = .ok (.iload_n 3, 1) := by decide +kernel
theorem dX6_ayesOf_5 : decode cX6_ayesOf 5 = .ok (.aload_n 0, 1) := by decide +kernel
theorem dX6_ayesOf_6 : decode cX6_ayesOf 6 = .ok (.getfield 77, 3) := by decide +kernel
theorem dX6_ayesOf_9 : decode cX6_ayesOf 9 = .ok (.if_icmp .ge 59, 3) := by decide +kernel
theorem dX6_ayesOf_12 : decode cX6_ayesOf 12 = .ok (.aload_n 0, 1) := by decide +kernel
theorem dX6_ayesOf_13 : decode cX6_ayesOf 13 = .ok (.getfield 31, 3) := by decide +kernel
theorem dX6_ayesOf_16 : decode cX6_ayesOf 16 = .ok (.iload_n 3, 1) := by decide +kernel
theorem dX6_ayesOf_17 : decode cX6_ayesOf 17 = .ok (.iaload, 1) := by decide +kernel
theorem dX6_ayesOf_18 : decode cX6_ayesOf 18 = .ok (.iload_n 1, 1) := by decide +kernel
theorem dX6_ayesOf_19 : decode cX6_ayesOf 19 = .ok (.if_icmp .le 14, 3) := by decide +kernel
theorem dX6_ayesOf_22 : decode cX6_ayesOf 22 = .ok (.aload_n 0, 1) := by decide +kernel
theorem dX6_ayesOf_23 : decode cX6_ayesOf 23 = .ok (.getfield 31, 3) := by decide +kernel
theorem dX6_ayesOf_26 : decode cX6_ayesOf 26 = .ok (.iload_n 3, 1) := by decide +kernel
theorem dX6_ayesOf_27 : decode cX6_ayesOf 27 = .ok (.iaload, 1) := by decide +kernel
theorem dX6_ayesOf_28 : decode cX6_ayesOf 28 = .ok (.iload_n 1, 1) := by decide +kernel
theorem dX6_ayesOf_29 : decode cX6_ayesOf 29 = .ok (.isub, 1) := by decide +kernel
theorem dX6_ayesOf_30 : decode cX6_ayesOf 30 = .ok (.goto 11, 3) := by decide +kernel
theorem dX6_ayesOf_33 : decode cX6_ayesOf 33 = .ok (.iload_n 1, 1) := by decide +kernel
theorem dX6_ayesOf_34 : decode cX6_ayesOf 34 = .ok (.aload_n 0, 1) := by decide +kernel
theorem dX6_ayesOf_35 : decode cX6_ayesOf 35 = .ok (.getfield 31, 3) := by decide +kernel
theorem dX6_ayesOf_38 : decode cX6_ayesOf 38 = .ok (.iload_n 3, 1) := by decide +kernel
theorem dX6_ayesOf_39 : decode cX6_ayesOf 39 = .ok (.iaload, 1) := by decide +kernel
theorem dX6_ayesOf_40 : decode cX6_ayesOf 40 = .ok (.isub, 1) := by decide +kernel
theorem dX6_ayesOf_41 : decode cX6_ayesOf 41 = .ok (.istore 4, 2) := by decide +kernel
theorem dX6_ayesOf_43 : decode cX6_ayesOf 43 = .ok (.iload_n 2, 1) := by decide +kernel
theorem dX6_ayesOf_44 : decode cX6_ayesOf 44 = .ok (.iload 4, 2) := by decide +kernel
theorem dX6_ayesOf_46 : decode cX6_ayesOf 46 = .ok (.aload_n 0, 1) := by decide +kernel
theorem dX6_ayesOf_47 : decode cX6_ayesOf 47 = .ok (.getfield 113, 3) := by decide +kernel
theorem dX6_ayesOf_50 : decode cX6_ayesOf 50 = .ok (.if_icmp .gt 9, 3) := by decide +kernel
theorem dX6_ayesOf_53 : decode cX6_ayesOf 53 = .ok (.iconst 1, 1) := by decide +kernel
theorem dX6_ayesOf_54 : decode cX6_ayesOf 54 = .ok (.iload_n 3, 1) := by decide +kernel
theorem dX6_ayesOf_55 : decode cX6_ayesOf 55 = .ok (.ishl, 1) := by decide +kernel
theorem dX6_ayesOf_56 : decode cX6_ayesOf 56 = .ok (.goto 4, 3) := by decide +kernel
theorem dX6_ayesOf_59 : decode cX6_ayesOf 59 = .ok (.iconst 0, 1) := by decide +kernel
theorem dX6_ayesOf_60 : decode cX6_ayesOf 60 = .ok (.ior, 1) := by decide +kernel
theorem dX6_ayesOf_61 : decode cX6_ayesOf 61 = .ok (.istore_n 2, 1) := by decide +kernel
theorem dX6_ayesOf_62 : decode cX6_ayesOf 62 = .ok (.iinc 3 1, 3) := by decide +kernel
theorem dX6_ayesOf_65 : decode cX6_ayesOf 65 = .ok (.goto (-61), 3) := by decide +kernel
theorem dX6_ayesOf_68 : decode cX6_ayesOf 68 = .ok (.iload_n 2, 1) := by decide +kernel
theorem dX6_ayesOf_69 : decode cX6_ayesOf 69 = .ok (.ireturn, 1) := by decide +kernel
theorem dX6_passesBy_0 : decode cX6_passesBy 0 = .ok (.iconst 0, 1) := by decide +kernel
theorem dX6_passesBy_1 : decode cX6_passesBy 1 = .ok (.istore_n 2, 1) := by decide +kernel
theorem dX6_passesBy_2 : decode cX6_passesBy 2 = .ok (.iconst 0, 1) := by decide +kernel
theorem dX6_passesBy_3 : decode cX6_passesBy 3 = .ok (.istore_n 3, 1) := by decide +kernel
theorem dX6_passesBy_4 : decode cX6_passesBy 4 = .ok (.iload_n 3, 1) := by decide +kernel
theorem dX6_passesBy_5 : decode cX6_passesBy 5 = .ok (.aload_n 0, 1) := by decide +kernel
theorem dX6_passesBy_6 : decode cX6_passesBy 6 = .ok (.getfield 74, 3) := by decide +kernel
theorem dX6_passesBy_9 : decode cX6_passesBy 9 = .ok (.if_icmp .ge 43, 3) := by decide +kernel
theorem dX6_passesBy_12 : decode cX6_passesBy 12 = .ok (.aload_n 0, 1) := by decide +kernel
theorem dX6_passesBy_13 : decode cX6_passesBy 13 = .ok (.iload_n 3, 1) := by decide +kernel
theorem dX6_passesBy_14 : decode cX6_passesBy 14 = .ok (.invokevirtual 148, 3) := by decide +kernel
theorem dX6_passesBy_17 : decode cX6_passesBy 17 = .ok (.istore 4, 2) := by decide +kernel
theorem dX6_passesBy_19 : decode cX6_passesBy 19 = .ok (.iload_n 2, 1) := by decide +kernel
theorem dX6_passesBy_20 : decode cX6_passesBy 20 = .ok (.iconst 2, 1) := by decide +kernel
theorem dX6_passesBy_21 : decode cX6_passesBy 21 = .ok (.iload 4, 2) := by decide +kernel
theorem dX6_passesBy_23 : decode cX6_passesBy 23 = .ok (.iload_n 1, 1) := by decide +kernel
theorem dX6_passesBy_24 : decode cX6_passesBy 24 = .ok (.iand, 1) := by decide +kernel
theorem dX6_passesBy_25 : decode cX6_passesBy 25 = .ok (.invokestatic 151, 3) := by decide +kernel
theorem dX6_passesBy_28 : decode cX6_passesBy 28 = .ok (.imul, 1) := by decide +kernel
theorem dX6_passesBy_29 : decode cX6_passesBy 29 = .ok (.iload 4, 2) := by decide +kernel
theorem dX6_passesBy_31 : decode cX6_passesBy 31 = .ok (.invokestatic 151, 3) := by decide +kernel
theorem dX6_passesBy_34 : decode cX6_passesBy 34 = .ok (.if_icmp .le 9, 3) := by decide +kernel
theorem dX6_passesBy_37 : decode cX6_passesBy 37 = .ok (.iconst 1, 1) := by decide +kernel
theorem dX6_passesBy_38 : decode cX6_passesBy 38 = .ok (.iload_n 3, 1) := by decide +kernel
theorem dX6_passesBy_39 : decode cX6_passesBy 39 = .ok (.ishl, 1) := by decide +kernel
theorem dX6_passesBy_40 : decode cX6_passesBy 40 = .ok (.goto 4, 3) := by decide +kernel
theorem dX6_passesBy_43 : decode cX6_passesBy 43 = .ok (.iconst 0, 1) := by decide +kernel
theorem dX6_passesBy_44 : decode cX6_passesBy 44 = .ok (.ior, 1) := by decide +kernel
theorem dX6_passesBy_45 : decode cX6_passesBy 45 = .ok (.istore_n 2, 1) := by decide +kernel
theorem dX6_passesBy_46 : decode cX6_passesBy 46 = .ok (.iinc 3 1, 3) := by decide +kernel
theorem dX6_passesBy_49 : decode cX6_passesBy 49 = .ok (.goto (-45), 3) := by decide +kernel
theorem dX6_passesBy_52 : decode cX6_passesBy 52 = .ok (.iload_n 2, 1) := by decide +kernel
theorem dX6_passesBy_53 : decode cX6_passesBy 53 = .ok (.ireturn, 1) := by decide +kernel
theorem dX6_occupied_0 : decode cX6_occupied 0 = .ok (.iconst 0, 1) := by decide +kernel
theorem dX6_occupied_1 : decode cX6_occupied 1 = .ok (.istore_n 1, 1) := by decide +kernel
theorem dX6_occupied_2 : decode cX6_occupied 2 = .ok (.iconst 0, 1) := by decide +kernel
theorem dX6_occupied_3 : decode cX6_occupied 3 = .ok (.istore_n 2, 1) := by decide +kernel
theorem dX6_occupied_4 : decode cX6_occupied 4 = .ok (.iload_n 2, 1) := by decide +kernel
theorem dX6_occupied_5 : decode cX6_occupied 5 = .ok (.aload_n 0, 1) := by decide +kernel
theorem dX6_occupied_6 : decode cX6_occupied 6 = .ok (.getfield 74, 3) := by decide +kernel
theorem dX6_occupied_9 : decode cX6_occupied 9 = .ok (.if_icmp .ge 25, 3) := by decide +kernel
theorem dX6_occupied_12 : decode cX6_occupied 12 = .ok (.iload_n 1, 1) := by decide +kernel
theorem dX6_occupied_13 : decode cX6_occupied 13 = .ok (.aload_n 0, 1) := by decide +kernel
theorem dX6_occupied_14 : decode cX6_occupied 14 = .ok (.iload_n 2, 1) := by decide +kernel
theorem dX6_occupied_15 : decode cX6_occupied 15 = .ok (.invokevirtual 148, 3) := by decide +kernel
theorem dX6_occupied_18 : decode cX6_occupied 18 = .ok (.ifCond .ne 7, 3) := by decide +kernel
theorem dX6_occupied_21 : decode cX6_occupied 21 = .ok (.iconst 0, 1) := by decide +kernel
theorem dX6_occupied_22 : decode cX6_occupied 22 = .ok (.goto 4, 3) := by decide +kernel
theorem dX6_occupied_25 : decode cX6_occupied 25 = .ok (.iconst 1, 1) := by decide +kernel
theorem dX6_occupied_26 : decode cX6_occupied 26 = .ok (.iadd, 1) := by decide +kernel
theorem dX6_occupied_27 : decode cX6_occupied 27 = .ok (.istore_n 1, 1) := by decide +kernel
theorem dX6_occupied_28 : decode cX6_occupied 28 = .ok (.iinc 2 1, 3) := by decide +kernel
theorem dX6_occupied_31 : decode cX6_occupied 31 = .ok (.goto (-27), 3) := by decide +kernel
theorem dX6_occupied_34 : decode cX6_occupied 34 = .ok (.iload_n 1, 1) := by decide +kernel
theorem dX6_occupied_35 : decode cX6_occupied 35 = .ok (.ireturn, 1) := by decide +kernel
theorem dX6_isLawBy_0 : decode cX6_isLawBy 0 = .ok (.iconst 2, 1) := by decide +kernel
theorem dX6_isLawBy_1 : decode cX6_isLawBy 1 = .ok (.aload_n 0, 1) := by decide +kernel
theorem dX6_isLawBy_2 : decode cX6_isLawBy 2 = .ok (.iload_n 1, 1) := by decide +kernel
theorem dX6_isLawBy_3 : decode cX6_isLawBy 3 = .ok (.invokevirtual 172, 3) := by decide +kernel
theorem dX6_isLawBy_6 : decode cX6_isLawBy 6 = .ok (.invokestatic 151, 3) := by decide +kernel
theorem dX6_isLawBy_9 : decode cX6_isLawBy 9 = .ok (.imul, 1) := by decide +kernel
theorem dX6_isLawBy_10 : decode cX6_isLawBy 10 = .ok (.aload_n 0, 1) := by decide +kernel
theorem dX6_isLawBy_11 : decode cX6_isLawBy 11 = .ok (.invokevirtual 175, 3) := by decide +kernel
theorem dX6_isLawBy_14 : decode cX6_isLawBy 14 = .ok (.if_icmp .le 7, 3) := by decide +kernel
theorem dX6_isLawBy_17 : decode cX6_isLawBy 17 = .ok (.iconst 1, 1) := by decide +kernel
theorem dX6_isLawBy_18 : decode cX6_isLawBy 18 = .ok (.goto 4, 3) := by decide +kernel
theorem dX6_isLawBy_21 : decode cX6_isLawBy 21 = .ok (.iconst 0, 1) := by decide +kernel
theorem dX6_isLawBy_22 : decode cX6_isLawBy 22 = .ok (.ireturn, 1) := by decide +kernel
theorem dX6_ayes_0 : decode cX6_ayes 0 = .ok (.iload_n 1, 1) := by decide +kernel
theorem dX6_ayes_1 : decode cX6_ayes 1 = .ok (.invokestatic 160, 3) := by decide +kernel
theorem dX6_ayes_4 : decode cX6_ayes 4 = .ok (.ifCond .ne 6, 3) := by decide +kernel
theorem dX6_ayes_7 : decode cX6_ayes 7 = .ok (.bipush (-2), 2) := by decide +kernel
theorem dX6_ayes_9 : decode cX6_ayes 9 = .ok (.ireturn, 1) := by decide +kernel
theorem dX6_ayes_10 : decode cX6_ayes 10 = .ok (.aload_n 0, 1) := by decide +kernel
theorem dX6_ayes_11 : decode cX6_ayes 11 = .ok (.getfield 74, 3) := by decide +kernel
theorem dX6_ayes_14 : decode cX6_ayes 14 = .ok (.ifCond .ne 8, 3) := by decide +kernel
theorem dX6_ayes_17 : decode cX6_ayes 17 = .ok (.bipush (-3), 2) := by decide +kernel
theorem dX6_ayes_19 : decode cX6_ayes 19 = .ok (.goto 8, 3) := by decide +kernel
theorem dX6_ayes_22 : decode cX6_ayes 22 = .ok (.aload_n 0, 1) := by decide +kernel
theorem dX6_ayes_23 : decode cX6_ayes 23 = .ok (.iload_n 1, 1) := by decide +kernel
theorem dX6_ayes_24 : decode cX6_ayes 24 = .ok (.invokevirtual 179, 3) := by decide +kernel
theorem dX6_ayes_27 : decode cX6_ayes 27 = .ok (.ireturn, 1) := by decide +kernel
theorem dX6_passes_0 : decode cX6_passes 0 = .ok (.iload_n 1, 1) := by decide +kernel
theorem dX6_passes_1 : decode cX6_passes 1 = .ok (.invokestatic 160, 3) := by decide +kernel
theorem dX6_passes_4 : decode cX6_passes 4 = .ok (.ifCond .ne 6, 3) := by decide +kernel
theorem dX6_passes_7 : decode cX6_passes 7 = .ok (.bipush (-2), 2) := by decide +kernel
theorem dX6_passes_9 : decode cX6_passes 9 = .ok (.ireturn, 1) := by decide +kernel
theorem dX6_passes_10 : decode cX6_passes 10 = .ok (.aload_n 0, 1) := by decide +kernel
theorem dX6_passes_11 : decode cX6_passes 11 = .ok (.getfield 74, 3) := by decide +kernel
theorem dX6_passes_14 : decode cX6_passes 14 = .ok (.ifCond .ne 8, 3) := by decide +kernel
theorem dX6_passes_17 : decode cX6_passes 17 = .ok (.bipush (-3), 2) := by decide +kernel
theorem dX6_passes_19 : decode cX6_passes 19 = .ok (.goto 12, 3) := by decide +kernel
theorem dX6_passes_22 : decode cX6_passes 22 = .ok (.aload_n 0, 1) := by decide +kernel
theorem dX6_passes_23 : decode cX6_passes 23 = .ok (.aload_n 0, 1) := by decide +kernel
theorem dX6_passes_24 : decode cX6_passes 24 = .ok (.iload_n 1, 1) := by decide +kernel
theorem dX6_passes_25 : decode cX6_passes 25 = .ok (.invokevirtual 179, 3) := by decide +kernel
theorem dX6_passes_28 : decode cX6_passes 28 = .ok (.invokevirtual 172, 3) := by decide +kernel
theorem dX6_passes_31 : decode cX6_passes 31 = .ok (.ireturn, 1) := by decide +kernel
theorem dX6_law_0 : decode cX6_law 0 = .ok (.iload_n 1, 1) := by decide +kernel
theorem dX6_law_1 : decode cX6_law 1 = .ok (.invokestatic 160, 3) := by decide +kernel
theorem dX6_law_4 : decode cX6_law 4 = .ok (.ifCond .ne 6, 3) := by decide +kernel
theorem dX6_law_7 : decode cX6_law 7 = .ok (.bipush (-2), 2) := by decide +kernel
theorem dX6_law_9 : decode cX6_law 9 = .ok (.ireturn, 1) := by decide +kernel
theorem dX6_law_10 : decode cX6_law 10 = .ok (.aload_n 0, 1) := by decide +kernel
theorem dX6_law_11 : decode cX6_law 11 = .ok (.getfield 74, 3) := by decide +kernel
theorem dX6_law_14 : decode cX6_law 14 = .ok (.ifCond .ne 6, 3) := by decide +kernel
theorem dX6_law_17 : decode cX6_law 17 = .ok (.bipush (-3), 2) := by decide +kernel
theorem dX6_law_19 : decode cX6_law 19 = .ok (.ireturn, 1) := by decide +kernel
theorem dX6_law_20 : decode cX6_law 20 = .ok (.aload_n 0, 1) := by decide +kernel
theorem dX6_law_21 : decode cX6_law 21 = .ok (.aload_n 0, 1) := by decide +kernel
theorem dX6_law_22 : decode cX6_law 22 = .ok (.iload_n 1, 1) := by decide +kernel
theorem dX6_law_23 : decode cX6_law 23 = .ok (.invokevirtual 179, 3) := by decide +kernel
theorem dX6_law_26 : decode cX6_law 26 = .ok (.invokevirtual 182, 3) := by decide +kernel
theorem dX6_law_29 : decode cX6_law 29 = .ok (.ifCond .eq 7, 3) := by decide +kernel
theorem dX6_law_32 : decode cX6_law 32 = .ok (.iconst 1, 1) := by decide +kernel
theorem dX6_law_33 : decode cX6_law 33 = .ok (.goto 4, 3) := by decide +kernel
theorem dX6_law_36 : decode cX6_law 36 = .ok (.iconst 0, 1) := by decide +kernel
theorem dX6_law_37 : decode cX6_law 37 = .ok (.ireturn, 1) := by decide +kernel
theorem dX6_goYear_0 : decode cX6_goYear 0 = .ok (.aload_n 0, 1) := by decide +kernel
theorem dX6_goYear_1 : decode cX6_goYear 1 = .ok (.iconst 0, 1) := by decide +kernel
theorem dX6_goYear_2 : decode cX6_goYear 2 = .ok (.putfield 185, 3) := by decide +kernel
theorem dX6_goYear_5 : decode cX6_goYear 5 = .ok (.iconst 0, 1) := by decide +kernel
theorem dX6_goYear_6 : decode cX6_goYear 6 = .ok (.istore_n 3, 1) := by decide +kernel
theorem dX6_goYear_7 : decode cX6_goYear 7 = .ok (.iload_n 3, 1) := by decide +kernel
theorem dX6_goYear_8 : decode cX6_goYear 8 = .ok (.iload_n 2, 1) := by decide +kernel
theorem dX6_goYear_9 : decode cX6_goYear 9 = .ok (.if_icmp .ge 47, 3) := by decide +kernel
theorem dX6_goYear_12 : decode cX6_goYear 12 = .ok (.aload_n 0, 1) := by decide +kernel
theorem dX6_goYear_13 : decode cX6_goYear 13 = .ok (.aload_n 0, 1) := by decide +kernel
theorem dX6_goYear_14 : decode cX6_goYear 14 = .ok (.getfield 16, 3) := by decide +kernel
theorem dX6_goYear_17 : decode cX6_goYear 17 = .ok (.iload_n 1, 1) := by decide +kernel
theorem dX6_goYear_18 : decode cX6_goYear 18 = .ok (.iload_n 3, 1) := by decide +kernel
theorem dX6_goYear_19 : decode cX6_goYear 19 = .ok (.iadd, 1) := by decide +kernel
theorem dX6_goYear_20 : decode cX6_goYear 20 = .ok (.iaload, 1) := by decide +kernel
theorem dX6_goYear_21 : decode cX6_goYear 21 = .ok (.invokevirtual 163, 3) := by decide +kernel
theorem dX6_goYear_24 : decode cX6_goYear 24 = .ok (.ifCond .ne 5, 3) := by decide +kernel
theorem dX6_goYear_27 : decode cX6_goYear 27 = .ok (.iload_n 3, 1) := by decide +kernel
theorem dX6_goYear_28 : decode cX6_goYear 28 = .ok (.ireturn, 1) := by decide +kernel
theorem dX6_goYear_29 : decode cX6_goYear 29 = .ok (.aload_n 0, 1) := by decide +kernel
theorem dX6_goYear_30 : decode cX6_goYear 30 = .ok (.dup, 1) := by decide +kernel
theorem dX6_goYear_31 : decode cX6_goYear 31 = .ok (.getfield 185, 3) := by decide +kernel
theorem dX6_goYear_34 : decode cX6_goYear 34 = .ok (.aload_n 0, 1) := by decide +kernel
theorem dX6_goYear_35 : decode cX6_goYear 35 = .ok (.aload_n 0, 1) := by decide +kernel
theorem dX6_goYear_36 : decode cX6_goYear 36 = .ok (.getfield 16, 3) := by decide +kernel
theorem dX6_goYear_39 : decode cX6_goYear 39 = .ok (.iload_n 1, 1) := by decide +kernel
theorem dX6_goYear_40 : decode cX6_goYear 40 = .ok (.iload_n 3, 1) := by decide +kernel
theorem dX6_goYear_41 : decode cX6_goYear 41 = .ok (.iadd, 1) := by decide +kernel
theorem dX6_goYear_42 : decode cX6_goYear 42 = .ok (.iaload, 1) := by decide +kernel
theorem dX6_goYear_43 : decode cX6_goYear 43 = .ok (.invokevirtual 169, 3) := by decide +kernel
theorem dX6_goYear_46 : decode cX6_goYear 46 = .ok (.iadd, 1) := by decide +kernel
theorem dX6_goYear_47 : decode cX6_goYear 47 = .ok (.putfield 185, 3) := by decide +kernel
theorem dX6_goYear_50 : decode cX6_goYear 50 = .ok (.iinc 3 1, 3) := by decide +kernel
theorem dX6_goYear_53 : decode cX6_goYear 53 = .ok (.goto (-46), 3) := by decide +kernel
theorem dX6_goYear_56 : decode cX6_goYear 56 = .ok (.bipush (-9), 2) := by decide +kernel
theorem dX6_goYear_58 : decode cX6_goYear 58 = .ok (.ireturn, 1) := by decide +kernel
theorem dX6_year_0 : decode cX6_year 0 = .ok (.aload_n 0, 1) := by decide +kernel
theorem dX6_year_1 : decode cX6_year 1 = .ok (.iconst 0, 1) := by decide +kernel
theorem dX6_year_2 : decode cX6_year 2 = .ok (.putfield 64, 3) := by decide +kernel
theorem dX6_year_5 : decode cX6_year 5 = .ok (.iload_n 1, 1) := by decide +kernel
theorem dX6_year_6 : decode cX6_year 6 = .ok (.invokestatic 83, 3) := by decide +kernel
theorem dX6_year_9 : decode cX6_year 9 = .ok (.ifCond .ne 5, 3) := by decide +kernel
theorem dX6_year_12 : decode cX6_year 12 = .ok (.iconst (-1), 1) := by decide +kernel
theorem dX6_year_13 : decode cX6_year 13 = .ok (.ireturn, 1) := by decide +kernel
theorem dX6_year_14 : decode cX6_year 14 = .ok (.iload_n 2, 1) := by decide +kernel
theorem dX6_year_15 : decode cX6_year 15 = .ok (.invokestatic 87, 3) := by decide +kernel
theorem dX6_year_18 : decode cX6_year 18 = .ok (.ifCond .eq 48, 3) := by decide +kernel
theorem dX6_year_21 : decode cX6_year 21 = .ok (.iload 4, 2) := by decide +kernel
theorem dX6_year_23 : decode cX6_year 23 = .ok (.iconst 0, 1) := by decide +kernel
theorem dX6_year_24 : decode cX6_year 24 = .ok (.bipush 20, 2) := by decide +kernel
theorem dX6_year_26 : decode cX6_year 26 = .ok (.invokestatic 70, 3) := by decide +kernel
theorem dX6_year_29 : decode cX6_year 29 = .ok (.ifCond .eq 37, 3) := by decide +kernel
theorem dX6_year_32 : decode cX6_year 32 = .ok (.iload 5, 2) := by decide +kernel
theorem dX6_year_34 : decode cX6_year 34 = .ok (.iconst 0, 1) := by decide +kernel
theorem dX6_year_35 : decode cX6_year 35 = .ok (.iconst 3, 1) := by decide +kernel
theorem dX6_year_36 : decode cX6_year 36 = .ok (.invokestatic 70, 3) := by decide +kernel
theorem dX6_year_39 : decode cX6_year 39 = .ok (.ifCond .ne 30, 3) := by decide +kernel
theorem dX6_year_42 : decode cX6_year 42 = .ok (.iload 5, 2) := by decide +kernel
theorem dX6_year_44 : decode cX6_year 44 = .ok (.bipush 10, 2) := by decide +kernel
theorem dX6_year_46 : decode cX6_year 46 = .ok (.bipush 15, 2) := by decide +kernel
theorem dX6_year_48 : decode cX6_year 48 = .ok (.invokestatic 70, 3) := by decide +kernel
theorem dX6_year_51 : decode cX6_year 51 = .ok (.ifCond .ne 18, 3) := by decide +kernel
theorem dX6_year_54 : decode cX6_year 54 = .ok (.iload 5, 2) := by decide +kernel
theorem dX6_year_56 : decode cX6_year 56 = .ok (.bipush 20, 2) := by decide +kernel
theorem dX6_year_58 : decode cX6_year 58 = .ok (.bipush 29, 2) := by decide +kernel
theorem dX6_year_60 : decode cX6_year 60 = .ok (.invokestatic 70, 3) := by decide +kernel
theorem dX6_year_63 : decode cX6_year 63 = .ok (.ifCond .ne 6, 3) := by decide +kernel
theorem dX6_year_66 : decode cX6_year 66 = .ok (.bipush (-2), 2) := by decide +kernel
theorem dX6_year_68 : decode cX6_year 68 = .ok (.ireturn, 1) := by decide +kernel
theorem dX6_year_69 : decode cX6_year 69 = .ok (.aload_n 0, 1) := by decide +kernel
theorem dX6_year_70 : decode cX6_year 70 = .ok (.iload_n 1, 1) := by decide +kernel
theorem dX6_year_71 : decode cX6_year 71 = .ok (.iload_n 2, 1) := by decide +kernel
theorem dX6_year_72 : decode cX6_year 72 = .ok (.iload_n 3, 1) := by decide +kernel
theorem dX6_year_73 : decode cX6_year 73 = .ok (.iload 4, 2) := by decide +kernel
theorem dX6_year_75 : decode cX6_year 75 = .ok (.invokevirtual 90, 3) := by decide +kernel
theorem dX6_year_78 : decode cX6_year 78 = .ok (.istore 6, 2) := by decide +kernel
theorem dX6_year_80 : decode cX6_year 80 = .ok (.iload 6, 2) := by decide +kernel
theorem dX6_year_82 : decode cX6_year 82 = .ok (.ifCond .eq 10, 3) := by decide +kernel
theorem dX6_year_85 : decode cX6_year 85 = .ok (.aload_n 0, 1) := by decide +kernel
theorem dX6_year_86 : decode cX6_year 86 = .ok (.iload 6, 2) := by decide +kernel
theorem dX6_year_88 : decode cX6_year 88 = .ok (.invokevirtual 94, 3) := by decide +kernel
theorem dX6_year_91 : decode cX6_year 91 = .ok (.ireturn, 1) := by decide +kernel
theorem dX6_year_92 : decode cX6_year 92 = .ok (.aload_n 0, 1) := by decide +kernel
theorem dX6_year_93 : decode cX6_year 93 = .ok (.getfield 74, 3) := by decide +kernel
theorem dX6_year_96 : decode cX6_year 96 = .ok (.ifCond .ne 6, 3) := by decide +kernel
theorem dX6_year_99 : decode cX6_year 99 = .ok (.bipush (-3), 2) := by decide +kernel
theorem dX6_year_101 : decode cX6_year 101 = .ok (.ireturn, 1) := by decide +kernel
theorem dX6_year_102 : decode cX6_year 102 = .ok (.bipush 60, 2) := by decide +kernel
theorem dX6_year_104 : decode cX6_year 104 = .ok (.iload_n 1, 1) := by decide +kernel
theorem dX6_year_105 : decode cX6_year 105 = .ok (.imul, 1) := by decide +kernel
theorem dX6_year_106 : decode cX6_year 106 = .ok (.iload_n 3, 1) := by decide +kernel
theorem dX6_year_107 : decode cX6_year 107 = .ok (.iadd, 1) := by decide +kernel
theorem dX6_year_108 : decode cX6_year 108 = .ok (.istore 7, 2) := by decide +kernel
theorem dX6_year_110 : decode cX6_year 110 = .ok (.iconst 0, 1) := by decide +kernel
theorem dX6_year_111 : decode cX6_year 111 = .ok (.istore 8, 2) := by decide +kernel
theorem dX6_year_113 : decode cX6_year 113 = .ok (.iload 8, 2) := by decide +kernel
theorem dX6_year_115 : decode cX6_year 115 = .ok (.iload 4, 2) := by decide +kernel
theorem dX6_year_117 : decode cX6_year 117 = .ok (.if_icmp .ge 28, 3) := by decide +kernel
theorem dX6_year_120 : decode cX6_year 120 = .ok (.aload_n 0, 1) := by decide +kernel
theorem dX6_year_121 : decode cX6_year 121 = .ok (.getfield 16, 3) := by decide +kernel
theorem dX6_year_124 : decode cX6_year 124 = .ok (.iload 7, 2) := by decide +kernel
theorem dX6_year_126 : decode cX6_year 126 = .ok (.iload 8, 2) := by decide +kernel
theorem dX6_year_128 : decode cX6_year 128 = .ok (.iadd, 1) := by decide +kernel
theorem dX6_year_129 : decode cX6_year 129 = .ok (.iaload, 1) := by decide +kernel
theorem dX6_year_130 : decode cX6_year 130 = .ok (.invokestatic 160, 3) := by decide +kernel
theorem dX6_year_133 : decode cX6_year 133 = .ok (.ifCond .ne 6, 3) := by decide +kernel
theorem dX6_year_136 : decode cX6_year 136 = .ok (.bipush (-2), 2) := by decide +kernel
theorem dX6_year_138 : decode cX6_year 138 = .ok (.ireturn, 1) := by decide +kernel
theorem dX6_year_139 : decode cX6_year 139 = .ok (.iinc 8 1, 3) := by decide +kernel
theorem dX6_year_142 : decode cX6_year 142 = .ok (.goto (-29), 3) := by decide +kernel
theorem dX6_year_145 : decode cX6_year 145 = .ok (.iconst 0, 1) := by decide +kernel
theorem dX6_year_146 : decode cX6_year 146 = .ok (.istore 8, 2) := by decide +kernel
theorem dX6_year_148 : decode cX6_year 148 = .ok (.iload 8, 2) := by decide +kernel
theorem dX6_year_150 : decode cX6_year 150 = .ok (.aload_n 0, 1) := by decide +kernel
theorem dX6_year_151 : decode cX6_year 151 = .ok (.getfield 77, 3) := by decide +kernel
theorem dX6_year_154 : decode cX6_year 154 = .ok (.if_icmp .ge 23, 3) := by decide +kernel
theorem dX6_year_157 : decode cX6_year 157 = .ok (.aload_n 0, 1) := by decide +kernel
theorem dX6_year_158 : decode cX6_year 158 = .ok (.getfield 49, 3) := by decide +kernel
theorem dX6_year_161 : decode cX6_year 161 = .ok (.iload 8, 2) := by decide +kernel
theorem dX6_year_163 : decode cX6_year 163 = .ok (.aload_n 0, 1) := by decide +kernel
theorem dX6_year_164 : decode cX6_year 164 = .ok (.getfield 28, 3) := by decide +kernel
theorem dX6_year_167 : decode cX6_year 167 = .ok (.iload 8, 2) := by decide +kernel
theorem dX6_year_169 : decode cX6_year 169 = .ok (.iaload, 1) := by decide +kernel
theorem dX6_year_170 : decode cX6_year 170 = .ok (.iastore, 1) := by decide +kernel
theorem dX6_year_171 : decode cX6_year 171 = .ok (.iinc 8 1, 3) := by decide +kernel
theorem dX6_year_174 : decode cX6_year 174 = .ok (.goto (-26), 3) := by decide +kernel
theorem dX6_year_177 : decode cX6_year 177 = .ok (.aload_n 0, 1) := by decide +kernel
theorem dX6_year_178 : decode cX6_year 178 = .ok (.iload 7, 2) := by decide +kernel
theorem dX6_year_180 : decode cX6_year 180 = .ok (.iload 4, 2) := by decide +kernel
theorem dX6_year_182 : decode cX6_year 182 = .ok (.invokevirtual 188, 3) := by decide +kernel
theorem dX6_year_185 : decode cX6_year 185 = .ok (.istore 8, 2) := by decide +kernel
theorem dX6_year_187 : decode cX6_year 187 = .ok (.aload_n 0, 1) := by decide +kernel
theorem dX6_year_188 : decode cX6_year 188 = .ok (.iload 5, 2) := by decide +kernel
theorem dX6_year_190 : decode cX6_year 190 = .ok (.invokevirtual 192, 3) := by decide +kernel
theorem dX6_year_193 : decode cX6_year 193 = .ok (.istore 9, 2) := by decide +kernel
theorem dX6_year_195 : decode cX6_year 195 = .ok (.iconst 0, 1) := by decide +kernel
theorem dX6_year_196 : decode cX6_year 196 = .ok (.istore 10, 2) := by decide +kernel
theorem dX6_year_198 : decode cX6_year 198 = .ok (.iload 10, 2) := by decide +kernel
theorem dX6_year_200 : decode cX6_year 200 = .ok (.aload_n 0, 1) := by decide +kernel
theorem dX6_year_201 : decode cX6_year 201 = .ok (.getfield 77, 3) := by decide +kernel
theorem dX6_year_204 : decode cX6_year 204 = .ok (.if_icmp .ge 23, 3) := by decide +kernel
theorem dX6_year_207 : decode cX6_year 207 = .ok (.aload_n 0, 1) := by decide +kernel
theorem dX6_year_208 : decode cX6_year 208 = .ok (.getfield 28, 3) := by decide +kernel
theorem dX6_year_211 : decode cX6_year 211 = .ok (.iload 10, 2) := by decide +kernel
theorem dX6_year_213 : decode cX6_year 213 = .ok (.aload_n 0, 1) := by decide +kernel
theorem dX6_year_214 : decode cX6_year 214 = .ok (.getfield 49, 3) := by decide +kernel
theorem dX6_year_217 : decode cX6_year 217 = .ok (.iload 10, 2) := by decide +kernel
theorem dX6_year_219 : decode cX6_year 219 = .ok (.iaload, 1) := by decide +kernel
theorem dX6_year_220 : decode cX6_year 220 = .ok (.iastore, 1) := by decide +kernel
theorem dX6_year_221 : decode cX6_year 221 = .ok (.iinc 10 1, 3) := by decide +kernel
theorem dX6_year_224 : decode cX6_year 224 = .ok (.goto (-26), 3) := by decide +kernel
theorem dX6_year_227 : decode cX6_year 227 = .ok (.iload 5, 2) := by decide +kernel
theorem dX6_year_229 : decode cX6_year 229 = .ok (.iconst 1, 1) := by decide +kernel
theorem dX6_year_230 : decode cX6_year 230 = .ok (.if_icmp .ne 8, 3) := by decide +kernel
theorem dX6_year_233 : decode cX6_year 233 = .ok (.iload 8, 2) := by decide +kernel
theorem dX6_year_235 : decode cX6_year 235 = .ok (.goto 20, 3) := by decide +kernel
theorem dX6_year_238 : decode cX6_year 238 = .ok (.iload 8, 2) := by decide +kernel
theorem dX6_year_240 : decode cX6_year 240 = .ok (.bipush (-9), 2) := by decide +kernel
theorem dX6_year_242 : decode cX6_year 242 = .ok (.if_icmp .ne 8, 3) := by decide +kernel
theorem dX6_year_245 : decode cX6_year 245 = .ok (.iload 9, 2) := by decide +kernel
theorem dX6_year_247 : decode cX6_year 247 = .ok (.goto 8, 3) := by decide +kernel
theorem dX6_year_250 : decode cX6_year 250 = .ok (.bipush (-100), 2) := by decide +kernel
theorem dX6_year_252 : decode cX6_year 252 = .ok (.iload 8, 2) := by decide +kernel
theorem dX6_year_254 : decode cX6_year 254 = .ok (.isub, 1) := by decide +kernel
theorem dX6_year_255 : decode cX6_year 255 = .ok (.ireturn, 1) := by decide +kernel
theorem dX6_tellYear_0 : decode cX6_tellYear 0 = .ok (.iload_n 1, 1) := by decide +kernel
theorem dX6_tellYear_1 : decode cX6_tellYear 1 = .ok (.bipush 20, 2) := by decide +kernel
theorem dX6_tellYear_3 : decode cX6_tellYear 3 = .ok (.if_icmp .lt 24, 3) := by decide +kernel
theorem dX6_tellYear_6 : decode cX6_tellYear 6 = .ok (.aload_n 0, 1) := by decide +kernel
theorem dX6_tellYear_7 : decode cX6_tellYear 7 = .ok (.aload_n 0, 1) := by decide +kernel
theorem dX6_tellYear_8 : decode cX6_tellYear 8 = .ok (.iload_n 1, 1) := by decide +kernel
theorem dX6_tellYear_9 : decode cX6_tellYear 9 = .ok (.bipush 20, 2) := by decide +kernel
theorem dX6_tellYear_11 : decode cX6_tellYear 11 = .ok (.isub, 1) := by decide +kernel
theorem dX6_tellYear_12 : decode cX6_tellYear 12 = .ok (.invokevirtual 179, 3) := by decide +kernel
theorem dX6_tellYear_15 : decode cX6_tellYear 15 = .ok (.invokevirtual 182, 3) := by decide +kernel
theorem dX6_tellYear_18 : decode cX6_tellYear 18 = .ok (.ifCond .eq 7, 3) := by decide +kernel
theorem dX6_tellYear_21 : decode cX6_tellYear 21 = .ok (.iconst 1, 1) := by decide +kernel
theorem dX6_tellYear_22 : decode cX6_tellYear 22 = .ok (.goto 4, 3) := by decide +kernel
theorem dX6_tellYear_25 : decode cX6_tellYear 25 = .ok (.iconst 0, 1) := by decide +kernel
theorem dX6_tellYear_26 : decode cX6_tellYear 26 = .ok (.ireturn, 1) := by decide +kernel
theorem dX6_tellYear_27 : decode cX6_tellYear 27 = .ok (.iload_n 1, 1) := by decide +kernel
theorem dX6_tellYear_28 : decode cX6_tellYear 28 = .ok (.bipush 10, 2) := by decide +kernel
theorem dX6_tellYear_30 : decode cX6_tellYear 30 = .ok (.if_icmp .lt 29, 3) := by decide +kernel
theorem dX6_tellYear_33 : decode cX6_tellYear 33 = .ok (.aload_n 0, 1) := by decide +kernel
theorem dX6_tellYear_34 : decode cX6_tellYear 34 = .ok (.iload_n 1, 1) := by decide +kernel
theorem dX6_tellYear_35 : decode cX6_tellYear 35 = .ok (.bipush 10, 2) := by decide +kernel
theorem dX6_tellYear_37 : decode cX6_tellYear 37 = .ok (.isub, 1) := by decide +kernel
theorem dX6_tellYear_38 : decode cX6_tellYear 38 = .ok (.invokevirtual 154, 3) := by decide +kernel
theorem dX6_tellYear_41 : decode cX6_tellYear 41 = .ok (.ifCond .eq 15, 3) := by decide +kernel
theorem dX6_tellYear_44 : decode cX6_tellYear 44 = .ok (.aload_n 0, 1) := by decide +kernel
theorem dX6_tellYear_45 : decode cX6_tellYear 45 = .ok (.getfield 28, 3) := by decide +kernel
theorem dX6_tellYear_48 : decode cX6_tellYear 48 = .ok (.iload_n 1, 1) := by decide +kernel
theorem dX6_tellYear_49 : decode cX6_tellYear 49 = .ok (.bipush 10, 2) := by decide +kernel
theorem dX6_tellYear_51 : decode cX6_tellYear 51 = .ok (.isub, 1) := by decide +kernel
theorem dX6_tellYear_52 : decode cX6_tellYear 52 = .ok (.iaload, 1) := by decide +kernel
theorem dX6_tellYear_53 : decode cX6_tellYear 53 = .ok (.goto 5, 3) := by decide +kernel
theorem dX6_tellYear_56 : decode cX6_tellYear 56 = .ok (.bipush (-9), 2) := by decide +kernel
theorem dX6_tellYear_58 : decode cX6_tellYear 58 = .ok (.ireturn, 1) := by decide +kernel
theorem dX6_tellYear_59 : decode cX6_tellYear 59 = .ok (.iload_n 1, 1) := by decide +kernel
theorem dX6_tellYear_60 : decode cX6_tellYear 60 = .ok (.iconst 3, 1) := by decide +kernel
theorem dX6_tellYear_61 : decode cX6_tellYear 61 = .ok (.if_icmp .ge 19, 3) := by decide +kernel
theorem dX6_tellYear_64 : decode cX6_tellYear 64 = .ok (.iload_n 1, 1) := by decide +kernel
theorem dX6_tellYear_65 : decode cX6_tellYear 65 = .ok (.ifCond .ne 10, 3) := by decide +kernel
theorem dX6_tellYear_68 : decode cX6_tellYear 68 = .ok (.aload_n 0, 1) := by decide +kernel
theorem dX6_tellYear_69 : decode cX6_tellYear 69 = .ok (.getfield 185, 3) := by decide +kernel
theorem dX6_tellYear_72 : decode cX6_tellYear 72 = .ok (.goto 7, 3) := by decide +kernel
theorem dX6_tellYear_75 : decode cX6_tellYear 75 = .ok (.aload_n 0, 1) := by decide +kernel
theorem dX6_tellYear_76 : decode cX6_tellYear 76 = .ok (.invokevirtual 175, 3) := by decide +kernel
theorem dX6_tellYear_79 : decode cX6_tellYear 79 = .ok (.ireturn, 1) := by decide +kernel
theorem dX6_tellYear_80 : decode cX6_tellYear 80 = .ok (.iconst 0, 1) := by decide +kernel
theorem dX6_tellYear_81 : decode cX6_tellYear 81 = .ok (.istore_n 2, 1) := by decide +kernel
theorem dX6_tellYear_82 : decode cX6_tellYear 82 = .ok (.iconst 1, 1) := by decide +kernel
theorem dX6_tellYear_83 : decode cX6_tellYear 83 = .ok (.istore_n 3, 1) := by decide +kernel
theorem dX6_tellYear_84 : decode cX6_tellYear 84 = .ok (.iload_n 3, 1) := by decide +kernel
theorem dX6_tellYear_85 : decode cX6_tellYear 85 = .ok (.aload_n 0, 1) := by decide +kernel
theorem dX6_tellYear_86 : decode cX6_tellYear 86 = .ok (.getfield 74, 3) := by decide +kernel
theorem dX6_tellYear_89 : decode cX6_tellYear 89 = .ok (.if_icmp .ge 34, 3) := by decide +kernel
theorem dX6_tellYear_92 : decode cX6_tellYear 92 = .ok (.aload_n 0, 1) := by decide +kernel
theorem dX6_tellYear_93 : decode cX6_tellYear 93 = .ok (.iload_n 3, 1) := by decide +kernel
theorem dX6_tellYear_94 : decode cX6_tellYear 94 = .ok (.invokevirtual 148, 3) := by decide +kernel
theorem dX6_tellYear_97 : decode cX6_tellYear 97 = .ok (.invokestatic 151, 3) := by decide +kernel
theorem dX6_tellYear_100 : decode cX6_tellYear 100 = .ok (.aload_n 0, 1) := by decide +kernel
theorem dX6_tellYear_101 : decode cX6_tellYear 101 = .ok (.iload_n 2, 1) := by decide +kernel
theorem dX6_tellYear_102 : decode cX6_tellYear 102 = .ok (.invokevirtual 148, 3) := by decide +kernel
theorem dX6_tellYear_105 : decode cX6_tellYear 105 = .ok (.invokestatic 151, 3) := by decide +kernel
theorem dX6_tellYear_108 : decode cX6_tellYear 108 = .ok (.if_icmp .le 7, 3) := by decide +kernel
theorem dX6_tellYear_111 : decode cX6_tellYear 111 = .ok (.iload_n 3, 1) := by decide +kernel
theorem dX6_tellYear_112 : decode cX6_tellYear 112 = .ok (.goto 4, 3) := by decide +kernel
theorem dX6_tellYear_115 : decode cX6_tellYear 115 = .ok (.iload_n 2, 1) := by decide +kernel
theorem dX6_tellYear_116 : decode cX6_tellYear 116 = .ok (.istore_n 2, 1) := by decide +kernel
theorem dX6_tellYear_117 : decode cX6_tellYear 117 = .ok (.iinc 3 1, 3) := by decide +kernel
theorem dX6_tellYear_120 : decode cX6_tellYear 120 = .ok (.goto (-36), 3) := by decide +kernel
theorem dX6_tellYear_123 : decode cX6_tellYear 123 = .ok (.iload_n 2, 1) := by decide +kernel
theorem dX6_tellYear_124 : decode cX6_tellYear 124 = .ok (.ireturn, 1) := by decide +kernel
theorem dX6_best_0 : decode cX6_best 0 = .ok (.iload_n 1, 1) := by decide +kernel
theorem dX6_best_1 : decode cX6_best 1 = .ok (.iconst 0, 1) := by decide +kernel
theorem dX6_best_2 : decode cX6_best 2 = .ok (.iconst 1, 1) := by decide +kernel
theorem dX6_best_3 : decode cX6_best 3 = .ok (.invokestatic 70, 3) := by decide +kernel
theorem dX6_best_6 : decode cX6_best 6 = .ok (.ifCond .ne 6, 3) := by decide +kernel
theorem dX6_best_9 : decode cX6_best 9 = .ok (.bipush (-2), 2) := by decide +kernel
theorem dX6_best_11 : decode cX6_best 11 = .ok (.ireturn, 1) := by decide +kernel
theorem dX6_best_12 : decode cX6_best 12 = .ok (.aload_n 0, 1) := by decide +kernel
theorem dX6_best_13 : decode cX6_best 13 = .ok (.getfield 74, 3) := by decide +kernel
theorem dX6_best_16 : decode cX6_best 16 = .ok (.ifCond .ne 6, 3) := by decide +kernel
theorem dX6_best_19 : decode cX6_best 19 = .ok (.bipush (-3), 2) := by decide +kernel
theorem dX6_best_21 : decode cX6_best 21 = .ok (.ireturn, 1) := by decide +kernel
theorem dX6_best_22 : decode cX6_best 22 = .ok (.bipush (-9), 2) := by decide +kernel
theorem dX6_best_24 : decode cX6_best 24 = .ok (.istore_n 2, 1) := by decide +kernel
theorem dX6_best_25 : decode cX6_best 25 = .ok (.bipush (-9), 2) := by decide +kernel
theorem dX6_best_27 : decode cX6_best 27 = .ok (.istore_n 3, 1) := by decide +kernel
theorem dX6_best_28 : decode cX6_best 28 = .ok (.iconst 0, 1) := by decide +kernel
theorem dX6_best_29 : decode cX6_best 29 = .ok (.istore 4, 2) := by decide +kernel
theorem dX6_best_31 : decode cX6_best 31 = .ok (.iload 4, 2) := by decide +kernel
theorem dX6_best_33 : decode cX6_best 33 = .ok (.bipush 10, 2) := by decide +kernel
theorem dX6_best_35 : decode cX6_best 35 = .ok (.if_icmp .ge 50, 3) := by decide +kernel
theorem dX6_best_38 : decode cX6_best 38 = .ok (.aload_n 0, 1) := by decide +kernel
theorem dX6_best_39 : decode cX6_best 39 = .ok (.aload_n 0, 1) := by decide +kernel
theorem dX6_best_40 : decode cX6_best 40 = .ok (.iload 4, 2) := by decide +kernel
theorem dX6_best_42 : decode cX6_best 42 = .ok (.invokevirtual 179, 3) := by decide +kernel
theorem dX6_best_45 : decode cX6_best 45 = .ok (.invokevirtual 172, 3) := by decide +kernel
theorem dX6_best_48 : decode cX6_best 48 = .ok (.invokestatic 151, 3) := by decide +kernel
theorem dX6_best_51 : decode cX6_best 51 = .ok (.istore 5, 2) := by decide +kernel
theorem dX6_best_53 : decode cX6_best 53 = .ok (.iload 5, 2) := by decide +kernel
theorem dX6_best_55 : decode cX6_best 55 = .ok (.iload_n 3, 1) := by decide +kernel
theorem dX6_best_56 : decode cX6_best 56 = .ok (.if_icmp .le 8, 3) := by decide +kernel
theorem dX6_best_59 : decode cX6_best 59 = .ok (.iload 4, 2) := by decide +kernel
theorem dX6_best_61 : decode cX6_best 61 = .ok (.goto 4, 3) := by decide +kernel
theorem dX6_best_64 : decode cX6_best 64 = .ok (.iload_n 2, 1) := by decide +kernel
theorem dX6_best_65 : decode cX6_best 65 = .ok (.istore_n 2, 1) := by decide +kernel
theorem dX6_best_66 : decode cX6_best 66 = .ok (.iload 5, 2) := by decide +kernel
theorem dX6_best_68 : decode cX6_best 68 = .ok (.iload_n 3, 1) := by decide +kernel
theorem dX6_best_69 : decode cX6_best 69 = .ok (.if_icmp .le 8, 3) := by decide +kernel
theorem dX6_best_72 : decode cX6_best 72 = .ok (.iload 5, 2) := by decide +kernel
theorem dX6_best_74 : decode cX6_best 74 = .ok (.goto 4, 3) := by decide +kernel
theorem dX6_best_77 : decode cX6_best 77 = .ok (.iload_n 3, 1) := by decide +kernel
theorem dX6_best_78 : decode cX6_best 78 = .ok (.istore_n 3, 1) := by decide +kernel
theorem dX6_best_79 : decode cX6_best 79 = .ok (.iinc 4 1, 3) := by decide +kernel
theorem dX6_best_82 : decode cX6_best 82 = .ok (.goto (-51), 3) := by decide +kernel
theorem dX6_best_85 : decode cX6_best 85 = .ok (.iload_n 1, 1) := by decide +kernel
theorem dX6_best_86 : decode cX6_best 86 = .ok (.ifCond .ne 7, 3) := by decide +kernel
theorem dX6_best_89 : decode cX6_best 89 = .ok (.iload_n 2, 1) := by decide +kernel
theorem dX6_best_90 : decode cX6_best 90 = .ok (.goto 4, 3) := by decide +kernel
theorem dX6_best_93 : decode cX6_best 93 = .ok (.iload_n 3, 1) := by decide +kernel
theorem dX6_best_94 : decode cX6_best 94 = .ok (.ireturn, 1) := by decide +kernel
theorem dX6_turn_0 : decode cX6_turn 0 = .ok (.iload_n 1, 1) := by decide +kernel
theorem dX6_turn_1 : decode cX6_turn 1 = .ok (.invokestatic 160, 3) := by decide +kernel
theorem dX6_turn_4 : decode cX6_turn 4 = .ok (.ifCond .ne 6, 3) := by decide +kernel
theorem dX6_turn_7 : decode cX6_turn 7 = .ok (.bipush (-2), 2) := by decide +kernel
theorem dX6_turn_9 : decode cX6_turn 9 = .ok (.ireturn, 1) := by decide +kernel
theorem dX6_turn_10 : decode cX6_turn 10 = .ok (.aload_n 0, 1) := by decide +kernel
theorem dX6_turn_11 : decode cX6_turn 11 = .ok (.getfield 74, 3) := by decide +kernel
theorem dX6_turn_14 : decode cX6_turn 14 = .ok (.ifCond .ne 6, 3) := by decide +kernel
theorem dX6_turn_17 : decode cX6_turn 17 = .ok (.bipush (-3), 2) := by decide +kernel
theorem dX6_turn_19 : decode cX6_turn 19 = .ok (.ireturn, 1) := by decide +kernel
theorem dX6_turn_20 : decode cX6_turn 20 = .ok (.aload_n 0, 1) := by decide +kernel
theorem dX6_turn_21 : decode cX6_turn 21 = .ok (.iload_n 1, 1) := by decide +kernel
theorem dX6_turn_22 : decode cX6_turn 22 = .ok (.invokevirtual 179, 3) := by decide +kernel
theorem dX6_turn_25 : decode cX6_turn 25 = .ok (.istore_n 2, 1) := by decide +kernel
theorem dX6_turn_26 : decode cX6_turn 26 = .ok (.bipush (-9), 2) := by decide +kernel
theorem dX6_turn_28 : decode cX6_turn 28 = .ok (.istore_n 3, 1) := by decide +kernel
theorem dX6_turn_29 : decode cX6_turn 29 = .ok (.iconst 0, 1) := by decide +kernel
theorem dX6_turn_30 : decode cX6_turn 30 = .ok (.istore 4, 2) := by decide +kernel
theorem dX6_turn_32 : decode cX6_turn 32 = .ok (.iload 4, 2) := by decide +kernel
theorem dX6_turn_34 : decode cX6_turn 34 = .ok (.iconst 1, 1) := by decide +kernel
theorem dX6_turn_35 : decode cX6_turn 35 = .ok (.aload_n 0, 1) := by decide +kernel
theorem dX6_turn_36 : decode cX6_turn 36 = .ok (.getfield 77, 3) := by decide +kernel
theorem dX6_turn_39 : decode cX6_turn 39 = .ok (.ishl, 1) := by decide +kernel
theorem dX6_turn_40 : decode cX6_turn 40 = .ok (.if_icmp .ge 48, 3) := by decide +kernel
theorem dX6_turn_43 : decode cX6_turn 43 = .ok (.iload 4, 2) := by decide +kernel
theorem dX6_turn_45 : decode cX6_turn 45 = .ok (.iload_n 2, 1) := by decide +kernel
theorem dX6_turn_46 : decode cX6_turn 46 = .ok (.iand, 1) := by decide +kernel
theorem dX6_turn_47 : decode cX6_turn 47 = .ok (.ifCond .ne 35, 3) := by decide +kernel
theorem dX6_turn_50 : decode cX6_turn 50 = .ok (.iload_n 3, 1) := by decide +kernel
theorem dX6_turn_51 : decode cX6_turn 51 = .ok (.bipush (-9), 2) := by decide +kernel
theorem dX6_turn_53 : decode cX6_turn 53 = .ok (.if_icmp .eq 15, 3) := by decide +kernel
theorem dX6_turn_56 : decode cX6_turn 56 = .ok (.iload 4, 2) := by decide +kernel
theorem dX6_turn_58 : decode cX6_turn 58 = .ok (.invokestatic 151, 3) := by decide +kernel
theorem dX6_turn_61 : decode cX6_turn 61 = .ok (.iload_n 3, 1) := by decide +kernel
theorem dX6_turn_62 : decode cX6_turn 62 = .ok (.invokestatic 151, 3) := by decide +kernel
theorem dX6_turn_65 : decode cX6_turn 65 = .ok (.if_icmp .ge 17, 3) := by decide +kernel
theorem dX6_turn_68 : decode cX6_turn 68 = .ok (.aload_n 0, 1) := by decide +kernel
theorem dX6_turn_69 : decode cX6_turn 69 = .ok (.iload_n 2, 1) := by decide +kernel
theorem dX6_turn_70 : decode cX6_turn 70 = .ok (.iload 4, 2) := by decide +kernel
theorem dX6_turn_72 : decode cX6_turn 72 = .ok (.ior, 1) := by decide +kernel
theorem dX6_turn_73 : decode cX6_turn 73 = .ok (.invokevirtual 182, 3) := by decide +kernel
theorem dX6_turn_76 : decode cX6_turn 76 = .ok (.ifCond .eq 6, 3) := by decide +kernel
theorem dX6_turn_79 : decode cX6_turn 79 = .ok (.iload 4, 2) := by decide +kernel
theorem dX6_turn_81 : decode cX6_turn 81 = .ok (.istore_n 3, 1) := by decide +kernel
theorem dX6_turn_82 : decode cX6_turn 82 = .ok (.iinc 4 1, 3) := by decide +kernel
theorem dX6_turn_85 : decode cX6_turn 85 = .ok (.goto (-53), 3) := by decide +kernel
theorem dX6_turn_88 : decode cX6_turn 88 = .ok (.iload_n 3, 1) := by decide +kernel
theorem dX6_turn_89 : decode cX6_turn 89 = .ok (.ireturn, 1) := by decide +kernel
theorem dX6_driftOf_0 : decode cX6_driftOf 0 = .ok (.iload_n 1, 1) := by decide +kernel
theorem dX6_driftOf_1 : decode cX6_driftOf 1 = .ok (.istore 4, 2) := by decide +kernel
theorem dX6_driftOf_3 : decode cX6_driftOf 3 = .ok (.iconst 0, 1) := by decide +kernel
theorem dX6_driftOf_4 : decode cX6_driftOf 4 = .ok (.istore 5, 2) := by decide +kernel
theorem dX6_driftOf_6 : decode cX6_driftOf 6 = .ok (.iload 5, 2) := by decide +kernel
theorem dX6_driftOf_8 : decode cX6_driftOf 8 = .ok (.iload_n 3, 1) := by decide +kernel
theorem dX6_driftOf_9 : decode cX6_driftOf 9 = .ok (.if_icmp .ge 99, 3) := by decide +kernel
theorem dX6_driftOf_12 : decode cX6_driftOf 12 = .ok (.iconst 1, 1) := by decide +kernel
theorem dX6_driftOf_13 : decode cX6_driftOf 13 = .ok (.istore 6, 2) := by decide +kernel
theorem dX6_driftOf_15 : decode cX6_driftOf 15 = .ok (.iconst 0, 1) := by decide +kernel
theorem dX6_driftOf_16 : decode cX6_driftOf 16 = .ok (.istore 7, 2) := by decide +kernel
theorem dX6_driftOf_18 : decode cX6_driftOf 18 = .ok (.iload 7, 2) := by decide +kernel
theorem dX6_driftOf_20 : decode cX6_driftOf 20 = .ok (.aload_n 0, 1) := by decide +kernel
theorem dX6_driftOf_21 : decode cX6_driftOf 21 = .ok (.getfield 77, 3) := by decide +kernel
theorem dX6_driftOf_24 : decode cX6_driftOf 24 = .ok (.if_icmp .ge 71, 3) := by decide +kernel
theorem dX6_driftOf_27 : decode cX6_driftOf 27 = .ok (.aload_n 0, 1) := by decide +kernel
theorem dX6_driftOf_28 : decode cX6_driftOf 28 = .ok (.getfield 28, 3) := by decide +kernel
theorem dX6_driftOf_31 : decode cX6_driftOf 31 = .ok (.iload 7, 2) := by decide +kernel
theorem dX6_driftOf_33 : decode cX6_driftOf 33 = .ok (.iaload, 1) := by decide +kernel
theorem dX6_driftOf_34 : decode cX6_driftOf 34 = .ok (.aload_n 0, 1) := by decide +kernel
theorem dX6_driftOf_35 : decode cX6_driftOf 35 = .ok (.getfield 16, 3) := by decide +kernel
theorem dX6_driftOf_38 : decode cX6_driftOf 38 = .ok (.iload_n 2, 1) := by decide +kernel
theorem dX6_driftOf_39 : decode cX6_driftOf 39 = .ok (.iload 5, 2) := by decide +kernel
theorem dX6_driftOf_41 : decode cX6_driftOf 41 = .ok (.iadd, 1) := by decide +kernel
theorem dX6_driftOf_42 : decode cX6_driftOf 42 = .ok (.iaload, 1) := by decide +kernel
theorem dX6_driftOf_43 : decode cX6_driftOf 43 = .ok (.if_icmp .ne 7, 3) := by decide +kernel
theorem dX6_driftOf_46 : decode cX6_driftOf 46 = .ok (.iconst 1, 1) := by decide +kernel
theorem dX6_driftOf_47 : decode cX6_driftOf 47 = .ok (.goto 4, 3) := by decide +kernel
theorem dX6_driftOf_50 : decode cX6_driftOf 50 = .ok (.iconst 0, 1) := by decide +kernel
theorem dX6_driftOf_51 : decode cX6_driftOf 51 = .ok (.istore 8, 2) := by decide +kernel
theorem dX6_driftOf_53 : decode cX6_driftOf 53 = .ok (.iload 4, 2) := by decide +kernel
theorem dX6_driftOf_55 : decode cX6_driftOf 55 = .ok (.iload 8, 2) := by decide +kernel
theorem dX6_driftOf_57 : decode cX6_driftOf 57 = .ok (.ifCond .eq 13, 3) := by decide +kernel
theorem dX6_driftOf_60 : decode cX6_driftOf 60 = .ok (.aload_n 0, 1) := by decide +kernel
theorem dX6_driftOf_61 : decode cX6_driftOf 61 = .ok (.getfield 31, 3) := by decide +kernel
theorem dX6_driftOf_64 : decode cX6_driftOf 64 = .ok (.iload 7, 2) := by decide +kernel
theorem dX6_driftOf_66 : decode cX6_driftOf 66 = .ok (.iaload, 1) := by decide +kernel
theorem dX6_driftOf_67 : decode cX6_driftOf 67 = .ok (.goto 4, 3) := by decide +kernel
theorem dX6_driftOf_70 : decode cX6_driftOf 70 = .ok (.iconst 0, 1) := by decide +kernel
theorem dX6_driftOf_71 : decode cX6_driftOf 71 = .ok (.iadd, 1) := by decide +kernel
theorem dX6_driftOf_72 : decode cX6_driftOf 72 = .ok (.istore 4, 2) := by decide +kernel
theorem dX6_driftOf_74 : decode cX6_driftOf 74 = .ok (.iload 6, 2) := by decide +kernel
theorem dX6_driftOf_76 : decode cX6_driftOf 76 = .ok (.iload 8, 2) := by decide +kernel
theorem dX6_driftOf_78 : decode cX6_driftOf 78 = .ok (.ifCond .eq 7, 3) := by decide +kernel
theorem dX6_driftOf_81 : decode cX6_driftOf 81 = .ok (.iconst 1, 1) := by decide +kernel
theorem dX6_driftOf_82 : decode cX6_driftOf 82 = .ok (.goto 4, 3) := by decide +kernel
theorem dX6_driftOf_85 : decode cX6_driftOf 85 = .ok (.iconst 0, 1) := by decide +kernel
theorem dX6_driftOf_86 : decode cX6_driftOf 86 = .ok (.iadd, 1) := by decide +kernel
theorem dX6_driftOf_87 : decode cX6_driftOf 87 = .ok (.istore 6, 2) := by decide +kernel
theorem dX6_driftOf_89 : decode cX6_driftOf 89 = .ok (.iinc 7 1, 3) := by decide +kernel
theorem dX6_driftOf_92 : decode cX6_driftOf 92 = .ok (.goto (-74), 3) := by decide +kernel
theorem dX6_driftOf_95 : decode cX6_driftOf 95 = .ok (.iload 4, 2) := by decide +kernel
theorem dX6_driftOf_97 : decode cX6_driftOf 97 = .ok (.iload 6, 2) := by decide +kernel
theorem dX6_driftOf_99 : decode cX6_driftOf 99 = .ok (.idiv, 1) := by decide +kernel
theorem dX6_driftOf_100 : decode cX6_driftOf 100 = .ok (.istore 4, 2) := by decide +kernel
theorem dX6_driftOf_102 : decode cX6_driftOf 102 = .ok (.iinc 5 1, 3) := by decide +kernel
theorem dX6_driftOf_105 : decode cX6_driftOf 105 = .ok (.goto (-99), 3) := by decide +kernel
theorem dX6_driftOf_108 : decode cX6_driftOf 108 = .ok (.iload 4, 2) := by decide +kernel
theorem dX6_driftOf_110 : decode cX6_driftOf 110 = .ok (.ireturn, 1) := by decide +kernel
theorem dX6_drift_0 : decode cX6_drift 0 = .ok (.aload_n 0, 1) := by decide +kernel
theorem dX6_drift_1 : decode cX6_drift 1 = .ok (.iconst 0, 1) := by decide +kernel
theorem dX6_drift_2 : decode cX6_drift 2 = .ok (.putfield 64, 3) := by decide +kernel
theorem dX6_drift_5 : decode cX6_drift 5 = .ok (.iload_n 1, 1) := by decide +kernel
theorem dX6_drift_6 : decode cX6_drift 6 = .ok (.invokestatic 83, 3) := by decide +kernel
theorem dX6_drift_9 : decode cX6_drift 9 = .ok (.ifCond .ne 5, 3) := by decide +kernel
theorem dX6_drift_12 : decode cX6_drift 12 = .ok (.iconst (-1), 1) := by decide +kernel
theorem dX6_drift_13 : decode cX6_drift 13 = .ok (.ireturn, 1) := by decide +kernel
theorem dX6_drift_14 : decode cX6_drift 14 = .ok (.iload_n 2, 1) := by decide +kernel
theorem dX6_drift_15 : decode cX6_drift 15 = .ok (.invokestatic 87, 3) := by decide +kernel
theorem dX6_drift_18 : decode cX6_drift 18 = .ok (.ifCond .eq 32, 3) := by decide +kernel
theorem dX6_drift_21 : decode cX6_drift 21 = .ok (.iload 4, 2) := by decide +kernel
theorem dX6_drift_23 : decode cX6_drift 23 = .ok (.iconst 0, 1) := by decide +kernel
theorem dX6_drift_24 : decode cX6_drift 24 = .ok (.bipush 20, 2) := by decide +kernel
theorem dX6_drift_26 : decode cX6_drift 26 = .ok (.invokestatic 70, 3) := by decide +kernel
theorem dX6_drift_29 : decode cX6_drift 29 = .ok (.ifCond .eq 21, 3) := by decide +kernel
theorem dX6_drift_32 : decode cX6_drift 32 = .ok (.iload 5, 2) := by decide +kernel
theorem dX6_drift_34 : decode cX6_drift 34 = .ok (.invokestatic 160, 3) := by decide +kernel
theorem dX6_drift_37 : decode cX6_drift 37 = .ok (.ifCond .eq 13, 3) := by decide +kernel
theorem dX6_drift_40 : decode cX6_drift 40 = .ok (.iload 6, 2) := by decide +kernel
theorem dX6_drift_42 : decode cX6_drift 42 = .ok (.iconst 0, 1) := by decide +kernel
theorem dX6_drift_43 : decode cX6_drift 43 = .ok (.iconst 1, 1) := by decide +kernel
theorem dX6_drift_44 : decode cX6_drift 44 = .ok (.invokestatic 70, 3) := by decide +kernel
theorem dX6_drift_47 : decode cX6_drift 47 = .ok (.ifCond .ne 6, 3) := by decide +kernel
theorem dX6_drift_50 : decode cX6_drift 50 = .ok (.bipush (-2), 2) := by decide +kernel
theorem dX6_drift_52 : decode cX6_drift 52 = .ok (.ireturn, 1) := by decide +kernel
theorem dX6_drift_53 : decode cX6_drift 53 = .ok (.aload_n 0, 1) := by decide +kernel
theorem dX6_drift_54 : decode cX6_drift 54 = .ok (.iload_n 1, 1) := by decide +kernel
theorem dX6_drift_55 : decode cX6_drift 55 = .ok (.iload_n 2, 1) := by decide +kernel
theorem dX6_drift_56 : decode cX6_drift 56 = .ok (.iload_n 3, 1) := by decide +kernel
theorem dX6_drift_57 : decode cX6_drift 57 = .ok (.iload 4, 2) := by decide +kernel
theorem dX6_drift_59 : decode cX6_drift 59 = .ok (.invokevirtual 90, 3) := by decide +kernel
theorem dX6_drift_62 : decode cX6_drift 62 = .ok (.istore 7, 2) := by decide +kernel
theorem dX6_drift_64 : decode cX6_drift 64 = .ok (.iload 7, 2) := by decide +kernel
theorem dX6_drift_66 : decode cX6_drift 66 = .ok (.ifCond .eq 10, 3) := by decide +kernel
theorem dX6_drift_69 : decode cX6_drift 69 = .ok (.aload_n 0, 1) := by decide +kernel
theorem dX6_drift_70 : decode cX6_drift 70 = .ok (.iload 7, 2) := by decide +kernel
theorem dX6_drift_72 : decode cX6_drift 72 = .ok (.invokevirtual 94, 3) := by decide +kernel
theorem dX6_drift_75 : decode cX6_drift 75 = .ok (.ireturn, 1) := by decide +kernel
theorem dX6_drift_76 : decode cX6_drift 76 = .ok (.aload_n 0, 1) := by decide +kernel
theorem dX6_drift_77 : decode cX6_drift 77 = .ok (.getfield 74, 3) := by decide +kernel
theorem dX6_drift_80 : decode cX6_drift 80 = .ok (.ifCond .ne 6, 3) := by decide +kernel
theorem dX6_drift_83 : decode cX6_drift 83 = .ok (.bipush (-3), 2) := by decide +kernel
theorem dX6_drift_85 : decode cX6_drift 85 = .ok (.ireturn, 1) := by decide +kernel
theorem dX6_drift_86 : decode cX6_drift 86 = .ok (.bipush 60, 2) := by decide +kernel
theorem dX6_drift_88 : decode cX6_drift 88 = .ok (.iload_n 1, 1) := by decide +kernel
theorem dX6_drift_89 : decode cX6_drift 89 = .ok (.imul, 1) := by decide +kernel
theorem dX6_drift_90 : decode cX6_drift 90 = .ok (.iload_n 3, 1) := by decide +kernel
theorem dX6_drift_91 : decode cX6_drift 91 = .ok (.iadd, 1) := by decide +kernel
theorem dX6_drift_92 : decode cX6_drift 92 = .ok (.istore 8, 2) := by decide +kernel
theorem dX6_drift_94 : decode cX6_drift 94 = .ok (.iconst 0, 1) := by decide +kernel
theorem dX6_drift_95 : decode cX6_drift 95 = .ok (.istore 9, 2) := by decide +kernel
theorem dX6_drift_97 : decode cX6_drift 97 = .ok (.iload 9, 2) := by decide +kernel
theorem dX6_drift_99 : decode cX6_drift 99 = .ok (.iload 4, 2) := by decide +kernel
theorem dX6_drift_101 : decode cX6_drift 101 = .ok (.if_icmp .ge 28, 3) := by decide +kernel
theorem dX6_drift_104 : decode cX6_drift 104 = .ok (.aload_n 0, 1) := by decide +kernel
theorem dX6_drift_105 : decode cX6_drift 105 = .ok (.aload_n 0, 1) := by decide +kernel
theorem dX6_drift_106 : decode cX6_drift 106 = .ok (.getfield 16, 3) := by decide +kernel
theorem dX6_drift_109 : decode cX6_drift 109 = .ok (.iload 8, 2) := by decide +kernel
theorem dX6_drift_111 : decode cX6_drift 111 = .ok (.iload 9, 2) := by decide +kernel
theorem dX6_drift_113 : decode cX6_drift 113 = .ok (.iadd, 1) := by decide +kernel
theorem dX6_drift_114 : decode cX6_drift 114 = .ok (.iaload, 1) := by decide +kernel
theorem dX6_drift_115 : decode cX6_drift 115 = .ok (.invokevirtual 145, 3) := by decide +kernel
theorem dX6_drift_118 : decode cX6_drift 118 = .ok (.ifCond .ne 5, 3) := by decide +kernel
theorem dX6_drift_121 : decode cX6_drift 121 = .ok (.iconst (-1), 1) := by decide +kernel
theorem dX6_drift_122 : decode cX6_drift 122 = .ok (.ireturn, 1) := by decide +kernel
theorem dX6_drift_123 : decode cX6_drift 123 = .ok (.iinc 9 1, 3) := by decide +kernel
theorem dX6_drift_126 : decode cX6_drift 126 = .ok (.goto (-29), 3) := by decide +kernel
theorem dX6_drift_129 : decode cX6_drift 129 = .ok (.iload 6, 2) := by decide +kernel
theorem dX6_drift_131 : decode cX6_drift 131 = .ok (.ifCond .ne 14, 3) := by decide +kernel
theorem dX6_drift_134 : decode cX6_drift 134 = .ok (.aload_n 0, 1) := by decide +kernel
theorem dX6_drift_135 : decode cX6_drift 135 = .ok (.iload 5, 2) := by decide +kernel
theorem dX6_drift_137 : decode cX6_drift 137 = .ok (.iload 8, 2) := by decide +kernel
theorem dX6_drift_139 : decode cX6_drift 139 = .ok (.iload 4, 2) := by decide +kernel
theorem dX6_drift_141 : decode cX6_drift 141 = .ok (.invokevirtual 195, 3) := by decide +kernel
theorem dX6_drift_144 : decode cX6_drift 144 = .ok (.ireturn, 1) := by decide +kernel
theorem dX6_drift_145 : decode cX6_drift 145 = .ok (.iconst 0, 1) := by decide +kernel
theorem dX6_drift_146 : decode cX6_drift 146 = .ok (.istore 9, 2) := by decide +kernel
theorem dX6_drift_148 : decode cX6_drift 148 = .ok (.iconst 0, 1) := by decide +kernel
theorem dX6_drift_149 : decode cX6_drift 149 = .ok (.istore 10, 2) := by decide +kernel
theorem dX6_drift_151 : decode cX6_drift 151 = .ok (.iload 10, 2) := by decide +kernel
theorem dX6_drift_153 : decode cX6_drift 153 = .ok (.bipush 10, 2) := by decide +kernel
theorem dX6_drift_155 : decode cX6_drift 155 = .ok (.if_icmp .ge 37, 3) := by decide +kernel
theorem dX6_drift_158 : decode cX6_drift 158 = .ok (.iload 9, 2) := by decide +kernel
theorem dX6_drift_160 : decode cX6_drift 160 = .ok (.aload_n 0, 1) := by decide +kernel
theorem dX6_drift_161 : decode cX6_drift 161 = .ok (.iload 10, 2) := by decide +kernel
theorem dX6_drift_163 : decode cX6_drift 163 = .ok (.iload 8, 2) := by decide +kernel
theorem dX6_drift_165 : decode cX6_drift 165 = .ok (.iload 4, 2) := by decide +kernel
theorem dX6_drift_167 : decode cX6_drift 167 = .ok (.invokevirtual 195, 3) := by decide +kernel
theorem dX6_drift_170 : decode cX6_drift 170 = .ok (.iload 5, 2) := by decide +kernel
theorem dX6_drift_172 : decode cX6_drift 172 = .ok (.if_icmp .ne 10, 3) := by decide +kernel
theorem dX6_drift_175 : decode cX6_drift 175 = .ok (.iconst 1, 1) := by decide +kernel
theorem dX6_drift_176 : decode cX6_drift 176 = .ok (.iload 10, 2) := by decide +kernel
theorem dX6_drift_178 : decode cX6_drift 178 = .ok (.ishl, 1) := by decide +kernel
theorem dX6_drift_179 : decode cX6_drift 179 = .ok (.goto 4, 3) := by decide +kernel
theorem dX6_drift_182 : decode cX6_drift 182 = .ok (.iconst 0, 1) := by decide +kernel
theorem dX6_drift_183 : decode cX6_drift 183 = .ok (.ior, 1) := by decide +kernel
theorem dX6_drift_184 : decode cX6_drift 184 = .ok (.istore 9, 2) := by decide +kernel
theorem dX6_drift_186 : decode cX6_drift 186 = .ok (.iinc 10 1, 3) := by decide +kernel
theorem dX6_drift_189 : decode cX6_drift 189 = .ok (.goto (-38), 3) := by decide +kernel
theorem dX6_drift_192 : decode cX6_drift 192 = .ok (.iload 9, 2) := by decide +kernel
theorem dX6_drift_194 : decode cX6_drift 194 = .ok (.ireturn, 1) := by decide +kernel
theorem dX6_isLeap_0 : decode cX6_isLeap 0 = .ok (.aload_n 0, 1) := by decide +kernel
theorem dX6_isLeap_1 : decode cX6_isLeap 1 = .ok (.getfield 19, 3) := by decide +kernel
theorem dX6_isLeap_4 : decode cX6_isLeap 4 = .ok (.iload_n 1, 1) := by decide +kernel
theorem dX6_isLeap_5 : decode cX6_isLeap 5 = .ok (.iaload, 1) := by decide +kernel
theorem dX6_isLeap_6 : decode cX6_isLeap 6 = .ok (.aload_n 0, 1) := by decide +kernel
theorem dX6_isLeap_7 : decode cX6_isLeap 7 = .ok (.getfield 19, 3) := by decide +kernel
theorem dX6_isLeap_10 : decode cX6_isLeap 10 = .ok (.iload_n 2, 1) := by decide +kernel
theorem dX6_isLeap_11 : decode cX6_isLeap 11 = .ok (.iaload, 1) := by decide +kernel
theorem dX6_isLeap_12 : decode cX6_isLeap 12 = .ok (.if_icmp .le 19, 3) := by decide +kernel
theorem dX6_isLeap_15 : decode cX6_isLeap 15 = .ok (.aload_n 0, 1) := by decide +kernel
theorem dX6_isLeap_16 : decode cX6_isLeap 16 = .ok (.getfield 19, 3) := by decide +kernel
theorem dX6_isLeap_19 : decode cX6_isLeap 19 = .ok (.iload_n 1, 1) := by decide +kernel
theorem dX6_isLeap_20 : decode cX6_isLeap 20 = .ok (.iaload, 1) := by decide +kernel
theorem dX6_isLeap_21 : decode cX6_isLeap 21 = .ok (.aload_n 0, 1) := by decide +kernel
theorem dX6_isLeap_22 : decode cX6_isLeap 22 = .ok (.getfield 19, 3) := by decide +kernel
theorem dX6_isLeap_25 : decode cX6_isLeap 25 = .ok (.iload_n 2, 1) := by decide +kernel
theorem dX6_isLeap_26 : decode cX6_isLeap 26 = .ok (.iaload, 1) := by decide +kernel
theorem dX6_isLeap_27 : decode cX6_isLeap 27 = .ok (.isub, 1) := by decide +kernel
theorem dX6_isLeap_28 : decode cX6_isLeap 28 = .ok (.goto 16, 3) := by decide +kernel
theorem dX6_isLeap_31 : decode cX6_isLeap 31 = .ok (.aload_n 0, 1) := by decide +kernel
theorem dX6_isLeap_32 : decode cX6_isLeap 32 = .ok (.getfield 19, 3) := by decide +kernel
theorem dX6_isLeap_35 : decode cX6_isLeap 35 = .ok (.iload_n 2, 1) := by decide +kernel
theorem dX6_isLeap_36 : decode cX6_isLeap 36 = .ok (.iaload, 1) := by decide +kernel
theorem dX6_isLeap_37 : decode cX6_isLeap 37 = .ok (.aload_n 0, 1) := by decide +kernel
theorem dX6_isLeap_38 : decode cX6_isLeap 38 = .ok (.getfield 19, 3) := by decide +kernel
theorem dX6_isLeap_41 : decode cX6_isLeap 41 = .ok (.iload_n 1, 1) := by decide +kernel
theorem dX6_isLeap_42 : decode cX6_isLeap 42 = .ok (.iaload, 1) := by decide +kernel
theorem dX6_isLeap_43 : decode cX6_isLeap 43 = .ok (.isub, 1) := by decide +kernel
theorem dX6_isLeap_44 : decode cX6_isLeap 44 = .ok (.istore_n 3, 1) := by decide +kernel
theorem dX6_isLeap_45 : decode cX6_isLeap 45 = .ok (.iload_n 1, 1) := by decide +kernel
theorem dX6_isLeap_46 : decode cX6_isLeap 46 = .ok (.iload_n 2, 1) := by decide +kernel
theorem dX6_isLeap_47 : decode cX6_isLeap 47 = .ok (.if_icmp .eq 15, 3) := by decide +kernel
theorem dX6_isLeap_50 : decode cX6_isLeap 50 = .ok (.iload_n 3, 1) := by decide +kernel
theorem dX6_isLeap_51 : decode cX6_isLeap 51 = .ok (.aload_n 0, 1) := by decide +kernel
theorem dX6_isLeap_52 : decode cX6_isLeap 52 = .ok (.getfield 119, 3) := by decide +kernel
theorem dX6_isLeap_55 : decode cX6_isLeap 55 = .ok (.if_icmp .gt 7, 3) := by decide +kernel
theorem dX6_isLeap_58 : decode cX6_isLeap 58 = .ok (.iconst 1, 1) := by decide +kernel
theorem dX6_isLeap_59 : decode cX6_isLeap 59 = .ok (.goto 4, 3) := by decide +kernel
theorem dX6_isLeap_62 : decode cX6_isLeap 62 = .ok (.iconst 0, 1) := by decide +kernel
theorem dX6_isLeap_63 : decode cX6_isLeap 63 = .ok (.ireturn, 1) := by decide +kernel
theorem dX6_findLeaps_0 : decode cX6_findLeaps 0 = .ok (.iconst 0, 1) := by decide +kernel
theorem dX6_findLeaps_1 : decode cX6_findLeaps 1 = .ok (.istore_n 2, 1) := by decide +kernel
theorem dX6_findLeaps_2 : decode cX6_findLeaps 2 = .ok (.iload_n 2, 1) := by decide +kernel
theorem dX6_findLeaps_3 : decode cX6_findLeaps 3 = .ok (.aload_n 0, 1) := by decide +kernel
theorem dX6_findLeaps_4 : decode cX6_findLeaps 4 = .ok (.getfield 74, 3) := by decide +kernel
theorem dX6_findLeaps_7 : decode cX6_findLeaps 7 = .ok (.if_icmp .ge 26, 3) := by decide +kernel
theorem dX6_findLeaps_10 : decode cX6_findLeaps 10 = .ok (.aload_n 0, 1) := by decide +kernel
theorem dX6_findLeaps_11 : decode cX6_findLeaps 11 = .ok (.getfield 52, 3) := by decide +kernel
theorem dX6_findLeaps_14 : decode cX6_findLeaps 14 = .ok (.iload_n 2, 1) := by decide +kernel
theorem dX6_findLeaps_15 : decode cX6_findLeaps 15 = .ok (.iload_n 2, 1) := by decide +kernel
theorem dX6_findLeaps_16 : decode cX6_findLeaps 16 = .ok (.iload_n 1, 1) := by decide +kernel
theorem dX6_findLeaps_17 : decode cX6_findLeaps 17 = .ok (.if_icmp .ne 7, 3) := by decide +kernel
theorem dX6_findLeaps_20 : decode cX6_findLeaps 20 = .ok (.iconst 0, 1) := by decide +kernel
theorem dX6_findLeaps_21 : decode cX6_findLeaps 21 = .ok (.goto 5, 3) := by decide +kernel
theorem dX6_findLeaps_24 : decode cX6_findLeaps 24 = .ok (.bipush (-9), 2) := by decide +kernel
theorem dX6_findLeaps_26 : decode cX6_findLeaps 26 = .ok (.iastore, 1) := by decide +kernel
theorem dX6_findLeaps_27 : decode cX6_findLeaps 27 = .ok (.iinc 2 1, 3) := by decide +kernel
theorem dX6_findLeaps_30 : decode cX6_findLeaps 30 = .ok (.goto (-28), 3) := by decide +kernel
theorem dX6_findLeaps_33 : decode cX6_findLeaps 33 = .ok (.iconst 0, 1) := by decide +kernel
theorem dX6_findLeaps_34 : decode cX6_findLeaps 34 = .ok (.istore_n 2, 1) := by decide +kernel
theorem dX6_findLeaps_35 : decode cX6_findLeaps 35 = .ok (.iload_n 2, 1) := by decide +kernel
theorem dX6_findLeaps_36 : decode cX6_findLeaps 36 = .ok (.bipush 6, 2) := by decide +kernel
theorem dX6_findLeaps_38 : decode cX6_findLeaps 38 = .ok (.if_icmp .ge 89, 3) := by decide +kernel
theorem dX6_findLeaps_41 : decode cX6_findLeaps 41 = .ok (.iconst 0, 1) := by decide +kernel
theorem dX6_findLeaps_42 : decode cX6_findLeaps 42 = .ok (.istore_n 3, 1) := by decide +kernel
theorem dX6_findLeaps_43 : decode cX6_findLeaps 43 = .ok (.iload_n 3, 1) := by decide +kernel
theorem dX6_findLeaps_44 : decode cX6_findLeaps 44 = .ok (.aload_n 0, 1) := by decide +kernel
theorem dX6_findLeaps_45 : decode cX6_findLeaps 45 = .ok (.getfield 74, 3) := by decide +kernel
theorem dX6_findLeaps_48 : decode cX6_findLeaps 48 = .ok (.if_icmp .ge 73, 3) := by decide +kernel
theorem dX6_findLeaps_51 : decode cX6_findLeaps 51 = .ok (.iconst 0, 1) := by decide +kernel
theorem dX6_findLeaps_52 : decode cX6_findLeaps 52 = .ok (.istore 4, 2) := by decide +kernel
theorem dX6_findLeaps_54 : decode cX6_findLeaps 54 = .ok (.iload 4, 2) := by decide +kernel
theorem dX6_findLeaps_56 : decode cX6_findLeaps 56 = .ok (.aload_n 0, 1) := by decide +kernel
theorem dX6_findLeaps_57 : decode cX6_findLeaps 57 = .ok (.getfield 74, 3) := by decide +kernel
theorem dX6_findLeaps_60 : decode cX6_findLeaps 60 = .ok (.if_icmp .ge 55, 3) := by decide +kernel
theorem dX6_findLeaps_63 : decode cX6_findLeaps 63 = .ok (.aload_n 0, 1) := by decide +kernel
theorem dX6_findLeaps_64 : decode cX6_findLeaps 64 = .ok (.getfield 52, 3) := by decide +kernel
theorem dX6_findLeaps_67 : decode cX6_findLeaps 67 = .ok (.iload_n 3, 1) := by decide +kernel
theorem dX6_findLeaps_68 : decode cX6_findLeaps 68 = .ok (.iaload, 1) := by decide +kernel
theorem dX6_findLeaps_69 : decode cX6_findLeaps 69 = .ok (.bipush (-9), 2) := by decide +kernel
theorem dX6_findLeaps_71 : decode cX6_findLeaps 71 = .ok (.if_icmp .ne 44, 3) := by decide +kernel
theorem dX6_findLeaps_74 : decode cX6_findLeaps 74 = .ok (.aload_n 0, 1) := by decide +kernel
theorem dX6_findLeaps_75 : decode cX6_findLeaps 75 = .ok (.getfield 52, 3) := by decide +kernel
theorem dX6_findLeaps_78 : decode cX6_findLeaps 78 = .ok (.iload_n 3, 1) := by decide +kernel
theorem dX6_findLeaps_79 : decode cX6_findLeaps 79 = .ok (.aload_n 0, 1) := by decide +kernel
theorem dX6_findLeaps_80 : decode cX6_findLeaps 80 = .ok (.getfield 52, 3) := by decide +kernel
theorem dX6_findLeaps_83 : decode cX6_findLeaps 83 = .ok (.iload 4, 2) := by decide +kernel
theorem dX6_findLeaps_85 : decode cX6_findLeaps 85 = .ok (.iaload, 1) := by decide +kernel
theorem dX6_findLeaps_86 : decode cX6_findLeaps 86 = .ok (.iload_n 2, 1) := by decide +kernel
theorem dX6_findLeaps_87 : decode cX6_findLeaps 87 = .ok (.if_icmp .ne 19, 3) := by decide +kernel
theorem dX6_findLeaps_90 : decode cX6_findLeaps 90 = .ok (.aload_n 0, 1) := by decide +kernel
theorem dX6_findLeaps_91 : decode cX6_findLeaps 91 = .ok (.iload_n 3, 1) := by decide +kernel
theorem dX6_findLeaps_92 : decode cX6_findLeaps 92 = .ok (.iload 4, 2) := by decide +kernel
theorem dX6_findLeaps_94 : decode cX6_findLeaps 94 = .ok (.invokevirtual 198, 3) := by decide +kernel
theorem dX6_findLeaps_97 : decode cX6_findLeaps 97 = .ok (.ifCond .eq 9, 3) := by decide +kernel
theorem dX6_findLeaps_100 : decode cX6_findLeaps 100 = .ok (.iload_n 2, 1) := by decide +kernel
theorem dX6_findLeaps_101 : decode cX6_findLeaps 101 = .ok (.iconst 1, 1) := by decide +kernel
theorem dX6_findLeaps_102 : decode cX6_findLeaps 102 = .ok (.iadd, 1) := by decide +kernel
theorem dX6_findLeaps_103 : decode cX6_findLeaps 103 = .ok (.goto 5, 3) := by decide +kernel
theorem dX6_findLeaps_106 : decode cX6_findLeaps 106 = .ok (.bipush (-9), 2) := by decide +kernel
theorem dX6_findLeaps_108 : decode cX6_findLeaps 108 = .ok (.iastore, 1) := by decide +kernel
theorem dX6_findLeaps_109 : decode cX6_findLeaps 109 = .ok (.iinc 4 1, 3) := by decide +kernel
theorem dX6_findLeaps_112 : decode cX6_findLeaps 112 = .ok (.goto (-58), 3) := by decide +kernel
theorem dX6_findLeaps_115 : decode cX6_findLeaps 115 = .ok (.iinc 3 1, 3) := by decide +kernel
theorem dX6_findLeaps_118 : decode cX6_findLeaps 118 = .ok (.goto (-75), 3) := by decide +kernel
theorem dX6_findLeaps_121 : decode cX6_findLeaps 121 = .ok (.iinc 2 1, 3) := by decide +kernel
theorem dX6_findLeaps_124 : decode cX6_findLeaps 124 = .ok (.goto (-89), 3) := by decide +kernel
theorem dX6_findLeaps_127 : decode cX6_findLeaps 127 = .ok (.return_, 1) := by decide +kernel
theorem dX6_nextLeap_0 : decode cX6_nextLeap 0 = .ok (.iconst 0, 1) := by decide +kernel
theorem dX6_nextLeap_1 : decode cX6_nextLeap 1 = .ok (.istore_n 2, 1) := by decide +kernel
theorem dX6_nextLeap_2 : decode cX6_nextLeap 2 = .ok (.aload_n 0, 1) := by decide +kernel
theorem dX6_nextLeap_3 : decode cX6_nextLeap 3 = .ok (.iload_n 1, 1) := by decide +kernel
theorem dX6_nextLeap_4 : decode cX6_nextLeap 4 = .ok (.iload_n 2, 1) := by decide +kernel
theorem dX6_nextLeap_5 : decode cX6_nextLeap 5 = .ok (.invokevirtual 198, 3) := by decide +kernel
theorem dX6_nextLeap_8 : decode cX6_nextLeap 8 = .ok (.ifCond .eq 20, 3) := by decide +kernel
theorem dX6_nextLeap_11 : decode cX6_nextLeap 11 = .ok (.aload_n 0, 1) := by decide +kernel
theorem dX6_nextLeap_12 : decode cX6_nextLeap 12 = .ok (.getfield 52, 3) := by decide +kernel
theorem dX6_nextLeap_15 : decode cX6_nextLeap 15 = .ok (.iload_n 2, 1) := by decide +kernel
theorem dX6_nextLeap_16 : decode cX6_nextLeap 16 = .ok (.iaload, 1) := by decide +kernel
theorem dX6_nextLeap_17 : decode cX6_nextLeap 17 = .ok (.aload_n 0, 1) := by decide +kernel
theorem dX6_nextLeap_18 : decode cX6_nextLeap 18 = .ok (.getfield 52, 3) := by decide +kernel
theorem dX6_nextLeap_21 : decode cX6_nextLeap 21 = .ok (.iload_n 1, 1) := by decide +kernel
theorem dX6_nextLeap_22 : decode cX6_nextLeap 22 = .ok (.iaload, 1) := by decide +kernel
theorem dX6_nextLeap_23 : decode cX6_nextLeap 23 = .ok (.iconst 1, 1) := by decide +kernel
theorem dX6_nextLeap_24 : decode cX6_nextLeap 24 = .ok (.isub, 1) := by decide +kernel
theorem dX6_nextLeap_25 : decode cX6_nextLeap 25 = .ok (.if_icmp .eq 9, 3) := by decide +kernel
theorem dX6_nextLeap_28 : decode cX6_nextLeap 28 = .ok (.iinc 2 1, 3) := by decide +kernel
theorem dX6_nextLeap_31 : decode cX6_nextLeap 31 = .ok (.goto (-29), 3) := by decide +kernel
theorem dX6_nextLeap_34 : decode cX6_nextLeap 34 = .ok (.iload_n 2, 1) := by decide +kernel
theorem dX6_nextLeap_35 : decode cX6_nextLeap 35 = .ok (.ireturn, 1) := by decide +kernel
theorem dX6_leaps_0 : decode cX6_leaps 0 = .ok (.aload_n 0, 1) := by decide +kernel
theorem dX6_leaps_1 : decode cX6_leaps 1 = .ok (.iload_n 1, 1) := by decide +kernel
theorem dX6_leaps_2 : decode cX6_leaps 2 = .ok (.invokevirtual 145, 3) := by decide +kernel
theorem dX6_leaps_5 : decode cX6_leaps 5 = .ok (.ifCond .eq 11, 3) := by decide +kernel
theorem dX6_leaps_8 : decode cX6_leaps 8 = .ok (.aload_n 0, 1) := by decide +kernel
theorem dX6_leaps_9 : decode cX6_leaps 9 = .ok (.iload_n 2, 1) := by decide +kernel
theorem dX6_leaps_10 : decode cX6_leaps 10 = .ok (.invokevirtual 145, 3) := by decide +kernel
theorem dX6_leaps_13 : decode cX6_leaps 13 = .ok (.ifCond .ne 5, 3) := by decide +kernel
theorem dX6_leaps_16 : decode cX6_leaps 16 = .ok (.iconst (-1), 1) := by decide +kernel
theorem dX6_leaps_17 : decode cX6_leaps 17 = .ok (.ireturn, 1) := by decide +kernel
theorem dX6_leaps_18 : decode cX6_leaps 18 = .ok (.iload_n 3, 1) := by decide +kernel
theorem dX6_leaps_19 : decode cX6_leaps 19 = .ok (.iconst (-1), 1) := by decide +kernel
theorem dX6_leaps_20 : decode cX6_leaps 20 = .ok (.iconst 5, 1) := by decide +kernel
theorem dX6_leaps_21 : decode cX6_leaps 21 = .ok (.invokestatic 70, 3) := by decide +kernel
theorem dX6_leaps_24 : decode cX6_leaps 24 = .ok (.ifCond .ne 6, 3) := by decide +kernel
theorem dX6_leaps_27 : decode cX6_leaps 27 = .ok (.bipush (-2), 2) := by decide +kernel
theorem dX6_leaps_29 : decode cX6_leaps 29 = .ok (.ireturn, 1) := by decide +kernel
theorem dX6_leaps_30 : decode cX6_leaps 30 = .ok (.aload_n 0, 1) := by decide +kernel
theorem dX6_leaps_31 : decode cX6_leaps 31 = .ok (.iload_n 2, 1) := by decide +kernel
theorem dX6_leaps_32 : decode cX6_leaps 32 = .ok (.invokevirtual 201, 3) := by decide +kernel
theorem dX6_leaps_35 : decode cX6_leaps 35 = .ok (.iload_n 3, 1) := by decide +kernel
theorem dX6_leaps_36 : decode cX6_leaps 36 = .ok (.iconst (-1), 1) := by decide +kernel
theorem dX6_leaps_37 : decode cX6_leaps 37 = .ok (.if_icmp .eq 14, 3) := by decide +kernel
theorem dX6_leaps_40 : decode cX6_leaps 40 = .ok (.aload_n 0, 1) := by decide +kernel
theorem dX6_leaps_41 : decode cX6_leaps 41 = .ok (.getfield 52, 3) := by decide +kernel
theorem dX6_leaps_44 : decode cX6_leaps 44 = .ok (.iload_n 1, 1) := by decide +kernel
theorem dX6_leaps_45 : decode cX6_leaps 45 = .ok (.iaload, 1) := by decide +kernel
theorem dX6_leaps_46 : decode cX6_leaps 46 = .ok (.bipush (-9), 2) := by decide +kernel
theorem dX6_leaps_48 : decode cX6_leaps 48 = .ok (.if_icmp .ne 10, 3) := by decide +kernel
theorem dX6_leaps_51 : decode cX6_leaps 51 = .ok (.aload_n 0, 1) := by decide +kernel
theorem dX6_leaps_52 : decode cX6_leaps 52 = .ok (.getfield 52, 3) := by decide +kernel
theorem dX6_leaps_55 : decode cX6_leaps 55 = .ok (.iload_n 1, 1) := by decide +kernel
theorem dX6_leaps_56 : decode cX6_leaps 56 = .ok (.iaload, 1) := by decide +kernel
theorem dX6_leaps_57 : decode cX6_leaps 57 = .ok (.ireturn, 1) := by decide +kernel
theorem dX6_leaps_58 : decode cX6_leaps 58 = .ok (.iload_n 3, 1) := by decide +kernel
theorem dX6_leaps_59 : decode cX6_leaps 59 = .ok (.aload_n 0, 1) := by decide +kernel
theorem dX6_leaps_60 : decode cX6_leaps 60 = .ok (.getfield 52, 3) := by decide +kernel
theorem dX6_leaps_63 : decode cX6_leaps 63 = .ok (.iload_n 1, 1) := by decide +kernel
theorem dX6_leaps_64 : decode cX6_leaps 64 = .ok (.iaload, 1) := by decide +kernel
theorem dX6_leaps_65 : decode cX6_leaps 65 = .ok (.if_icmp .le 6, 3) := by decide +kernel
theorem dX6_leaps_68 : decode cX6_leaps 68 = .ok (.bipush (-9), 2) := by decide +kernel
theorem dX6_leaps_70 : decode cX6_leaps 70 = .ok (.ireturn, 1) := by decide +kernel
theorem dX6_leaps_71 : decode cX6_leaps 71 = .ok (.iload_n 1, 1) := by decide +kernel
theorem dX6_leaps_72 : decode cX6_leaps 72 = .ok (.istore 4, 2) := by decide +kernel
theorem dX6_leaps_74 : decode cX6_leaps 74 = .ok (.iconst 0, 1) := by decide +kernel
theorem dX6_leaps_75 : decode cX6_leaps 75 = .ok (.istore 5, 2) := by decide +kernel
theorem dX6_leaps_77 : decode cX6_leaps 77 = .ok (.iload 5, 2) := by decide +kernel
theorem dX6_leaps_79 : decode cX6_leaps 79 = .ok (.iload_n 3, 1) := by decide +kernel
theorem dX6_leaps_80 : decode cX6_leaps 80 = .ok (.if_icmp .ge 17, 3) := by decide +kernel
theorem dX6_leaps_83 : decode cX6_leaps 83 = .ok (.aload_n 0, 1) := by decide +kernel
theorem dX6_leaps_84 : decode cX6_leaps 84 = .ok (.iload 4, 2) := by decide +kernel
theorem dX6_leaps_86 : decode cX6_leaps 86 = .ok (.invokevirtual 205, 3) := by decide +kernel
theorem dX6_leaps_89 : decode cX6_leaps 89 = .ok (.istore 4, 2) := by decide +kernel
theorem dX6_leaps_91 : decode cX6_leaps 91 = .ok (.iinc 5 1, 3) := by decide +kernel
theorem dX6_leaps_94 : decode cX6_leaps 94 = .ok (.goto (-17), 3) := by decide +kernel
theorem dX6_leaps_97 : decode cX6_leaps 97 = .ok (.iload 4, 2) := by decide +kernel
theorem dX6_leaps_99 : decode cX6_leaps 99 = .ok (.ireturn, 1) := by decide +kernel
theorem dX6_findTides_0 : decode cX6_findTides 0 = .ok (.iconst 0, 1) := by decide +kernel
theorem dX6_findTides_1 : decode cX6_findTides 1 = .ok (.istore_n 3, 1) := by decide +kernel
theorem dX6_findTides_2 : decode cX6_findTides 2 = .ok (.iload_n 3, 1) := by decide +kernel
theorem dX6_findTides_3 : decode cX6_findTides 3 = .ok (.aload_n 0, 1) := by decide +kernel
theorem dX6_findTides_4 : decode cX6_findTides 4 = .ok (.getfield 74, 3) := by decide +kernel
theorem dX6_findTides_7 : decode cX6_findTides 7 = .ok (.if_icmp .ge 26, 3) := by decide +kernel
theorem dX6_findTides_10 : decode cX6_findTides 10 = .ok (.aload_n 0, 1) := by decide +kernel
theorem dX6_findTides_11 : decode cX6_findTides 11 = .ok (.getfield 52, 3) := by decide +kernel
theorem dX6_findTides_14 : decode cX6_findTides 14 = .ok (.iload_n 3, 1) := by decide +kernel
theorem dX6_findTides_15 : decode cX6_findTides 15 = .ok (.iload_n 3, 1) := by decide +kernel
theorem dX6_findTides_16 : decode cX6_findTides 16 = .ok (.iload_n 2, 1) := by decide +kernel
theorem dX6_findTides_17 : decode cX6_findTides 17 = .ok (.if_icmp .ne 7, 3) := by decide +kernel
theorem dX6_findTides_20 : decode cX6_findTides 20 = .ok (.iconst 0, 1) := by decide +kernel
theorem dX6_findTides_21 : decode cX6_findTides 21 = .ok (.goto 5, 3) := by decide +kernel
theorem dX6_findTides_24 : decode cX6_findTides 24 = .ok (.bipush (-9), 2) := by decide +kernel
theorem dX6_findTides_26 : decode cX6_findTides 26 = .ok (.iastore, 1) := by decide +kernel
theorem dX6_findTides_27 : decode cX6_findTides 27 = .ok (.iinc 3 1, 3) := by decide +kernel
theorem dX6_findTides_30 : decode cX6_findTides 30 = .ok (.goto (-28), 3) := by decide +kernel
theorem dX6_findTides_33 : decode cX6_findTides 33 = .ok (.iconst 0, 1) := by decide +kernel
theorem dX6_findTides_34 : decode cX6_findTides 34 = .ok (.istore_n 3, 1) := by decide +kernel
theorem dX6_findTides_35 : decode cX6_findTides 35 = .ok (.iload_n 3, 1) := by decide +kernel
theorem dX6_findTides_36 : decode cX6_findTides 36 = .ok (.bipush 6, 2) := by decide +kernel
theorem dX6_findTides_38 : decode cX6_findTides 38 = .ok (.if_icmp .ge 88, 3) := by decide +kernel
theorem dX6_findTides_41 : decode cX6_findTides 41 = .ok (.iconst 0, 1) := by decide +kernel
theorem dX6_findTides_42 : decode cX6_findTides 42 = .ok (.istore 4, 2) := by decide +kernel
theorem dX6_findTides_44 : decode cX6_findTides 44 = .ok (.iload 4, 2) := by decide +kernel
theorem dX6_findTides_46 : decode cX6_findTides 46 = .ok (.aload_n 0, 1) := by decide +kernel
theorem dX6_findTides_47 : decode cX6_findTides 47 = .ok (.getfield 74, 3) := by decide +kernel
theorem dX6_findTides_50 : decode cX6_findTides 50 = .ok (.if_icmp .ge 70, 3) := by decide +kernel
theorem dX6_findTides_53 : decode cX6_findTides 53 = .ok (.iconst 0, 1) := by decide +kernel
theorem dX6_findTides_54 : decode cX6_findTides 54 = .ok (.istore 5, 2) := by decide +kernel
theorem dX6_findTides_56 : decode cX6_findTides 56 = .ok (.iload 5, 2) := by decide +kernel
theorem dX6_findTides_58 : decode cX6_findTides 58 = .ok (.bipush 10, 2) := by decide +kernel
theorem dX6_findTides_60 : decode cX6_findTides 60 = .ok (.if_icmp .ge 54, 3) := by decide +kernel
theorem dX6_findTides_63 : decode cX6_findTides 63 = .ok (.aload_n 0, 1) := by decide +kernel
theorem dX6_findTides_64 : decode cX6_findTides 64 = .ok (.getfield 52, 3) := by decide +kernel
theorem dX6_findTides_67 : decode cX6_findTides 67 = .ok (.iload 4, 2) := by decide +kernel
theorem dX6_findTides_69 : decode cX6_findTides 69 = .ok (.iaload, 1) := by decide +kernel
theorem dX6_findTides_70 : decode cX6_findTides 70 = .ok (.bipush (-9), 2) := by decide +kernel
theorem dX6_findTides_72 : decode cX6_findTides 72 = .ok (.if_icmp .ne 42, 3) := by decide +kernel
theorem dX6_findTides_75 : decode cX6_findTides 75 = .ok (.aload_n 0, 1) := by decide +kernel
theorem dX6_findTides_76 : decode cX6_findTides 76 = .ok (.getfield 52, 3) := by decide +kernel
theorem dX6_findTides_79 : decode cX6_findTides 79 = .ok (.iload 4, 2) := by decide +kernel
theorem dX6_findTides_81 : decode cX6_findTides 81 = .ok (.aload_n 0, 1) := by decide +kernel
theorem dX6_findTides_82 : decode cX6_findTides 82 = .ok (.getfield 52, 3) := by decide +kernel
theorem dX6_findTides_85 : decode cX6_findTides 85 = .ok (.aload_n 0, 1) := by decide +kernel
theorem dX6_findTides_86 : decode cX6_findTides 86 = .ok (.iload 4, 2) := by decide +kernel
theorem dX6_findTides_88 : decode cX6_findTides 88 = .ok (.iload_n 1, 1) := by decide +kernel
theorem dX6_findTides_89 : decode cX6_findTides 89 = .ok (.iload 5, 2) := by decide +kernel
theorem dX6_findTides_91 : decode cX6_findTides 91 = .ok (.invokevirtual 166, 3) := by decide +kernel
theorem dX6_findTides_94 : decode cX6_findTides 94 = .ok (.iaload, 1) := by decide +kernel
theorem dX6_findTides_95 : decode cX6_findTides 95 = .ok (.iload_n 3, 1) := by decide +kernel
theorem dX6_findTides_96 : decode cX6_findTides 96 = .ok (.if_icmp .ne 9, 3) := by decide +kernel
theorem dX6_findTides_99 : decode cX6_findTides 99 = .ok (.iload_n 3, 1) := by decide +kernel
theorem dX6_findTides_100 : decode cX6_findTides 100 = .ok (.iconst 1, 1) := by decide +kernel
theorem dX6_findTides_101 : decode cX6_findTides 101 = .ok (.iadd, 1) := by decide +kernel
theorem dX6_findTides_102 : decode cX6_findTides 102 = .ok (.goto 5, 3) := by decide +kernel
theorem dX6_findTides_105 : decode cX6_findTides 105 = .ok (.bipush (-9), 2) := by decide +kernel
theorem dX6_findTides_107 : decode cX6_findTides 107 = .ok (.iastore, 1) := by decide +kernel
theorem dX6_findTides_108 : decode cX6_findTides 108 = .ok (.iinc 5 1, 3) := by decide +kernel
theorem dX6_findTides_111 : decode cX6_findTides 111 = .ok (.goto (-55), 3) := by decide +kernel
theorem dX6_findTides_114 : decode cX6_findTides 114 = .ok (.iinc 4 1, 3) := by decide +kernel
theorem dX6_findTides_117 : decode cX6_findTides 117 = .ok (.goto (-73), 3) := by decide +kernel
theorem dX6_findTides_120 : decode cX6_findTides 120 = .ok (.iinc 3 1, 3) := by decide +kernel
theorem dX6_findTides_123 : decode cX6_findTides 123 = .ok (.goto (-88), 3) := by decide +kernel
theorem dX6_findTides_126 : decode cX6_findTides 126 = .ok (.return_, 1) := by decide +kernel
theorem dX6_nextTide_0 : decode cX6_nextTide 0 = .ok (.iconst 0, 1) := by decide +kernel
theorem dX6_nextTide_1 : decode cX6_nextTide 1 = .ok (.istore_n 3, 1) := by decide +kernel
theorem dX6_nextTide_2 : decode cX6_nextTide 2 = .ok (.aload_n 0, 1) := by decide +kernel
theorem dX6_nextTide_3 : decode cX6_nextTide 3 = .ok (.getfield 52, 3) := by decide +kernel
theorem dX6_nextTide_6 : decode cX6_nextTide 6 = .ok (.aload_n 0, 1) := by decide +kernel
theorem dX6_nextTide_7 : decode cX6_nextTide 7 = .ok (.iload_n 1, 1) := by decide +kernel
theorem dX6_nextTide_8 : decode cX6_nextTide 8 = .ok (.iload_n 2, 1) := by decide +kernel
theorem dX6_nextTide_9 : decode cX6_nextTide 9 = .ok (.iload_n 3, 1) := by decide +kernel
theorem dX6_nextTide_10 : decode cX6_nextTide 10 = .ok (.invokevirtual 166, 3) := by decide +kernel
theorem dX6_nextTide_13 : decode cX6_nextTide 13 = .ok (.iaload, 1) := by decide +kernel
theorem dX6_nextTide_14 : decode cX6_nextTide 14 = .ok (.aload_n 0, 1) := by decide +kernel
theorem dX6_nextTide_15 : decode cX6_nextTide 15 = .ok (.getfield 52, 3) := by decide +kernel
theorem dX6_nextTide_18 : decode cX6_nextTide 18 = .ok (.iload_n 1, 1) := by decide +kernel
theorem dX6_nextTide_19 : decode cX6_nextTide 19 = .ok (.iaload, 1) := by decide +kernel
theorem dX6_nextTide_20 : decode cX6_nextTide 20 = .ok (.iconst 1, 1) := by decide +kernel
theorem dX6_nextTide_21 : decode cX6_nextTide 21 = .ok (.isub, 1) := by decide +kernel
theorem dX6_nextTide_22 : decode cX6_nextTide 22 = .ok (.if_icmp .eq 9, 3) := by decide +kernel
theorem dX6_nextTide_25 : decode cX6_nextTide 25 = .ok (.iinc 3 1, 3) := by decide +kernel
theorem dX6_nextTide_28 : decode cX6_nextTide 28 = .ok (.goto (-26), 3) := by decide +kernel
theorem dX6_nextTide_31 : decode cX6_nextTide 31 = .ok (.iload_n 3, 1) := by decide +kernel
theorem dX6_nextTide_32 : decode cX6_nextTide 32 = .ok (.ireturn, 1) := by decide +kernel
theorem dX6_elect_0 : decode cX6_elect 0 = .ok (.aload_n 0, 1) := by decide +kernel
theorem dX6_elect_1 : decode cX6_elect 1 = .ok (.iload_n 1, 1) := by decide +kernel
theorem dX6_elect_2 : decode cX6_elect 2 = .ok (.invokevirtual 154, 3) := by decide +kernel
theorem dX6_elect_5 : decode cX6_elect 5 = .ok (.ifCond .eq 11, 3) := by decide +kernel
theorem dX6_elect_8 : decode cX6_elect 8 = .ok (.aload_n 0, 1) := by decide +kernel
theorem dX6_elect_9 : decode cX6_elect 9 = .ok (.iload_n 2, 1) := by decide +kernel
theorem dX6_elect_10 : decode cX6_elect 10 = .ok (.invokevirtual 145, 3) := by decide +kernel
theorem dX6_elect_13 : decode cX6_elect 13 = .ok (.ifCond .ne 5, 3) := by decide +kernel
theorem dX6_elect_16 : decode cX6_elect 16 = .ok (.iconst (-1), 1) := by decide +kernel
theorem dX6_elect_17 : decode cX6_elect 17 = .ok (.ireturn, 1) := by decide +kernel
theorem dX6_elect_18 : decode cX6_elect 18 = .ok (.iload_n 3, 1) := by decide +kernel
theorem dX6_elect_19 : decode cX6_elect 19 = .ok (.iconst (-1), 1) := by decide +kernel
theorem dX6_elect_20 : decode cX6_elect 20 = .ok (.iconst 4, 1) := by decide +kernel
theorem dX6_elect_21 : decode cX6_elect 21 = .ok (.invokestatic 70, 3) := by decide +kernel
theorem dX6_elect_24 : decode cX6_elect 24 = .ok (.ifCond .ne 6, 3) := by decide +kernel
theorem dX6_elect_27 : decode cX6_elect 27 = .ok (.bipush (-2), 2) := by decide +kernel
theorem dX6_elect_29 : decode cX6_elect 29 = .ok (.ireturn, 1) := by decide +kernel
theorem dX6_elect_30 : decode cX6_elect 30 = .ok (.aload_n 0, 1) := by decide +kernel
theorem dX6_elect_31 : decode cX6_elect 31 = .ok (.iload_n 1, 1) := by decide +kernel
theorem dX6_elect_32 : decode cX6_elect 32 = .ok (.invokevirtual 157, 3) := by decide +kernel
theorem dX6_elect_35 : decode cX6_elect 35 = .ok (.istore 4, 2) := by decide +kernel
theorem dX6_elect_37 : decode cX6_elect 37 = .ok (.aload_n 0, 1) := by decide +kernel
theorem dX6_elect_38 : decode cX6_elect 38 = .ok (.iload 4, 2) := by decide +kernel
theorem dX6_elect_40 : decode cX6_elect 40 = .ok (.iload_n 2, 1) := by decide +kernel
theorem dX6_elect_41 : decode cX6_elect 41 = .ok (.invokevirtual 208, 3) := by decide +kernel
theorem dX6_elect_44 : decode cX6_elect 44 = .ok (.aload_n 0, 1) := by decide +kernel
theorem dX6_elect_45 : decode cX6_elect 45 = .ok (.getfield 28, 3) := by decide +kernel
theorem dX6_elect_48 : decode cX6_elect 48 = .ok (.iload_n 1, 1) := by decide +kernel
theorem dX6_elect_49 : decode cX6_elect 49 = .ok (.iaload, 1) := by decide +kernel
theorem dX6_elect_50 : decode cX6_elect 50 = .ok (.istore 5, 2) := by decide +kernel
theorem dX6_elect_52 : decode cX6_elect 52 = .ok (.iload_n 3, 1) := by decide +kernel
theorem dX6_elect_53 : decode cX6_elect 53 = .ok (.iconst (-1), 1) := by decide +kernel
theorem dX6_elect_54 : decode cX6_elect 54 = .ok (.if_icmp .eq 15, 3) := by decide +kernel
theorem dX6_elect_57 : decode cX6_elect 57 = .ok (.aload_n 0, 1) := by decide +kernel
theorem dX6_elect_58 : decode cX6_elect 58 = .ok (.getfield 52, 3) := by decide +kernel
theorem dX6_elect_61 : decode cX6_elect 61 = .ok (.iload 5, 2) := by decide +kernel
theorem dX6_elect_63 : decode cX6_elect 63 = .ok (.iaload, 1) := by decide +kernel
theorem dX6_elect_64 : decode cX6_elect 64 = .ok (.bipush (-9), 2) := by decide +kernel
theorem dX6_elect_66 : decode cX6_elect 66 = .ok (.if_icmp .ne 11, 3) := by decide +kernel
theorem dX6_elect_69 : decode cX6_elect 69 = .ok (.aload_n 0, 1) := by decide +kernel
theorem dX6_elect_70 : decode cX6_elect 70 = .ok (.getfield 52, 3) := by decide +kernel
theorem dX6_elect_73 : decode cX6_elect 73 = .ok (.iload 5, 2) := by decide +kernel
theorem dX6_elect_75 : decode cX6_elect 75 = .ok (.iaload, 1) := by decide +kernel
theorem dX6_elect_76 : decode cX6_elect 76 = .ok (.ireturn, 1) := by decide +kernel
theorem dX6_elect_77 : decode cX6_elect 77 = .ok (.bipush (-9), 2) := by decide +kernel
theorem dX6_elect_79 : decode cX6_elect 79 = .ok (.istore 6, 2) := by decide +kernel
theorem dX6_elect_81 : decode cX6_elect 81 = .ok (.iconst 0, 1) := by decide +kernel
theorem dX6_elect_82 : decode cX6_elect 82 = .ok (.istore 7, 2) := by decide +kernel
theorem dX6_elect_84 : decode cX6_elect 84 = .ok (.iload 7, 2) := by decide +kernel
theorem dX6_elect_86 : decode cX6_elect 86 = .ok (.iload_n 3, 1) := by decide +kernel
theorem dX6_elect_87 : decode cX6_elect 87 = .ok (.if_icmp .gt 54, 3) := by decide +kernel
theorem dX6_elect_90 : decode cX6_elect 90 = .ok (.iload 5, 2) := by decide +kernel
theorem dX6_elect_92 : decode cX6_elect 92 = .ok (.iload_n 2, 1) := by decide +kernel
theorem dX6_elect_93 : decode cX6_elect 93 = .ok (.if_icmp .ne 8, 3) := by decide +kernel
theorem dX6_elect_96 : decode cX6_elect 96 = .ok (.bipush (-9), 2) := by decide +kernel
theorem dX6_elect_98 : decode cX6_elect 98 = .ok (.goto 11, 3) := by decide +kernel
theorem dX6_elect_101 : decode cX6_elect 101 = .ok (.aload_n 0, 1) := by decide +kernel
theorem dX6_elect_102 : decode cX6_elect 102 = .ok (.iload 5, 2) := by decide +kernel
theorem dX6_elect_104 : decode cX6_elect 104 = .ok (.iload 4, 2) := by decide +kernel
theorem dX6_elect_106 : decode cX6_elect 106 = .ok (.invokevirtual 212, 3) := by decide +kernel
theorem dX6_elect_109 : decode cX6_elect 109 = .ok (.istore 6, 2) := by decide +kernel
theorem dX6_elect_111 : decode cX6_elect 111 = .ok (.iload 6, 2) := by decide +kernel
theorem dX6_elect_113 : decode cX6_elect 113 = .ok (.bipush (-9), 2) := by decide +kernel
theorem dX6_elect_115 : decode cX6_elect 115 = .ok (.if_icmp .ne 8, 3) := by decide +kernel
theorem dX6_elect_118 : decode cX6_elect 118 = .ok (.iload 5, 2) := by decide +kernel
theorem dX6_elect_120 : decode cX6_elect 120 = .ok (.goto 13, 3) := by decide +kernel
theorem dX6_elect_123 : decode cX6_elect 123 = .ok (.aload_n 0, 1) := by decide +kernel
theorem dX6_elect_124 : decode cX6_elect 124 = .ok (.iload 5, 2) := by decide +kernel
theorem dX6_elect_126 : decode cX6_elect 126 = .ok (.iload 4, 2) := by decide +kernel
theorem dX6_elect_128 : decode cX6_elect 128 = .ok (.iload 6, 2) := by decide +kernel
theorem dX6_elect_130 : decode cX6_elect 130 = .ok (.invokevirtual 166, 3) := by decide +kernel
theorem dX6_elect_133 : decode cX6_elect 133 = .ok (.istore 5, 2) := by decide +kernel
theorem dX6_elect_135 : decode cX6_elect 135 = .ok (.iinc 7 1, 3) := by decide +kernel
theorem dX6_elect_138 : decode cX6_elect 138 = .ok (.goto (-54), 3) := by decide +kernel
theorem dX6_elect_141 : decode cX6_elect 141 = .ok (.iload 6, 2) := by decide +kernel
theorem dX6_elect_143 : decode cX6_elect 143 = .ok (.ireturn, 1) := by decide +kernel
theorem dX6_reading_0 : decode cX6_reading 0 = .ok (.aload_n 0, 1) := by decide +kernel
theorem dX6_reading_1 : decode cX6_reading 1 = .ok (.iload_n 1, 1) := by decide +kernel
theorem dX6_reading_2 : decode cX6_reading 2 = .ok (.invokevirtual 154, 3) := by decide +kernel
theorem dX6_reading_5 : decode cX6_reading 5 = .ok (.ifCond .ne 5, 3) := by decide +kernel
theorem dX6_reading_8 : decode cX6_reading 8 = .ok (.iconst (-1), 1) := by decide +kernel
theorem dX6_reading_9 : decode cX6_reading 9 = .ok (.ireturn, 1) := by decide +kernel
theorem dX6_reading_10 : decode cX6_reading 10 = .ok (.iload_n 2, 1) := by decide +kernel
theorem dX6_reading_11 : decode cX6_reading 11 = .ok (.invokestatic 160, 3) := by decide +kernel
theorem dX6_reading_14 : decode cX6_reading 14 = .ok (.ifCond .ne 6, 3) := by decide +kernel
theorem dX6_reading_17 : decode cX6_reading 17 = .ok (.bipush (-2), 2) := by decide +kernel
theorem dX6_reading_19 : decode cX6_reading 19 = .ok (.ireturn, 1) := by decide +kernel
theorem dX6_reading_20 : decode cX6_reading 20 = .ok (.aload_n 0, 1) := by decide +kernel
theorem dX6_reading_21 : decode cX6_reading 21 = .ok (.iload_n 3, 1) := by decide +kernel
theorem dX6_reading_22 : decode cX6_reading 22 = .ok (.invokevirtual 145, 3) := by decide +kernel
theorem dX6_reading_25 : decode cX6_reading 25 = .ok (.ifCond .ne 5, 3) := by decide +kernel
theorem dX6_reading_28 : decode cX6_reading 28 = .ok (.iconst (-1), 1) := by decide +kernel
theorem dX6_reading_29 : decode cX6_reading 29 = .ok (.ireturn, 1) := by decide +kernel
theorem dX6_reading_30 : decode cX6_reading 30 = .ok (.aload_n 0, 1) := by decide +kernel
theorem dX6_reading_31 : decode cX6_reading 31 = .ok (.getfield 128, 3) := by decide +kernel
theorem dX6_reading_34 : decode cX6_reading 34 = .ok (.bipush 8, 2) := by decide +kernel
theorem dX6_reading_36 : decode cX6_reading 36 = .ok (.if_icmp .ne 6, 3) := by decide +kernel
theorem dX6_reading_39 : decode cX6_reading 39 = .ok (.bipush (-4), 2) := by decide +kernel
theorem dX6_reading_41 : decode cX6_reading 41 = .ok (.ireturn, 1) := by decide +kernel
theorem dX6_reading_42 : decode cX6_reading 42 = .ok (.aload_n 0, 1) := by decide +kernel
theorem dX6_reading_43 : decode cX6_reading 43 = .ok (.getfield 55, 3) := by decide +kernel
theorem dX6_reading_46 : decode cX6_reading 46 = .ok (.aload_n 0, 1) := by decide +kernel
theorem dX6_reading_47 : decode cX6_reading 47 = .ok (.getfield 128, 3) := by decide +kernel
theorem dX6_reading_50 : decode cX6_reading 50 = .ok (.iload_n 1, 1) := by decide +kernel
theorem dX6_reading_51 : decode cX6_reading 51 = .ok (.iastore, 1) := by decide +kernel
theorem dX6_reading_52 : decode cX6_reading 52 = .ok (.aload_n 0, 1) := by decide +kernel
theorem dX6_reading_53 : decode cX6_reading 53 = .ok (.getfield 58, 3) := by decide +kernel
theorem dX6_reading_56 : decode cX6_reading 56 = .ok (.aload_n 0, 1) := by decide +kernel
theorem dX6_reading_57 : decode cX6_reading 57 = .ok (.getfield 128, 3) := by decide +kernel
theorem dX6_reading_60 : decode cX6_reading 60 = .ok (.iload_n 2, 1) := by decide +kernel
theorem dX6_reading_61 : decode cX6_reading 61 = .ok (.iastore, 1) := by decide +kernel
theorem dX6_reading_62 : decode cX6_reading 62 = .ok (.aload_n 0, 1) := by decide +kernel
theorem dX6_reading_63 : decode cX6_reading 63 = .ok (.getfield 61, 3) := by decide +kernel
theorem dX6_reading_66 : decode cX6_reading 66 = .ok (.aload_n 0, 1) := by decide +kernel
theorem dX6_reading_67 : decode cX6_reading 67 = .ok (.getfield 128, 3) := by decide +kernel
theorem dX6_reading_70 : decode cX6_reading 70 = .ok (.iload_n 3, 1) := by decide +kernel
theorem dX6_reading_71 : decode cX6_reading 71 = .ok (.iastore, 1) := by decide +kernel
theorem dX6_reading_72 : decode cX6_reading 72 = .ok (.aload_n 0, 1) := by decide +kernel
theorem dX6_reading_73 : decode cX6_reading 73 = .ok (.dup, 1) := by decide +kernel
theorem dX6_reading_74 : decode cX6_reading 74 = .ok (.getfield 128, 3) := by decide +kernel
theorem dX6_reading_77 : decode cX6_reading 77 = .ok (.iconst 1, 1) := by decide +kernel
theorem dX6_reading_78 : decode cX6_reading 78 = .ok (.iadd, 1) := by decide +kernel
theorem dX6_reading_79 : decode cX6_reading 79 = .ok (.putfield 128, 3) := by decide +kernel
theorem dX6_reading_82 : decode cX6_reading 82 = .ok (.aload_n 0, 1) := by decide +kernel
theorem dX6_reading_83 : decode cX6_reading 83 = .ok (.getfield 128, 3) := by decide +kernel
theorem dX6_reading_86 : decode cX6_reading 86 = .ok (.iconst 1, 1) := by decide +kernel
theorem dX6_reading_87 : decode cX6_reading 87 = .ok (.isub, 1) := by decide +kernel
theorem dX6_reading_88 : decode cX6_reading 88 = .ok (.ireturn, 1) := by decide +kernel
theorem dX6_back_0 : decode cX6_back 0 = .ok (.iload_n 1, 1) := by decide +kernel
theorem dX6_back_1 : decode cX6_back 1 = .ok (.iconst 0, 1) := by decide +kernel
theorem dX6_back_2 : decode cX6_back 2 = .ok (.aload_n 0, 1) := by decide +kernel
theorem dX6_back_3 : decode cX6_back 3 = .ok (.getfield 128, 3) := by decide +kernel
theorem dX6_back_6 : decode cX6_back 6 = .ok (.invokestatic 70, 3) := by decide +kernel
theorem dX6_back_9 : decode cX6_back 9 = .ok (.ifCond .ne 6, 3) := by decide +kernel
theorem dX6_back_12 : decode cX6_back 12 = .ok (.bipush (-2), 2) := by decide +kernel
theorem dX6_back_14 : decode cX6_back 14 = .ok (.ireturn, 1) := by decide +kernel
theorem dX6_back_15 : decode cX6_back 15 = .ok (.aload_n 0, 1) := by decide +kernel
theorem dX6_back_16 : decode cX6_back 16 = .ok (.dup, 1) := by decide +kernel
theorem dX6_back_17 : decode cX6_back 17 = .ok (.getfield 128, 3) := by decide +kernel
theorem dX6_back_20 : decode cX6_back 20 = .ok (.iload_n 1, 1) := by decide +kernel
theorem dX6_back_21 : decode cX6_back 21 = .ok (.isub, 1) := by decide +kernel
theorem dX6_back_22 : decode cX6_back 22 = .ok (.putfield 128, 3) := by decide +kernel
theorem dX6_back_25 : decode cX6_back 25 = .ok (.aload_n 0, 1) := by decide +kernel
theorem dX6_back_26 : decode cX6_back 26 = .ok (.getfield 128, 3) := by decide +kernel
theorem dX6_back_29 : decode cX6_back 29 = .ok (.ireturn, 1) := by decide +kernel
theorem dX6_areSo_0 : decode cX6_areSo 0 = .ok (.iconst 0, 1) := by decide +kernel
theorem dX6_areSo_1 : decode cX6_areSo 1 = .ok (.istore_n 1, 1) := by decide +kernel
theorem dX6_areSo_2 : decode cX6_areSo 2 = .ok (.iload_n 1, 1) := by decide +kernel
theorem dX6_areSo_3 : decode cX6_areSo 3 = .ok (.aload_n 0, 1) := by decide +kernel
theorem dX6_areSo_4 : decode cX6_areSo 4 = .ok (.getfield 128, 3) := by decide +kernel
theorem dX6_areSo_7 : decode cX6_areSo 7 = .ok (.if_icmp .ge 48, 3) := by decide +kernel
theorem dX6_areSo_10 : decode cX6_areSo 10 = .ok (.aload_n 0, 1) := by decide +kernel
theorem dX6_areSo_11 : decode cX6_areSo 11 = .ok (.getfield 55, 3) := by decide +kernel
theorem dX6_areSo_14 : decode cX6_areSo 14 = .ok (.iload_n 1, 1) := by decide +kernel
theorem dX6_areSo_15 : decode cX6_areSo 15 = .ok (.iaload, 1) := by decide +kernel
theorem dX6_areSo_16 : decode cX6_areSo 16 = .ok (.istore_n 2, 1) := by decide +kernel
theorem dX6_areSo_17 : decode cX6_areSo 17 = .ok (.aload_n 0, 1) := by decide +kernel
theorem dX6_areSo_18 : decode cX6_areSo 18 = .ok (.aload_n 0, 1) := by decide +kernel
theorem dX6_areSo_19 : decode cX6_areSo 19 = .ok (.getfield 28, 3) := by decide +kernel
theorem dX6_areSo_22 : decode cX6_areSo 22 = .ok (.iload_n 2, 1) := by decide +kernel
theorem dX6_areSo_23 : decode cX6_areSo 23 = .ok (.iaload, 1) := by decide +kernel
theorem dX6_areSo_24 : decode cX6_areSo 24 = .ok (.aload_n 0, 1) := by decide +kernel
theorem dX6_areSo_25 : decode cX6_areSo 25 = .ok (.iload_n 2, 1) := by decide +kernel
theorem dX6_areSo_26 : decode cX6_areSo 26 = .ok (.invokevirtual 157, 3) := by decide +kernel
theorem dX6_areSo_29 : decode cX6_areSo 29 = .ok (.aload_n 0, 1) := by decide +kernel
theorem dX6_areSo_30 : decode cX6_areSo 30 = .ok (.getfield 58, 3) := by decide +kernel
theorem dX6_areSo_33 : decode cX6_areSo 33 = .ok (.iload_n 1, 1) := by decide +kernel
theorem dX6_areSo_34 : decode cX6_areSo 34 = .ok (.iaload, 1) := by decide +kernel
theorem dX6_areSo_35 : decode cX6_areSo 35 = .ok (.invokevirtual 166, 3) := by decide +kernel
theorem dX6_areSo_38 : decode cX6_areSo 38 = .ok (.aload_n 0, 1) := by decide +kernel
theorem dX6_areSo_39 : decode cX6_areSo 39 = .ok (.getfield 61, 3) := by decide +kernel
theorem dX6_areSo_42 : decode cX6_areSo 42 = .ok (.iload_n 1, 1) := by decide +kernel
theorem dX6_areSo_43 : decode cX6_areSo 43 = .ok (.iaload, 1) := by decide +kernel
theorem dX6_areSo_44 : decode cX6_areSo 44 = .ok (.if_icmp .eq 5, 3) := by decide +kernel
theorem dX6_areSo_47 : decode cX6_areSo 47 = .ok (.iconst 0, 1) := by decide +kernel
theorem dX6_areSo_48 : decode cX6_areSo 48 = .ok (.ireturn, 1) := by decide +kernel
theorem dX6_areSo_49 : decode cX6_areSo 49 = .ok (.iinc 1 1, 3) := by decide +kernel
theorem dX6_areSo_52 : decode cX6_areSo 52 = .ok (.goto (-50), 3) := by decide +kernel
theorem dX6_areSo_55 : decode cX6_areSo 55 = .ok (.iconst 1, 1) := by decide +kernel
theorem dX6_areSo_56 : decode cX6_areSo 56 = .ok (.ireturn, 1) := by decide +kernel
theorem dX6_heights_0 : decode cX6_heights 0 = .ok (.aload_n 0, 1) := by decide +kernel
theorem dX6_heights_1 : decode cX6_heights 1 = .ok (.iload_n 1, 1) := by decide +kernel
theorem dX6_heights_2 : decode cX6_heights 2 = .ok (.invokevirtual 145, 3) := by decide +kernel
theorem dX6_heights_5 : decode cX6_heights 5 = .ok (.ifCond .ne 5, 3) := by decide +kernel
theorem dX6_heights_8 : decode cX6_heights 8 = .ok (.iconst (-1), 1) := by decide +kernel
theorem dX6_heights_9 : decode cX6_heights 9 = .ok (.ireturn, 1) := by decide +kernel
theorem dX6_heights_10 : decode cX6_heights 10 = .ok (.aload_n 0, 1) := by decide +kernel
theorem dX6_heights_11 : decode cX6_heights 11 = .ok (.getfield 19, 3) := by decide +kernel
theorem dX6_heights_14 : decode cX6_heights 14 = .ok (.iload_n 1, 1) := by decide +kernel
theorem dX6_heights_15 : decode cX6_heights 15 = .ok (.iaload, 1) := by decide +kernel
theorem dX6_heights_16 : decode cX6_heights 16 = .ok (.istore_n 2, 1) := by decide +kernel
theorem dX6_heights_17 : decode cX6_heights 17 = .ok (.iconst 0, 1) := by decide +kernel
theorem dX6_heights_18 : decode cX6_heights 18 = .ok (.istore_n 3, 1) := by decide +kernel
theorem dX6_heights_19 : decode cX6_heights 19 = .ok (.iconst 1, 1) := by decide +kernel
theorem dX6_heights_20 : decode cX6_heights 20 = .ok (.istore 4, 2) := by decide +kernel
theorem dX6_heights_22 : decode cX6_heights 22 = .ok (.iload 4, 2) := by decide +kernel
theorem dX6_heights_24 : decode cX6_heights 24 = .ok (.bipush 9, 2) := by decide +kernel
theorem dX6_heights_26 : decode cX6_heights 26 = .ok (.if_icmp .gt 35, 3) := by decide +kernel
theorem dX6_heights_29 : decode cX6_heights 29 = .ok (.aload_n 0, 1) := by decide +kernel
theorem dX6_heights_30 : decode cX6_heights 30 = .ok (.getfield 19, 3) := by decide +kernel
theorem dX6_heights_33 : decode cX6_heights 33 = .ok (.iload_n 1, 1) := by decide +kernel
theorem dX6_heights_34 : decode cX6_heights 34 = .ok (.iload 4, 2) := by decide +kernel
theorem dX6_heights_36 : decode cX6_heights 36 = .ok (.iastore, 1) := by decide +kernel
theorem dX6_heights_37 : decode cX6_heights 37 = .ok (.iload_n 3, 1) := by decide +kernel
theorem dX6_heights_38 : decode cX6_heights 38 = .ok (.aload_n 0, 1) := by decide +kernel
theorem dX6_heights_39 : decode cX6_heights 39 = .ok (.invokevirtual 215, 3) := by decide +kernel
theorem dX6_heights_42 : decode cX6_heights 42 = .ok (.ifCond .eq 10, 3) := by decide +kernel
theorem dX6_heights_45 : decode cX6_heights 45 = .ok (.iconst 1, 1) := by decide +kernel
theorem dX6_heights_46 : decode cX6_heights 46 = .ok (.iload 4, 2) := by decide +kernel
theorem dX6_heights_48 : decode cX6_heights 48 = .ok (.ishl, 1) := by decide +kernel
theorem dX6_heights_49 : decode cX6_heights 49 = .ok (.goto 4, 3) := by decide +kernel
theorem dX6_heights_52 : decode cX6_heights 52 = .ok (.iconst 0, 1) := by decide +kernel
theorem dX6_heights_53 : decode cX6_heights 53 = .ok (.ior, 1) := by decide +kernel
theorem dX6_heights_54 : decode cX6_heights 54 = .ok (.istore_n 3, 1) := by decide +kernel
theorem dX6_heights_55 : decode cX6_heights 55 = .ok (.iinc 4 1, 3) := by decide +kernel
theorem dX6_heights_58 : decode cX6_heights 58 = .ok (.goto (-36), 3) := by decide +kernel
theorem dX6_heights_61 : decode cX6_heights 61 = .ok (.aload_n 0, 1) := by decide +kernel
theorem dX6_heights_62 : decode cX6_heights 62 = .ok (.getfield 19, 3) := by decide +kernel
theorem dX6_heights_65 : decode cX6_heights 65 = .ok (.iload_n 1, 1) := by decide +kernel
theorem dX6_heights_66 : decode cX6_heights 66 = .ok (.iload_n 2, 1) := by decide +kernel
theorem dX6_heights_67 : decode cX6_heights 67 = .ok (.iastore, 1) := by decide +kernel
theorem dX6_heights_68 : decode cX6_heights 68 = .ok (.iload_n 3, 1) := by decide +kernel
theorem dX6_heights_69 : decode cX6_heights 69 = .ok (.ireturn, 1) := by decide +kernel
theorem dX6_kinds_0 : decode cX6_kinds 0 = .ok (.aload_n 0, 1) := by decide +kernel
theorem dX6_kinds_1 : decode cX6_kinds 1 = .ok (.iload_n 1, 1) := by decide +kernel
theorem dX6_kinds_2 : decode cX6_kinds 2 = .ok (.invokevirtual 154, 3) := by decide +kernel
theorem dX6_kinds_5 : decode cX6_kinds 5 = .ok (.ifCond .ne 5, 3) := by decide +kernel
theorem dX6_kinds_8 : decode cX6_kinds 8 = .ok (.iconst (-1), 1) := by decide +kernel
theorem dX6_kinds_9 : decode cX6_kinds 9 = .ok (.ireturn, 1) := by decide +kernel
theorem dX6_kinds_10 : decode cX6_kinds 10 = .ok (.aload_n 0, 1) := by decide +kernel
theorem dX6_kinds_11 : decode cX6_kinds 11 = .ok (.getfield 25, 3) := by decide +kernel
theorem dX6_kinds_14 : decode cX6_kinds 14 = .ok (.iload_n 1, 1) := by decide +kernel
theorem dX6_kinds_15 : decode cX6_kinds 15 = .ok (.iaload, 1) := by decide +kernel
theorem dX6_kinds_16 : decode cX6_kinds 16 = .ok (.istore_n 2, 1) := by decide +kernel
theorem dX6_kinds_17 : decode cX6_kinds 17 = .ok (.iconst 0, 1) := by decide +kernel
theorem dX6_kinds_18 : decode cX6_kinds 18 = .ok (.istore_n 3, 1) := by decide +kernel
theorem dX6_kinds_19 : decode cX6_kinds 19 = .ok (.iconst 0, 1) := by decide +kernel
theorem dX6_kinds_20 : decode cX6_kinds 20 = .ok (.istore 4, 2) := by decide +kernel
theorem dX6_kinds_22 : decode cX6_kinds 22 = .ok (.iload 4, 2) := by decide +kernel
theorem dX6_kinds_24 : decode cX6_kinds 24 = .ok (.iconst 3, 1) := by decide +kernel
theorem dX6_kinds_25 : decode cX6_kinds 25 = .ok (.if_icmp .ge 35, 3) := by decide +kernel
theorem dX6_kinds_28 : decode cX6_kinds 28 = .ok (.aload_n 0, 1) := by decide +kernel
theorem dX6_kinds_29 : decode cX6_kinds 29 = .ok (.getfield 25, 3) := by decide +kernel
theorem dX6_kinds_32 : decode cX6_kinds 32 = .ok (.iload_n 1, 1) := by decide +kernel
theorem dX6_kinds_33 : decode cX6_kinds 33 = .ok (.iload 4, 2) := by decide +kernel
theorem dX6_kinds_35 : decode cX6_kinds 35 = .ok (.iastore, 1) := by decide +kernel
theorem dX6_kinds_36 : decode cX6_kinds 36 = .ok (.iload_n 3, 1) := by decide +kernel
theorem dX6_kinds_37 : decode cX6_kinds 37 = .ok (.aload_n 0, 1) := by decide +kernel
theorem dX6_kinds_38 : decode cX6_kinds 38 = .ok (.invokevirtual 215, 3) := by decide +kernel
theorem dX6_kinds_41 : decode cX6_kinds 41 = .ok (.ifCond .eq 10, 3) := by decide +kernel
theorem dX6_kinds_44 : decode cX6_kinds 44 = .ok (.iconst 1, 1) := by decide +kernel
theorem dX6_kinds_45 : decode cX6_kinds 45 = .ok (.iload 4, 2) := by decide +kernel
theorem dX6_kinds_47 : decode cX6_kinds 47 = .ok (.ishl, 1) := by decide +kernel
theorem dX6_kinds_48 : decode cX6_kinds 48 = .ok (.goto 4, 3) := by decide +kernel
theorem dX6_kinds_51 : decode cX6_kinds 51 = .ok (.iconst 0, 1) := by decide +kernel
theorem dX6_kinds_52 : decode cX6_kinds 52 = .ok (.ior, 1) := by decide +kernel
theorem dX6_kinds_53 : decode cX6_kinds 53 = .ok (.istore_n 3, 1) := by decide +kernel
theorem dX6_kinds_54 : decode cX6_kinds 54 = .ok (.iinc 4 1, 3) := by decide +kernel
theorem dX6_kinds_57 : decode cX6_kinds 57 = .ok (.goto (-35), 3) := by decide +kernel
theorem dX6_kinds_60 : decode cX6_kinds 60 = .ok (.aload_n 0, 1) := by decide +kernel
theorem dX6_kinds_61 : decode cX6_kinds 61 = .ok (.getfield 25, 3) := by decide +kernel
theorem dX6_kinds_64 : decode cX6_kinds 64 = .ok (.iload_n 1, 1) := by decide +kernel
theorem dX6_kinds_65 : decode cX6_kinds 65 = .ok (.iload_n 2, 1) := by decide +kernel
theorem dX6_kinds_66 : decode cX6_kinds 66 = .ok (.iastore, 1) := by decide +kernel
theorem dX6_kinds_67 : decode cX6_kinds 67 = .ok (.iload_n 3, 1) := by decide +kernel
theorem dX6_kinds_68 : decode cX6_kinds 68 = .ok (.ireturn, 1) := by decide +kernel
theorem dX6_streams_0 : decode cX6_streams 0 = .ok (.aload_n 0, 1) := by decide +kernel
theorem dX6_streams_1 : decode cX6_streams 1 = .ok (.getfield 74, 3) := by decide +kernel
theorem dX6_streams_4 : decode cX6_streams 4 = .ok (.ifCond .ne 6, 3) := by decide +kernel
theorem dX6_streams_7 : decode cX6_streams 7 = .ok (.bipush (-3), 2) := by decide +kernel
theorem dX6_streams_9 : decode cX6_streams 9 = .ok (.ireturn, 1) := by decide +kernel
theorem dX6_streams_10 : decode cX6_streams 10 = .ok (.aload_n 0, 1) := by decide +kernel
theorem dX6_streams_11 : decode cX6_streams 11 = .ok (.getfield 107, 3) := by decide +kernel
theorem dX6_streams_14 : decode cX6_streams 14 = .ok (.istore_n 1, 1) := by decide +kernel
theorem dX6_streams_15 : decode cX6_streams 15 = .ok (.iconst 0, 1) := by decide +kernel
theorem dX6_streams_16 : decode cX6_streams 16 = .ok (.istore_n 2, 1) := by decide +kernel
theorem dX6_streams_17 : decode cX6_streams 17 = .ok (.iconst 1, 1) := by decide +kernel
theorem dX6_streams_18 : decode cX6_streams 18 = .ok (.istore_n 3, 1) := by decide +kernel
theorem dX6_streams_19 : decode cX6_streams 19 = .ok (.iload_n 3, 1) := by decide +kernel
theorem dX6_streams_20 : decode cX6_streams 20 = .ok (.iconst 3, 1) := by decide +kernel
theorem dX6_streams_21 : decode cX6_streams 21 = .ok (.if_icmp .gt 31, 3) := by decide +kernel
theorem dX6_streams_24 : decode cX6_streams 24 = .ok (.aload_n 0, 1) := by decide +kernel
theorem dX6_streams_25 : decode cX6_streams 25 = .ok (.iload_n 3, 1) := by decide +kernel
theorem dX6_streams_26 : decode cX6_streams 26 = .ok (.putfield 107, 3) := by decide +kernel
theorem dX6_streams_29 : decode cX6_streams 29 = .ok (.iload_n 2, 1) := by decide +kernel
theorem dX6_streams_30 : decode cX6_streams 30 = .ok (.aload_n 0, 1) := by decide +kernel
theorem dX6_streams_31 : decode cX6_streams 31 = .ok (.invokevirtual 215, 3) := by decide +kernel
theorem dX6_streams_34 : decode cX6_streams 34 = .ok (.ifCond .eq 9, 3) := by decide +kernel
theorem dX6_streams_37 : decode cX6_streams 37 = .ok (.iconst 1, 1) := by decide +kernel
theorem dX6_streams_38 : decode cX6_streams 38 = .ok (.iload_n 3, 1) := by decide +kernel
theorem dX6_streams_39 : decode cX6_streams 39 = .ok (.ishl, 1) := by decide +kernel
theorem dX6_streams_40 : decode cX6_streams 40 = .ok (.goto 4, 3) := by decide +kernel
theorem dX6_streams_43 : decode cX6_streams 43 = .ok (.iconst 0, 1) := by decide +kernel
theorem dX6_streams_44 : decode cX6_streams 44 = .ok (.ior, 1) := by decide +kernel
theorem dX6_streams_45 : decode cX6_streams 45 = .ok (.istore_n 2, 1) := by decide +kernel
theorem dX6_streams_46 : decode cX6_streams 46 = .ok (.iinc 3 1, 3) := by decide +kernel
theorem dX6_streams_49 : decode cX6_streams 49 = .ok (.goto (-30), 3) := by decide +kernel
theorem dX6_streams_52 : decode cX6_streams 52 = .ok (.aload_n 0, 1) := by decide +kernel
theorem dX6_streams_53 : decode cX6_streams 53 = .ok (.iload_n 1, 1) := by decide +kernel
theorem dX6_streams_54 : decode cX6_streams 54 = .ok (.putfield 107, 3) := by decide +kernel
theorem dX6_streams_57 : decode cX6_streams 57 = .ok (.iload_n 2, 1) := by decide +kernel
theorem dX6_streams_58 : decode cX6_streams 58 = .ok (.ireturn, 1) := by decide +kernel
theorem dX6_inLeastTerms_0 : decode cX6_inLeastTerms 0 = .ok (.lload_n 0, 1) := by decide +kernel
theorem dX6_inLeastTerms_1 : decode cX6_inLeastTerms 1 = .ok (.lstore 5, 2) := by decide +kernel
theorem dX6_inLeastTerms_3 : decode cX6_inLeastTerms 3 = .ok (.lload_n 2, 1) := by decide +kernel
theorem dX6_inLeastTerms_4 : decode cX6_inLeastTerms 4 = .ok (.lstore 7, 2) := by decide +kernel
theorem dX6_inLeastTerms_6 : decode cX6_inLeastTerms 6 = .ok (.lload 7, 2) := by decide +kernel
theorem dX6_inLeastTerms_8 : decode cX6_inLeastTerms 8 = .ok (.lconst 0, 1) := by decide +kernel
theorem dX6_inLeastTerms_9 : decode cX6_inLeastTerms 9 = .ok (.lcmp, 1) := by decide +kernel
theorem dX6_inLeastTerms_10 : decode cX6_inLeastTerms 10 = .ok (.ifCond .eq 21, 3) := by decide +kernel
theorem dX6_inLeastTerms_13 : decode cX6_inLeastTerms 13 = .ok (.lload 5, 2) := by decide +kernel
theorem dX6_inLeastTerms_15 : decode cX6_inLeastTerms 15 = .ok (.lload 7, 2) := by decide +kernel
theorem dX6_inLeastTerms_17 : decode cX6_inLeastTerms 17 = .ok (.lrem, 1) := by decide +kernel
theorem dX6_inLeastTerms_18 : decode cX6_inLeastTerms 18 = .ok (.lstore 9, 2) := by decide +kernel
theorem dX6_inLeastTerms_20 : decode cX6_inLeastTerms 20 = .ok (.lload 7, 2) := by decide +kernel
theorem dX6_inLeastTerms_22 : decode cX6_inLeastTerms 22 = .ok (.lstore 5, 2) := by decide +kernel
theorem dX6_inLeastTerms_24 : decode cX6_inLeastTerms 24 = .ok (.lload 9, 2) := by decide +kernel
theorem dX6_inLeastTerms_26 : decode cX6_inLeastTerms 26 = .ok (.lstore 7, 2) := by decide +kernel
theorem dX6_inLeastTerms_28 : decode cX6_inLeastTerms 28 = .ok (.goto (-22), 3) := by decide +kernel
theorem dX6_inLeastTerms_31 : decode cX6_inLeastTerms 31 = .ok (.iload 4, 2) := by decide +kernel
theorem dX6_inLeastTerms_33 : decode cX6_inLeastTerms 33 = .ok (.ifCond .ne 10, 3) := by decide +kernel
theorem dX6_inLeastTerms_36 : decode cX6_inLeastTerms 36 = .ok (.lload_n 0, 1) := by decide +kernel
theorem dX6_inLeastTerms_37 : decode cX6_inLeastTerms 37 = .ok (.lload 5, 2) := by decide +kernel
theorem dX6_inLeastTerms_39 : decode cX6_inLeastTerms 39 = .ok (.ldiv, 1) := by decide +kernel
theorem dX6_inLeastTerms_40 : decode cX6_inLeastTerms 40 = .ok (.goto 7, 3) := by decide +kernel
theorem dX6_inLeastTerms_43 : decode cX6_inLeastTerms 43 = .ok (.lload_n 2, 1) := by decide +kernel
theorem dX6_inLeastTerms_44 : decode cX6_inLeastTerms 44 = .ok (.lload 5, 2) := by decide +kernel
theorem dX6_inLeastTerms_46 : decode cX6_inLeastTerms 46 = .ok (.ldiv, 1) := by decide +kernel
theorem dX6_inLeastTerms_47 : decode cX6_inLeastTerms 47 = .ok (.lreturn, 1) := by decide +kernel
theorem dX6_odds_0 : decode cX6_odds 0 = .ok (.aload_n 0, 1) := by decide +kernel
theorem dX6_odds_1 : decode cX6_odds 1 = .ok (.iload_n 1, 1) := by decide +kernel
theorem dX6_odds_2 : decode cX6_odds 2 = .ok (.invokevirtual 154, 3) := by decide +kernel
theorem dX6_odds_5 : decode cX6_odds 5 = .ok (.ifCond .eq 20, 3) := by decide +kernel
theorem dX6_odds_8 : decode cX6_odds 8 = .ok (.aload_n 0, 1) := by decide +kernel
theorem dX6_odds_9 : decode cX6_odds 9 = .ok (.iload_n 2, 1) := by decide +kernel
theorem dX6_odds_10 : decode cX6_odds 10 = .ok (.invokevirtual 145, 3) := by decide +kernel
theorem dX6_odds_13 : decode cX6_odds 13 = .ok (.ifCond .eq 12, 3) := by decide +kernel
theorem dX6_odds_16 : decode cX6_odds 16 = .ok (.iload_n 3, 1) := by decide +kernel
theorem dX6_odds_17 : decode cX6_odds 17 = .ok (.iconst 0, 1) := by decide +kernel
theorem dX6_odds_18 : decode cX6_odds 18 = .ok (.iconst 1, 1) := by decide +kernel
theorem dX6_odds_19 : decode cX6_odds 19 = .ok (.invokestatic 70, 3) := by decide +kernel
theorem dX6_odds_22 : decode cX6_odds 22 = .ok (.ifCond .ne 7, 3) := by decide +kernel
theorem dX6_odds_25 : decode cX6_odds 25 = .ok (.ldc2_w 68, 3) := by decide +kernel
theorem dX6_odds_28 : decode cX6_odds 28 = .ok (.lreturn, 1) := by decide +kernel
theorem dX6_odds_29 : decode cX6_odds 29 = .ok (.aload_n 0, 1) := by decide +kernel
theorem dX6_odds_30 : decode cX6_odds 30 = .ok (.iload_n 1, 1) := by decide +kernel
theorem dX6_odds_31 : decode cX6_odds 31 = .ok (.invokevirtual 157, 3) := by decide +kernel
theorem dX6_odds_34 : decode cX6_odds 34 = .ok (.istore 4, 2) := by decide +kernel
theorem dX6_odds_36 : decode cX6_odds 36 = .ok (.iconst 0, 1) := by decide +kernel
theorem dX6_odds_37 : decode cX6_odds 37 = .ok (.istore 5, 2) := by decide +kernel
theorem dX6_odds_39 : decode cX6_odds 39 = .ok (.iconst 0, 1) := by decide +kernel
theorem dX6_odds_40 : decode cX6_odds 40 = .ok (.istore 6, 2) := by decide +kernel
theorem dX6_odds_42 : decode cX6_odds 42 = .ok (.iload 6, 2) := by decide +kernel
theorem dX6_odds_44 : decode cX6_odds 44 = .ok (.bipush 100, 2) := by decide +kernel
theorem dX6_odds_46 : decode cX6_odds 46 = .ok (.if_icmp .ge 55, 3) := by decide +kernel
theorem dX6_odds_49 : decode cX6_odds 49 = .ok (.aload_n 0, 1) := by decide +kernel
theorem dX6_odds_50 : decode cX6_odds 50 = .ok (.aload_n 0, 1) := by decide +kernel
theorem dX6_odds_51 : decode cX6_odds 51 = .ok (.getfield 28, 3) := by decide +kernel
theorem dX6_odds_54 : decode cX6_odds 54 = .ok (.iload_n 1, 1) := by decide +kernel
theorem dX6_odds_55 : decode cX6_odds 55 = .ok (.iaload, 1) := by decide +kernel
theorem dX6_odds_56 : decode cX6_odds 56 = .ok (.iload 4, 2) := by decide +kernel
theorem dX6_odds_58 : decode cX6_odds 58 = .ok (.iload 6, 2) := by decide +kernel
theorem dX6_odds_60 : decode cX6_odds 60 = .ok (.bipush 10, 2) := by decide +kernel
theorem dX6_odds_62 : decode cX6_odds 62 = .ok (.idiv, 1) := by decide +kernel
theorem dX6_odds_63 : decode cX6_odds 63 = .ok (.invokevirtual 166, 3) := by decide +kernel
theorem dX6_odds_66 : decode cX6_odds 66 = .ok (.istore 7, 2) := by decide +kernel
theorem dX6_odds_68 : decode cX6_odds 68 = .ok (.iload 5, 2) := by decide +kernel
theorem dX6_odds_70 : decode cX6_odds 70 = .ok (.aload_n 0, 1) := by decide +kernel
theorem dX6_odds_71 : decode cX6_odds 71 = .ok (.iload 7, 2) := by decide +kernel
theorem dX6_odds_73 : decode cX6_odds 73 = .ok (.iload 4, 2) := by decide +kernel
theorem dX6_odds_75 : decode cX6_odds 75 = .ok (.iload 6, 2) := by decide +kernel
theorem dX6_odds_77 : decode cX6_odds 77 = .ok (.bipush 10, 2) := by decide +kernel
theorem dX6_odds_79 : decode cX6_odds 79 = .ok (.irem, 1) := by decide +kernel
theorem dX6_odds_80 : decode cX6_odds 80 = .ok (.invokevirtual 166, 3) := by decide +kernel
theorem dX6_odds_83 : decode cX6_odds 83 = .ok (.iload_n 2, 1) := by decide +kernel
theorem dX6_odds_84 : decode cX6_odds 84 = .ok (.if_icmp .ne 7, 3) := by decide +kernel
theorem dX6_odds_87 : decode cX6_odds 87 = .ok (.iconst 1, 1) := by decide +kernel
theorem dX6_odds_88 : decode cX6_odds 88 = .ok (.goto 4, 3) := by decide +kernel
theorem dX6_odds_91 : decode cX6_odds 91 = .ok (.iconst 0, 1) := by decide +kernel
theorem dX6_odds_92 : decode cX6_odds 92 = .ok (.iadd, 1) := by decide +kernel
theorem dX6_odds_93 : decode cX6_odds 93 = .ok (.istore 5, 2) := by decide +kernel
theorem dX6_odds_95 : decode cX6_odds 95 = .ok (.iinc 6 1, 3) := by decide +kernel
theorem dX6_odds_98 : decode cX6_odds 98 = .ok (.goto (-56), 3) := by decide +kernel
theorem dX6_odds_101 : decode cX6_odds 101 = .ok (.iload 5, 2) := by decide +kernel
theorem dX6_odds_103 : decode cX6_odds 103 = .ok (.i2l, 1) := by decide +kernel
theorem dX6_odds_104 : decode cX6_odds 104 = .ok (.ldc2_w 219, 3) := by decide +kernel
theorem dX6_odds_107 : decode cX6_odds 107 = .ok (.iload_n 3, 1) := by decide +kernel
theorem dX6_odds_108 : decode cX6_odds 108 = .ok (.invokestatic 221, 3) := by decide +kernel
theorem dX6_odds_111 : decode cX6_odds 111 = .ok (.lreturn, 1) := by decide +kernel
theorem dX6_sheet_0 : decode cX6_sheet 0 = .ok (.aload_n 0, 1) := by decide +kernel
theorem dX6_sheet_1 : decode cX6_sheet 1 = .ok (.iconst 0, 1) := by decide +kernel
theorem dX6_sheet_2 : decode cX6_sheet 2 = .ok (.putfield 64, 3) := by decide +kernel
theorem dX6_sheet_5 : decode cX6_sheet 5 = .ok (.iload_n 1, 1) := by decide +kernel
theorem dX6_sheet_6 : decode cX6_sheet 6 = .ok (.invokestatic 83, 3) := by decide +kernel
theorem dX6_sheet_9 : decode cX6_sheet 9 = .ok (.ifCond .ne 5, 3) := by decide +kernel
theorem dX6_sheet_12 : decode cX6_sheet 12 = .ok (.iconst (-1), 1) := by decide +kernel
theorem dX6_sheet_13 : decode cX6_sheet 13 = .ok (.ireturn, 1) := by decide +kernel
theorem dX6_sheet_14 : decode cX6_sheet 14 = .ok (.iload_n 2, 1) := by decide +kernel
theorem dX6_sheet_15 : decode cX6_sheet 15 = .ok (.invokestatic 87, 3) := by decide +kernel
theorem dX6_sheet_18 : decode cX6_sheet 18 = .ok (.ifCond .eq 9, 3) := by decide +kernel
theorem dX6_sheet_21 : decode cX6_sheet 21 = .ok (.iload_n 3, 1) := by decide +kernel
theorem dX6_sheet_22 : decode cX6_sheet 22 = .ok (.bipush 60, 2) := by decide +kernel
theorem dX6_sheet_24 : decode cX6_sheet 24 = .ok (.if_icmp .le 6, 3) := by decide +kernel
theorem dX6_sheet_27 : decode cX6_sheet 27 = .ok (.bipush (-2), 2) := by decide +kernel
theorem dX6_sheet_29 : decode cX6_sheet 29 = .ok (.ireturn, 1) := by decide +kernel
theorem dX6_sheet_30 : decode cX6_sheet 30 = .ok (.iload_n 3, 1) := by decide +kernel
theorem dX6_sheet_31 : decode cX6_sheet 31 = .ok (.ifCond .ge 9, 3) := by decide +kernel
theorem dX6_sheet_34 : decode cX6_sheet 34 = .ok (.aload_n 0, 1) := by decide +kernel
theorem dX6_sheet_35 : decode cX6_sheet 35 = .ok (.iconst 4, 1) := by decide +kernel
theorem dX6_sheet_36 : decode cX6_sheet 36 = .ok (.invokevirtual 94, 3) := by decide +kernel
theorem dX6_sheet_39 : decode cX6_sheet 39 = .ok (.ireturn, 1) := by decide +kernel
theorem dX6_sheet_40 : decode cX6_sheet 40 = .ok (.aload_n 0, 1) := by decide +kernel
theorem dX6_sheet_41 : decode cX6_sheet 41 = .ok (.getfield 9, 3) := by decide +kernel
theorem dX6_sheet_44 : decode cX6_sheet 44 = .ok (.iload_n 1, 1) := by decide +kernel
theorem dX6_sheet_45 : decode cX6_sheet 45 = .ok (.iload_n 2, 1) := by decide +kernel
theorem dX6_sheet_46 : decode cX6_sheet 46 = .ok (.iastore, 1) := by decide +kernel
theorem dX6_sheet_47 : decode cX6_sheet 47 = .ok (.aload_n 0, 1) := by decide +kernel
theorem dX6_sheet_48 : decode cX6_sheet 48 = .ok (.getfield 13, 3) := by decide +kernel
theorem dX6_sheet_51 : decode cX6_sheet 51 = .ok (.iload_n 1, 1) := by decide +kernel
theorem dX6_sheet_52 : decode cX6_sheet 52 = .ok (.iload_n 3, 1) := by decide +kernel
theorem dX6_sheet_53 : decode cX6_sheet 53 = .ok (.iastore, 1) := by decide +kernel
theorem dX6_sheet_54 : decode cX6_sheet 54 = .ok (.iconst 0, 1) := by decide +kernel
theorem dX6_sheet_55 : decode cX6_sheet 55 = .ok (.istore 4, 2) := by decide +kernel
theorem dX6_sheet_57 : decode cX6_sheet 57 = .ok (.iload 4, 2) := by decide +kernel
theorem dX6_sheet_59 : decode cX6_sheet 59 = .ok (.bipush 60, 2) := by decide +kernel
theorem dX6_sheet_61 : decode cX6_sheet 61 = .ok (.if_icmp .ge 22, 3) := by decide +kernel
theorem dX6_sheet_64 : decode cX6_sheet 64 = .ok (.aload_n 0, 1) := by decide +kernel
theorem dX6_sheet_65 : decode cX6_sheet 65 = .ok (.getfield 16, 3) := by decide +kernel
theorem dX6_sheet_68 : decode cX6_sheet 68 = .ok (.bipush 60, 2) := by decide +kernel
theorem dX6_sheet_70 : decode cX6_sheet 70 = .ok (.iload_n 1, 1) := by decide +kernel
theorem dX6_sheet_71 : decode cX6_sheet 71 = .ok (.imul, 1) := by decide +kernel
theorem dX6_sheet_72 : decode cX6_sheet 72 = .ok (.iload 4, 2) := by decide +kernel
theorem dX6_sheet_74 : decode cX6_sheet 74 = .ok (.iadd, 1) := by decide +kernel
theorem dX6_sheet_75 : decode cX6_sheet 75 = .ok (.iconst 0, 1) := by decide +kernel
theorem dX6_sheet_76 : decode cX6_sheet 76 = .ok (.iastore, 1) := by decide +kernel
theorem dX6_sheet_77 : decode cX6_sheet 77 = .ok (.iinc 4 1, 3) := by decide +kernel
theorem dX6_sheet_80 : decode cX6_sheet 80 = .ok (.goto (-23), 3) := by decide +kernel
theorem dX6_sheet_83 : decode cX6_sheet 83 = .ok (.iconst 1, 1) := by decide +kernel
theorem dX6_sheet_84 : decode cX6_sheet 84 = .ok (.ireturn, 1) := by decide +kernel
theorem dX6_lose_0 : decode cX6_lose 0 = .ok (.iload_n 1, 1) := by decide +kernel
theorem dX6_lose_1 : decode cX6_lose 1 = .ok (.invokestatic 83, 3) := by decide +kernel
theorem dX6_lose_4 : decode cX6_lose 4 = .ok (.ifCond .ne 5, 3) := by decide +kernel
theorem dX6_lose_7 : decode cX6_lose 7 = .ok (.iconst (-1), 1) := by decide +kernel
theorem dX6_lose_8 : decode cX6_lose 8 = .ok (.ireturn, 1) := by decide +kernel
theorem dX6_lose_9 : decode cX6_lose 9 = .ok (.aload_n 0, 1) := by decide +kernel
theorem dX6_lose_10 : decode cX6_lose 10 = .ok (.getfield 9, 3) := by decide +kernel
theorem dX6_lose_13 : decode cX6_lose 13 = .ok (.iload_n 1, 1) := by decide +kernel
theorem dX6_lose_14 : decode cX6_lose 14 = .ok (.iaload, 1) := by decide +kernel
theorem dX6_lose_15 : decode cX6_lose 15 = .ok (.bipush (-9), 2) := by decide +kernel
theorem dX6_lose_17 : decode cX6_lose 17 = .ok (.if_icmp .ne 7, 3) := by decide +kernel
theorem dX6_lose_20 : decode cX6_lose 20 = .ok (.iconst 0, 1) := by decide +kernel
theorem dX6_lose_21 : decode cX6_lose 21 = .ok (.goto 4, 3) := by decide +kernel
theorem dX6_lose_24 : decode cX6_lose 24 = .ok (.iconst 1, 1) := by decide +kernel
theorem dX6_lose_25 : decode cX6_lose 25 = .ok (.istore_n 2, 1) := by decide +kernel
theorem dX6_lose_26 : decode cX6_lose 26 = .ok (.aload_n 0, 1) := by decide +kernel
theorem dX6_lose_27 : decode cX6_lose 27 = .ok (.getfield 9, 3) := by decide +kernel
theorem dX6_lose_30 : decode cX6_lose 30 = .ok (.iload_n 1, 1) := by decide +kernel
theorem dX6_lose_31 : decode cX6_lose 31 = .ok (.bipush (-9), 2) := by decide +kernel
theorem dX6_lose_33 : decode cX6_lose 33 = .ok (.iastore, 1) := by decide +kernel
theorem dX6_lose_34 : decode cX6_lose 34 = .ok (.iload_n 2, 1) := by decide +kernel
theorem dX6_lose_35 : decode cX6_lose 35 = .ok (.ireturn, 1) := by decide +kernel
theorem dX6_put_0 : decode cX6_put 0 = .ok (.aload_n 0, 1) := by decide +kernel
theorem dX6_put_1 : decode cX6_put 1 = .ok (.iconst 0, 1) := by decide +kernel
theorem dX6_put_2 : decode cX6_put 2 = .ok (.putfield 64, 3) := by decide +kernel
theorem dX6_put_5 : decode cX6_put 5 = .ok (.iload_n 1, 1) := by decide +kernel
theorem dX6_put_6 : decode cX6_put 6 = .ok (.invokestatic 83, 3) := by decide +kernel
theorem dX6_put_9 : decode cX6_put 9 = .ok (.ifCond .ne 5, 3) := by decide +kernel
theorem dX6_put_12 : decode cX6_put 12 = .ok (.iconst (-1), 1) := by decide +kernel
theorem dX6_put_13 : decode cX6_put 13 = .ok (.ireturn, 1) := by decide +kernel
theorem dX6_put_14 : decode cX6_put 14 = .ok (.aload_n 0, 1) := by decide +kernel
theorem dX6_put_15 : decode cX6_put 15 = .ok (.getfield 9, 3) := by decide +kernel
theorem dX6_put_18 : decode cX6_put 18 = .ok (.iload_n 1, 1) := by decide +kernel
theorem dX6_put_19 : decode cX6_put 19 = .ok (.iaload, 1) := by decide +kernel
theorem dX6_put_20 : decode cX6_put 20 = .ok (.bipush (-9), 2) := by decide +kernel
theorem dX6_put_22 : decode cX6_put 22 = .ok (.if_icmp .ne 9, 3) := by decide +kernel
theorem dX6_put_25 : decode cX6_put 25 = .ok (.aload_n 0, 1) := by decide +kernel
theorem dX6_put_26 : decode cX6_put 26 = .ok (.iconst 1, 1) := by decide +kernel
theorem dX6_put_27 : decode cX6_put 27 = .ok (.invokevirtual 94, 3) := by decide +kernel
theorem dX6_put_30 : decode cX6_put 30 = .ok (.ireturn, 1) := by decide +kernel
theorem dX6_put_31 : decode cX6_put 31 = .ok (.iload_n 2, 1) := by decide +kernel
theorem dX6_put_32 : decode cX6_put 32 = .ok (.iconst 0, 1) := by decide +kernel
theorem dX6_put_33 : decode cX6_put 33 = .ok (.aload_n 0, 1) := by decide +kernel
theorem dX6_put_34 : decode cX6_put 34 = .ok (.getfield 13, 3) := by decide +kernel
theorem dX6_put_37 : decode cX6_put 37 = .ok (.iload_n 1, 1) := by decide +kernel
theorem dX6_put_38 : decode cX6_put 38 = .ok (.iaload, 1) := by decide +kernel
theorem dX6_put_39 : decode cX6_put 39 = .ok (.iconst 1, 1) := by decide +kernel
theorem dX6_put_40 : decode cX6_put 40 = .ok (.isub, 1) := by decide +kernel
theorem dX6_put_41 : decode cX6_put 41 = .ok (.invokestatic 70, 3) := by decide +kernel
theorem dX6_put_44 : decode cX6_put 44 = .ok (.ifCond .ne 9, 3) := by decide +kernel
theorem dX6_put_47 : decode cX6_put 47 = .ok (.aload_n 0, 1) := by decide +kernel
theorem dX6_put_48 : decode cX6_put 48 = .ok (.iconst 3, 1) := by decide +kernel
theorem dX6_put_49 : decode cX6_put 49 = .ok (.invokevirtual 94, 3) := by decide +kernel
theorem dX6_put_52 : decode cX6_put 52 = .ok (.ireturn, 1) := by decide +kernel
theorem dX6_put_53 : decode cX6_put 53 = .ok (.aload_n 0, 1) := by decide +kernel
theorem dX6_put_54 : decode cX6_put 54 = .ok (.getfield 16, 3) := by decide +kernel
theorem dX6_put_57 : decode cX6_put 57 = .ok (.bipush 60, 2) := by decide +kernel
theorem dX6_put_59 : decode cX6_put 59 = .ok (.iload_n 1, 1) := by decide +kernel
theorem dX6_put_60 : decode cX6_put 60 = .ok (.imul, 1) := by decide +kernel
theorem dX6_put_61 : decode cX6_put 61 = .ok (.iload_n 2, 1) := by decide +kernel
theorem dX6_put_62 : decode cX6_put 62 = .ok (.iadd, 1) := by decide +kernel
theorem dX6_put_63 : decode cX6_put 63 = .ok (.aload_n 0, 1) := by decide +kernel
theorem dX6_put_64 : decode cX6_put 64 = .ok (.getfield 9, 3) := by decide +kernel
theorem dX6_put_67 : decode cX6_put 67 = .ok (.iload_n 1, 1) := by decide +kernel
theorem dX6_put_68 : decode cX6_put 68 = .ok (.iaload, 1) := by decide +kernel
theorem dX6_put_69 : decode cX6_put 69 = .ok (.ifCond .ne 8, 3) := by decide +kernel
theorem dX6_put_72 : decode cX6_put 72 = .ok (.iload_n 3, 1) := by decide +kernel
theorem dX6_put_73 : decode cX6_put 73 = .ok (.i2b, 1) := by decide +kernel
theorem dX6_put_74 : decode cX6_put 74 = .ok (.goto 19, 3) := by decide +kernel
theorem dX6_put_77 : decode cX6_put 77 = .ok (.aload_n 0, 1) := by decide +kernel
theorem dX6_put_78 : decode cX6_put 78 = .ok (.getfield 9, 3) := by decide +kernel
theorem dX6_put_81 : decode cX6_put 81 = .ok (.iload_n 1, 1) := by decide +kernel
theorem dX6_put_82 : decode cX6_put 82 = .ok (.iaload, 1) := by decide +kernel
theorem dX6_put_83 : decode cX6_put 83 = .ok (.iconst 1, 1) := by decide +kernel
theorem dX6_put_84 : decode cX6_put 84 = .ok (.if_icmp .ne 8, 3) := by decide +kernel
theorem dX6_put_87 : decode cX6_put 87 = .ok (.iload_n 3, 1) := by decide +kernel
theorem dX6_put_88 : decode cX6_put 88 = .ok (.i2s, 1) := by decide +kernel
theorem dX6_put_89 : decode cX6_put 89 = .ok (.goto 4, 3) := by decide +kernel
theorem dX6_put_92 : decode cX6_put 92 = .ok (.iload_n 3, 1) := by decide +kernel
theorem dX6_put_93 : decode cX6_put 93 = .ok (.iastore, 1) := by decide +kernel
theorem dX6_put_94 : decode cX6_put 94 = .ok (.iconst 1, 1) := by decide +kernel
theorem dX6_put_95 : decode cX6_put 95 = .ok (.ireturn, 1) := by decide +kernel
theorem dX6_cell_0 : decode cX6_cell 0 = .ok (.aload_n 0, 1) := by decide +kernel
theorem dX6_cell_1 : decode cX6_cell 1 = .ok (.iconst 0, 1) := by decide +kernel
theorem dX6_cell_2 : decode cX6_cell 2 = .ok (.putfield 64, 3) := by decide +kernel
theorem dX6_cell_5 : decode cX6_cell 5 = .ok (.iload_n 1, 1) := by decide +kernel
theorem dX6_cell_6 : decode cX6_cell 6 = .ok (.invokestatic 83, 3) := by decide +kernel
theorem dX6_cell_9 : decode cX6_cell 9 = .ok (.ifCond .eq 10, 3) := by decide +kernel
theorem dX6_cell_12 : decode cX6_cell 12 = .ok (.iload_n 3, 1) := by decide +kernel
theorem dX6_cell_13 : decode cX6_cell 13 = .ok (.invokestatic 87, 3) := by decide +kernel
theorem dX6_cell_16 : decode cX6_cell 16 = .ok (.ifCond .ne 7, 3) := by decide +kernel
theorem dX6_cell_19 : decode cX6_cell 19 = .ok (.ldc2_w 68, 3) := by decide +kernel
theorem dX6_cell_22 : decode cX6_cell 22 = .ok (.lreturn, 1) := by decide +kernel
theorem dX6_cell_23 : decode cX6_cell 23 = .ok (.aload_n 0, 1) := by decide +kernel
theorem dX6_cell_24 : decode cX6_cell 24 = .ok (.getfield 9, 3) := by decide +kernel
theorem dX6_cell_27 : decode cX6_cell 27 = .ok (.iload_n 1, 1) := by decide +kernel
theorem dX6_cell_28 : decode cX6_cell 28 = .ok (.iaload, 1) := by decide +kernel
theorem dX6_cell_29 : decode cX6_cell 29 = .ok (.bipush (-9), 2) := by decide +kernel
theorem dX6_cell_31 : decode cX6_cell 31 = .ok (.if_icmp .eq 19, 3) := by decide +kernel
theorem dX6_cell_34 : decode cX6_cell 34 = .ok (.aload_n 0, 1) := by decide +kernel
theorem dX6_cell_35 : decode cX6_cell 35 = .ok (.getfield 9, 3) := by decide +kernel
theorem dX6_cell_38 : decode cX6_cell 38 = .ok (.iload_n 1, 1) := by decide +kernel
theorem dX6_cell_39 : decode cX6_cell 39 = .ok (.iaload, 1) := by decide +kernel
theorem dX6_cell_40 : decode cX6_cell 40 = .ok (.iload_n 3, 1) := by decide +kernel
theorem dX6_cell_41 : decode cX6_cell 41 = .ok (.if_icmp .eq 9, 3) := by decide +kernel
theorem dX6_cell_44 : decode cX6_cell 44 = .ok (.aload_n 0, 1) := by decide +kernel
theorem dX6_cell_45 : decode cX6_cell 45 = .ok (.iconst 2, 1) := by decide +kernel
theorem dX6_cell_46 : decode cX6_cell 46 = .ok (.invokevirtual 225, 3) := by decide +kernel
theorem dX6_cell_49 : decode cX6_cell 49 = .ok (.lreturn, 1) := by decide +kernel
theorem dX6_cell_50 : decode cX6_cell 50 = .ok (.aload_n 0, 1) := by decide +kernel
theorem dX6_cell_51 : decode cX6_cell 51 = .ok (.getfield 9, 3) := by decide +kernel
theorem dX6_cell_54 : decode cX6_cell 54 = .ok (.iload_n 1, 1) := by decide +kernel
theorem dX6_cell_55 : decode cX6_cell 55 = .ok (.iaload, 1) := by decide +kernel
theorem dX6_cell_56 : decode cX6_cell 56 = .ok (.bipush (-9), 2) := by decide +kernel
theorem dX6_cell_58 : decode cX6_cell 58 = .ok (.if_icmp .ne 9, 3) := by decide +kernel
theorem dX6_cell_61 : decode cX6_cell 61 = .ok (.aload_n 0, 1) := by decide +kernel
theorem dX6_cell_62 : decode cX6_cell 62 = .ok (.iconst 1, 1) := by decide +kernel
theorem dX6_cell_63 : decode cX6_cell 63 = .ok (.invokevirtual 225, 3) := by decide +kernel
theorem dX6_cell_66 : decode cX6_cell 66 = .ok (.lreturn, 1) := by decide +kernel
theorem dX6_cell_67 : decode cX6_cell 67 = .ok (.iload_n 2, 1) := by decide +kernel
theorem dX6_cell_68 : decode cX6_cell 68 = .ok (.iconst 0, 1) := by decide +kernel
theorem dX6_cell_69 : decode cX6_cell 69 = .ok (.aload_n 0, 1) := by decide +kernel
theorem dX6_cell_70 : decode cX6_cell 70 = .ok (.getfield 13, 3) := by decide +kernel
theorem dX6_cell_73 : decode cX6_cell 73 = .ok (.iload_n 1, 1) := by decide +kernel
theorem dX6_cell_74 : decode cX6_cell 74 = .ok (.iaload, 1) := by decide +kernel
theorem dX6_cell_75 : decode cX6_cell 75 = .ok (.iconst 1, 1) := by decide +kernel
theorem dX6_cell_76 : decode cX6_cell 76 = .ok (.isub, 1) := by decide +kernel
theorem dX6_cell_77 : decode cX6_cell 77 = .ok (.invokestatic 70, 3) := by decide +kernel
theorem dX6_cell_80 : decode cX6_cell 80 = .ok (.ifCond .ne 9, 3) := by decide +kernel
theorem dX6_cell_83 : decode cX6_cell 83 = .ok (.aload_n 0, 1) := by decide +kernel
theorem dX6_cell_84 : decode cX6_cell 84 = .ok (.iconst 3, 1) := by decide +kernel
theorem dX6_cell_85 : decode cX6_cell 85 = .ok (.invokevirtual 225, 3) := by decide +kernel
theorem dX6_cell_88 : decode cX6_cell 88 = .ok (.lreturn, 1) := by decide +kernel
theorem dX6_cell_89 : decode cX6_cell 89 = .ok (.aload_n 0, 1) := by decide +kernel
theorem dX6_cell_90 : decode cX6_cell 90 = .ok (.getfield 16, 3) := by decide +kernel
theorem dX6_cell_93 : decode cX6_cell 93 = .ok (.bipush 60, 2) := by decide +kernel
theorem dX6_cell_95 : decode cX6_cell 95 = .ok (.iload_n 1, 1) := by decide +kernel
theorem dX6_cell_96 : decode cX6_cell 96 = .ok (.imul, 1) := by decide +kernel
theorem dX6_cell_97 : decode cX6_cell 97 = .ok (.iload_n 2, 1) := by decide +kernel
theorem dX6_cell_98 : decode cX6_cell 98 = .ok (.iadd, 1) := by decide +kernel
theorem dX6_cell_99 : decode cX6_cell 99 = .ok (.iaload, 1) := by decide +kernel
theorem dX6_cell_100 : decode cX6_cell 100 = .ok (.i2l, 1) := by decide +kernel
theorem dX6_cell_101 : decode cX6_cell 101 = .ok (.lreturn, 1) := by decide +kernel
theorem dX6_copy_0 : decode cX6_copy 0 = .ok (.aload_n 0, 1) := by decide +kernel
theorem dX6_copy_1 : decode cX6_copy 1 = .ok (.iconst 0, 1) := by decide +kernel
theorem dX6_copy_2 : decode cX6_copy 2 = .ok (.putfield 64, 3) := by decide +kernel
theorem dX6_copy_5 : decode cX6_copy 5 = .ok (.iload_n 1, 1) := by decide +kernel
theorem dX6_copy_6 : decode cX6_copy 6 = .ok (.invokestatic 83, 3) := by decide +kernel
theorem dX6_copy_9 : decode cX6_copy 9 = .ok (.ifCond .eq 10, 3) := by decide +kernel
theorem dX6_copy_12 : decode cX6_copy 12 = .ok (.iload_n 3, 1) := by decide +kernel
theorem dX6_copy_13 : decode cX6_copy 13 = .ok (.invokestatic 83, 3) := by decide +kernel
theorem dX6_copy_16 : decode cX6_copy 16 = .ok (.ifCond .ne 5, 3) := by decide +kernel
theorem dX6_copy_19 : decode cX6_copy 19 = .ok (.iconst (-1), 1) := by decide +kernel
theorem dX6_copy_20 : decode cX6_copy 20 = .ok (.ireturn, 1) := by decide +kernel
theorem dX6_copy_21 : decode cX6_copy 21 = .ok (.aload_n 0, 1) := by decide +kernel
theorem dX6_copy_22 : decode cX6_copy 22 = .ok (.getfield 9, 3) := by decide +kernel
theorem dX6_copy_25 : decode cX6_copy 25 = .ok (.iload_n 1, 1) := by decide +kernel
theorem dX6_copy_26 : decode cX6_copy 26 = .ok (.iaload, 1) := by decide +kernel
theorem dX6_copy_27 : decode cX6_copy 27 = .ok (.bipush (-9), 2) := by decide +kernel
theorem dX6_copy_29 : decode cX6_copy 29 = .ok (.if_icmp .eq 14, 3) := by decide +kernel
theorem dX6_copy_32 : decode cX6_copy 32 = .ok (.aload_n 0, 1) := by decide +kernel
theorem dX6_copy_33 : decode cX6_copy 33 = .ok (.getfield 9, 3) := by decide +kernel
theorem dX6_copy_36 : decode cX6_copy 36 = .ok (.iload_n 3, 1) := by decide +kernel
theorem dX6_copy_37 : decode cX6_copy 37 = .ok (.iaload, 1) := by decide +kernel
theorem dX6_copy_38 : decode cX6_copy 38 = .ok (.bipush (-9), 2) := by decide +kernel
theorem dX6_copy_40 : decode cX6_copy 40 = .ok (.if_icmp .ne 9, 3) := by decide +kernel
theorem dX6_copy_43 : decode cX6_copy 43 = .ok (.aload_n 0, 1) := by decide +kernel
theorem dX6_copy_44 : decode cX6_copy 44 = .ok (.iconst 1, 1) := by decide +kernel
theorem dX6_copy_45 : decode cX6_copy 45 = .ok (.invokevirtual 94, 3) := by decide +kernel
theorem dX6_copy_48 : decode cX6_copy 48 = .ok (.ireturn, 1) := by decide +kernel
theorem dX6_copy_49 : decode cX6_copy 49 = .ok (.aload_n 0, 1) := by decide +kernel
theorem dX6_copy_50 : decode cX6_copy 50 = .ok (.getfield 9, 3) := by decide +kernel
theorem dX6_copy_53 : decode cX6_copy 53 = .ok (.iload_n 1, 1) := by decide +kernel
theorem dX6_copy_54 : decode cX6_copy 54 = .ok (.iaload, 1) := by decide +kernel
theorem dX6_copy_55 : decode cX6_copy 55 = .ok (.aload_n 0, 1) := by decide +kernel
theorem dX6_copy_56 : decode cX6_copy 56 = .ok (.getfield 9, 3) := by decide +kernel
theorem dX6_copy_59 : decode cX6_copy 59 = .ok (.iload_n 3, 1) := by decide +kernel
theorem dX6_copy_60 : decode cX6_copy 60 = .ok (.iaload, 1) := by decide +kernel
theorem dX6_copy_61 : decode cX6_copy 61 = .ok (.if_icmp .eq 9, 3) := by decide +kernel
theorem dX6_copy_64 : decode cX6_copy 64 = .ok (.aload_n 0, 1) := by decide +kernel
theorem dX6_copy_65 : decode cX6_copy 65 = .ok (.iconst 2, 1) := by decide +kernel
theorem dX6_copy_66 : decode cX6_copy 66 = .ok (.invokevirtual 94, 3) := by decide +kernel
theorem dX6_copy_69 : decode cX6_copy 69 = .ok (.ireturn, 1) := by decide +kernel
theorem dX6_copy_70 : decode cX6_copy 70 = .ok (.iload_n 2, 1) := by decide +kernel
theorem dX6_copy_71 : decode cX6_copy 71 = .ok (.ifCond .lt 38, 3) := by decide +kernel
theorem dX6_copy_74 : decode cX6_copy 74 = .ok (.iload 4, 2) := by decide +kernel
theorem dX6_copy_76 : decode cX6_copy 76 = .ok (.ifCond .lt 33, 3) := by decide +kernel
theorem dX6_copy_79 : decode cX6_copy 79 = .ok (.iload 5, 2) := by decide +kernel
theorem dX6_copy_81 : decode cX6_copy 81 = .ok (.ifCond .lt 28, 3) := by decide +kernel
theorem dX6_copy_84 : decode cX6_copy 84 = .ok (.iload_n 2, 1) := by decide +kernel
theorem dX6_copy_85 : decode cX6_copy 85 = .ok (.aload_n 0, 1) := by decide +kernel
theorem dX6_copy_86 : decode cX6_copy 86 = .ok (.getfield 13, 3) := by decide +kernel
theorem dX6_copy_89 : decode cX6_copy 89 = .ok (.iload_n 1, 1) := by decide +kernel
theorem dX6_copy_90 : decode cX6_copy 90 = .ok (.iaload, 1) := by decide +kernel
theorem dX6_copy_91 : decode cX6_copy 91 = .ok (.if_icmp .gt 18, 3) := by decide +kernel
theorem dX6_copy_94 : decode cX6_copy 94 = .ok (.iload 4, 2) := by decide +kernel
theorem dX6_copy_96 : decode cX6_copy 96 = .ok (.aload_n 0, 1) := by decide +kernel
theorem dX6_copy_97 : decode cX6_copy 97 = .ok (.getfield 13, 3) := by decide +kernel
theorem dX6_copy_100 : decode cX6_copy 100 = .ok (.iload_n 3, 1) := by decide +kernel
theorem dX6_copy_101 : decode cX6_copy 101 = .ok (.iaload, 1) := by decide +kernel
theorem dX6_copy_102 : decode cX6_copy 102 = .ok (.if_icmp .gt 7, 3) := by decide +kernel
theorem dX6_copy_105 : decode cX6_copy 105 = .ok (.iconst 1, 1) := by decide +kernel
theorem dX6_copy_106 : decode cX6_copy 106 = .ok (.goto 4, 3) := by decide +kernel
theorem dX6_copy_109 : decode cX6_copy 109 = .ok (.iconst 0, 1) := by decide +kernel
theorem dX6_copy_110 : decode cX6_copy 110 = .ok (.istore 6, 2) := by decide +kernel
theorem dX6_copy_112 : decode cX6_copy 112 = .ok (.iload 6, 2) := by decide +kernel
theorem dX6_copy_114 : decode cX6_copy 114 = .ok (.ifCond .eq 30, 3) := by decide +kernel
theorem dX6_copy_117 : decode cX6_copy 117 = .ok (.iload 5, 2) := by decide +kernel
theorem dX6_copy_119 : decode cX6_copy 119 = .ok (.aload_n 0, 1) := by decide +kernel
theorem dX6_copy_120 : decode cX6_copy 120 = .ok (.getfield 13, 3) := by decide +kernel
theorem dX6_copy_123 : decode cX6_copy 123 = .ok (.iload_n 1, 1) := by decide +kernel
theorem dX6_copy_124 : decode cX6_copy 124 = .ok (.iaload, 1) := by decide +kernel
theorem dX6_copy_125 : decode cX6_copy 125 = .ok (.iload_n 2, 1) := by decide +kernel
theorem dX6_copy_126 : decode cX6_copy 126 = .ok (.isub, 1) := by decide +kernel
theorem dX6_copy_127 : decode cX6_copy 127 = .ok (.if_icmp .gt 17, 3) := by decide +kernel
theorem dX6_copy_130 : decode cX6_copy 130 = .ok (.iload 5, 2) := by decide +kernel
theorem dX6_copy_132 : decode cX6_copy 132 = .ok (.aload_n 0, 1) := by decide +kernel
theorem dX6_copy_133 : decode cX6_copy 133 = .ok (.getfield 13, 3) := by decide +kernel
theorem dX6_copy_136 : decode cX6_copy 136 = .ok (.iload_n 3, 1) := by decide +kernel
theorem dX6_copy_137 : decode cX6_copy 137 = .ok (.iaload, 1) := by decide +kernel
theorem dX6_copy_138 : decode cX6_copy 138 = .ok (.iload 4, 2) := by decide +kernel
theorem dX6_copy_140 : decode cX6_copy 140 = .ok (.isub, 1) := by decide +kernel
theorem dX6_copy_141 : decode cX6_copy 141 = .ok (.if_icmp .le 9, 3) := by decide +kernel
theorem dX6_copy_144 : decode cX6_copy 144 = .ok (.aload_n 0, 1) := by decide +kernel
theorem dX6_copy_145 : decode cX6_copy 145 = .ok (.iconst 3, 1) := by decide +kernel
theorem dX6_copy_146 : decode cX6_copy 146 = .ok (.invokevirtual 94, 3) := by decide +kernel
theorem dX6_copy_149 : decode cX6_copy 149 = .ok (.ireturn, 1) := by decide +kernel
theorem dX6_copy_150 : decode cX6_copy 150 = .ok (.iload_n 2, 1) := by decide +kernel
theorem dX6_copy_151 : decode cX6_copy 151 = .ok (.iload 4, 2) := by decide +kernel
theorem dX6_copy_153 : decode cX6_copy 153 = .ok (.if_icmp .ge 7, 3) := by decide +kernel
theorem dX6_copy_156 : decode cX6_copy 156 = .ok (.iconst 1, 1) := by decide +kernel
theorem dX6_copy_157 : decode cX6_copy 157 = .ok (.goto 4, 3) := by decide +kernel
theorem dX6_copy_160 : decode cX6_copy 160 = .ok (.iconst 0, 1) := by decide +kernel
theorem dX6_copy_161 : decode cX6_copy 161 = .ok (.istore 7, 2) := by decide +kernel
theorem dX6_copy_163 : decode cX6_copy 163 = .ok (.iconst 0, 1) := by decide +kernel
theorem dX6_copy_164 : decode cX6_copy 164 = .ok (.istore 8, 2) := by decide +kernel
theorem dX6_copy_166 : decode cX6_copy 166 = .ok (.iload 8, 2) := by decide +kernel
theorem dX6_copy_168 : decode cX6_copy 168 = .ok (.iload 5, 2) := by decide +kernel
theorem dX6_copy_170 : decode cX6_copy 170 = .ok (.if_icmp .ge 57, 3) := by decide +kernel
theorem dX6_copy_173 : decode cX6_copy 173 = .ok (.iload 7, 2) := by decide +kernel
theorem dX6_copy_175 : decode cX6_copy 175 = .ok (.ifCond .eq 13, 3) := by decide +kernel
theorem dX6_copy_178 : decode cX6_copy 178 = .ok (.iload 5, 2) := by decide +kernel
theorem dX6_copy_180 : decode cX6_copy 180 = .ok (.iconst 1, 1) := by decide +kernel
theorem dX6_copy_181 : decode cX6_copy 181 = .ok (.isub, 1) := by decide +kernel
theorem dX6_copy_182 : decode cX6_copy 182 = .ok (.iload 8, 2) := by decide +kernel
theorem dX6_copy_184 : decode cX6_copy 184 = .ok (.isub, 1) := by decide +kernel
theorem dX6_copy_185 : decode cX6_copy 185 = .ok (.goto 5, 3) := by decide +kernel
theorem dX6_copy_188 : decode cX6_copy 188 = .ok (.iload 8, 2) := by decide +kernel
theorem dX6_copy_190 : decode cX6_copy 190 = .ok (.istore 9, 2) := by decide +kernel
theorem dX6_copy_192 : decode cX6_copy 192 = .ok (.aload_n 0, 1) := by decide +kernel
theorem dX6_copy_193 : decode cX6_copy 193 = .ok (.getfield 16, 3) := by decide +kernel
theorem dX6_copy_196 : decode cX6_copy 196 = .ok (.bipush 60, 2) := by decide +kernel
theorem dX6_copy_198 : decode cX6_copy 198 = .ok (.iload_n 3, 1) := by decide +kernel
theorem dX6_copy_199 : decode cX6_copy 199 = .ok (.imul, 1) := by decide +kernel
theorem dX6_copy_200 : decode cX6_copy 200 = .ok (.iload 4, 2) := by decide +kernel
theorem dX6_copy_202 : decode cX6_copy 202 = .ok (.iadd, 1) := by decide +kernel
theorem dX6_copy_203 : decode cX6_copy 203 = .ok (.iload 9, 2) := by decide +kernel
theorem dX6_copy_205 : decode cX6_copy 205 = .ok (.iadd, 1) := by decide +kernel
theorem dX6_copy_206 : decode cX6_copy 206 = .ok (.aload_n 0, 1) := by decide +kernel
theorem dX6_copy_207 : decode cX6_copy 207 = .ok (.getfield 16, 3) := by decide +kernel
theorem dX6_copy_210 : decode cX6_copy 210 = .ok (.bipush 60, 2) := by decide +kernel
theorem dX6_copy_212 : decode cX6_copy 212 = .ok (.iload_n 1, 1) := by decide +kernel
theorem dX6_copy_213 : decode cX6_copy 213 = .ok (.imul, 1) := by decide +kernel
theorem dX6_copy_214 : decode cX6_copy 214 = .ok (.iload_n 2, 1) := by decide +kernel
theorem dX6_copy_215 : decode cX6_copy 215 = .ok (.iadd, 1) := by decide +kernel
theorem dX6_copy_216 : decode cX6_copy 216 = .ok (.iload 9, 2) := by decide +kernel
theorem dX6_copy_218 : decode cX6_copy 218 = .ok (.iadd, 1) := by decide +kernel
theorem dX6_copy_219 : decode cX6_copy 219 = .ok (.iaload, 1) := by decide +kernel
theorem dX6_copy_220 : decode cX6_copy 220 = .ok (.iastore, 1) := by decide +kernel
theorem dX6_copy_221 : decode cX6_copy 221 = .ok (.iinc 8 1, 3) := by decide +kernel
theorem dX6_copy_224 : decode cX6_copy 224 = .ok (.goto (-58), 3) := by decide +kernel
theorem dX6_copy_227 : decode cX6_copy 227 = .ok (.iload 5, 2) := by decide +kernel
theorem dX6_copy_229 : decode cX6_copy 229 = .ok (.ireturn, 1) := by decide +kernel
theorem dX6_begins_0 : decode cX6_begins 0 = .ok (.aload_n 0, 1) := by decide +kernel
theorem dX6_begins_1 : decode cX6_begins 1 = .ok (.bipush 31, 2) := by decide +kernel
theorem dX6_begins_3 : decode cX6_begins 3 = .ok (.aload_n 0, 1) := by decide +kernel
theorem dX6_begins_4 : decode cX6_begins 4 = .ok (.getfield 229, 3) := by decide +kernel
theorem dX6_begins_7 : decode cX6_begins 7 = .ok (.imul, 1) := by decide +kernel
theorem dX6_begins_8 : decode cX6_begins 8 = .ok (.iload_n 1, 1) := by decide +kernel
theorem dX6_begins_9 : decode cX6_begins 9 = .ok (.iadd, 1) := by decide +kernel
theorem dX6_begins_10 : decode cX6_begins 10 = .ok (.putfield 229, 3) := by decide +kernel
theorem dX6_begins_13 : decode cX6_begins 13 = .ok (.return_, 1) := by decide +kernel
theorem dX6_tell_0 : decode cX6_tell 0 = .ok (.aload_n 0, 1) := by decide +kernel
theorem dX6_tell_1 : decode cX6_tell 1 = .ok (.iload_n 1, 1) := by decide +kernel
theorem dX6_tell_2 : decode cX6_tell 2 = .ok (.invokevirtual 154, 3) := by decide +kernel
theorem dX6_tell_5 : decode cX6_tell 5 = .ok (.ifCond .ne 5, 3) := by decide +kernel
theorem dX6_tell_8 : decode cX6_tell 8 = .ok (.iconst (-1), 1) := by decide +kernel
theorem dX6_tell_9 : decode cX6_tell 9 = .ok (.ireturn, 1) := by decide +kernel
theorem dX6_tell_10 : decode cX6_tell 10 = .ok (.aload_n 0, 1) := by decide +kernel
theorem dX6_tell_11 : decode cX6_tell 11 = .ok (.getfield 31, 3) := by decide +kernel
theorem dX6_tell_14 : decode cX6_tell 14 = .ok (.iload_n 1, 1) := by decide +kernel
theorem dX6_tell_15 : decode cX6_tell 15 = .ok (.iaload, 1) := by decide +kernel
theorem dX6_tell_16 : decode cX6_tell 16 = .ok (.istore_n 2, 1) := by decide +kernel
theorem dX6_tell_17 : decode cX6_tell 17 = .ok (.aload_n 0, 1) := by decide +kernel
theorem dX6_tell_18 : decode cX6_tell 18 = .ok (.getfield 25, 3) := by decide +kernel
theorem dX6_tell_21 : decode cX6_tell 21 = .ok (.iload_n 1, 1) := by decide +kernel
theorem dX6_tell_22 : decode cX6_tell 22 = .ok (.iaload, 1) := by decide +kernel
theorem dX6_tell_23 : decode cX6_tell 23 = .ok (.lookupswitch 67 #[(1, 25), (2, 40)], 25) := by decide +kernel
theorem dX6_tell_48 : decode cX6_tell 48 = .ok (.aload_n 0, 1) := by decide +kernel
theorem dX6_tell_49 : decode cX6_tell 49 = .ok (.iconst 2, 1) := by decide +kernel
theorem dX6_tell_50 : decode cX6_tell 50 = .ok (.invokevirtual 232, 3) := by decide +kernel
theorem dX6_tell_53 : decode cX6_tell 53 = .ok (.aload_n 0, 1) := by decide +kernel
theorem dX6_tell_54 : decode cX6_tell 54 = .ok (.iconst 1, 1) := by decide +kernel
theorem dX6_tell_55 : decode cX6_tell 55 = .ok (.invokevirtual 232, 3) := by decide +kernel
theorem dX6_tell_58 : decode cX6_tell 58 = .ok (.iload_n 2, 1) := by decide +kernel
theorem dX6_tell_59 : decode cX6_tell 59 = .ok (.bipush 100, 2) := by decide +kernel
theorem dX6_tell_61 : decode cX6_tell 61 = .ok (.iadd, 1) := by decide +kernel
theorem dX6_tell_62 : decode cX6_tell 62 = .ok (.ireturn, 1) := by decide +kernel
theorem dX6_tell_63 : decode cX6_tell 63 = .ok (.aload_n 0, 1) := by decide +kernel
theorem dX6_tell_64 : decode cX6_tell 64 = .ok (.iconst 3, 1) := by decide +kernel
theorem dX6_tell_65 : decode cX6_tell 65 = .ok (.invokevirtual 232, 3) := by decide +kernel
theorem dX6_tell_68 : decode cX6_tell 68 = .ok (.aload_n 0, 1) := by decide +kernel
theorem dX6_tell_69 : decode cX6_tell 69 = .ok (.iconst 2, 1) := by decide +kernel
theorem dX6_tell_70 : decode cX6_tell 70 = .ok (.invokevirtual 232, 3) := by decide +kernel
theorem dX6_tell_73 : decode cX6_tell 73 = .ok (.aload_n 0, 1) := by decide +kernel
theorem dX6_tell_74 : decode cX6_tell 74 = .ok (.iconst 1, 1) := by decide +kernel
theorem dX6_tell_75 : decode cX6_tell 75 = .ok (.invokevirtual 232, 3) := by decide +kernel
theorem dX6_tell_78 : decode cX6_tell 78 = .ok (.aload_n 0, 1) := by decide +kernel
theorem dX6_tell_79 : decode cX6_tell 79 = .ok (.iconst 1, 1) := by decide +kernel
theorem dX6_tell_80 : decode cX6_tell 80 = .ok (.invokevirtual 232, 3) := by decide +kernel
theorem dX6_tell_83 : decode cX6_tell 83 = .ok (.iconst 2, 1) := by decide +kernel
theorem dX6_tell_84 : decode cX6_tell 84 = .ok (.iload_n 2, 1) := by decide +kernel
theorem dX6_tell_85 : decode cX6_tell 85 = .ok (.imul, 1) := by decide +kernel
theorem dX6_tell_86 : decode cX6_tell 86 = .ok (.bipush 100, 2) := by decide +kernel
theorem dX6_tell_88 : decode cX6_tell 88 = .ok (.iadd, 1) := by decide +kernel
theorem dX6_tell_89 : decode cX6_tell 89 = .ok (.ireturn, 1) := by decide +kernel
theorem dX6_tell_90 : decode cX6_tell 90 = .ok (.aload_n 0, 1) := by decide +kernel
theorem dX6_tell_91 : decode cX6_tell 91 = .ok (.iconst 1, 1) := by decide +kernel
theorem dX6_tell_92 : decode cX6_tell 92 = .ok (.invokevirtual 232, 3) := by decide +kernel
theorem dX6_tell_95 : decode cX6_tell 95 = .ok (.iload_n 2, 1) := by decide +kernel
theorem dX6_tell_96 : decode cX6_tell 96 = .ok (.ireturn, 1) := by decide +kernel
theorem dX6_name_0 : decode cX6_name 0 = .ok (.aload_n 0, 1) := by decide +kernel
theorem dX6_name_1 : decode cX6_name 1 = .ok (.iload_n 1, 1) := by decide +kernel
theorem dX6_name_2 : decode cX6_name 2 = .ok (.invokevirtual 154, 3) := by decide +kernel
theorem dX6_name_5 : decode cX6_name 5 = .ok (.ifCond .ne 5, 3) := by decide +kernel
theorem dX6_name_8 : decode cX6_name 8 = .ok (.iconst (-1), 1) := by decide +kernel
theorem dX6_name_9 : decode cX6_name 9 = .ok (.ireturn, 1) := by decide +kernel
theorem dX6_name_10 : decode cX6_name 10 = .ok (.aload_n 0, 1) := by decide +kernel
theorem dX6_name_11 : decode cX6_name 11 = .ok (.aload_n 0, 1) := by decide +kernel
theorem dX6_name_12 : decode cX6_name 12 = .ok (.getfield 25, 3) := by decide +kernel
theorem dX6_name_15 : decode cX6_name 15 = .ok (.iload_n 1, 1) := by decide +kernel
theorem dX6_name_16 : decode cX6_name 16 = .ok (.iaload, 1) := by decide +kernel
theorem dX6_name_17 : decode cX6_name 17 = .ok (.iconst 2, 1) := by decide +kernel
theorem dX6_name_18 : decode cX6_name 18 = .ok (.if_icmp .ne 7, 3) := by decide +kernel
theorem dX6_name_21 : decode cX6_name 21 = .ok (.iconst 5, 1) := by decide +kernel
theorem dX6_name_22 : decode cX6_name 22 = .ok (.goto 4, 3) := by decide +kernel
theorem dX6_name_25 : decode cX6_name 25 = .ok (.iconst 4, 1) := by decide +kernel
theorem dX6_name_26 : decode cX6_name 26 = .ok (.invokevirtual 232, 3) := by decide +kernel
theorem dX6_name_29 : decode cX6_name 29 = .ok (.aload_n 0, 1) := by decide +kernel
theorem dX6_name_30 : decode cX6_name 30 = .ok (.getfield 25, 3) := by decide +kernel
theorem dX6_name_33 : decode cX6_name 33 = .ok (.iload_n 1, 1) := by decide +kernel
theorem dX6_name_34 : decode cX6_name 34 = .ok (.iaload, 1) := by decide +kernel
theorem dX6_name_35 : decode cX6_name 35 = .ok (.iconst 2, 1) := by decide +kernel
theorem dX6_name_36 : decode cX6_name 36 = .ok (.if_icmp .ne 8, 3) := by decide +kernel
theorem dX6_name_39 : decode cX6_name 39 = .ok (.bipush 60, 2) := by decide +kernel
theorem dX6_name_41 : decode cX6_name 41 = .ok (.goto 4, 3) := by decide +kernel
theorem dX6_name_44 : decode cX6_name 44 = .ok (.iload_n 1, 1) := by decide +kernel
theorem dX6_name_45 : decode cX6_name 45 = .ok (.ireturn, 1) := by decide +kernel
theorem dX6_as_0 : decode cX6_as 0 = .ok (.aload_n 0, 1) := by decide +kernel
theorem dX6_as_1 : decode cX6_as 1 = .ok (.iconst 0, 1) := by decide +kernel
theorem dX6_as_2 : decode cX6_as 2 = .ok (.putfield 64, 3) := by decide +kernel
theorem dX6_as_5 : decode cX6_as 5 = .ok (.aload_n 0, 1) := by decide +kernel
theorem dX6_as_6 : decode cX6_as 6 = .ok (.iload_n 1, 1) := by decide +kernel
theorem dX6_as_7 : decode cX6_as 7 = .ok (.invokevirtual 154, 3) := by decide +kernel
theorem dX6_as_10 : decode cX6_as 10 = .ok (.ifCond .ne 5, 3) := by decide +kernel
theorem dX6_as_13 : decode cX6_as 13 = .ok (.iconst (-1), 1) := by decide +kernel
theorem dX6_as_14 : decode cX6_as 14 = .ok (.ireturn, 1) := by decide +kernel
theorem dX6_as_15 : decode cX6_as 15 = .ok (.iload_n 2, 1) := by decide +kernel
theorem dX6_as_16 : decode cX6_as 16 = .ok (.iconst 0, 1) := by decide +kernel
theorem dX6_as_17 : decode cX6_as 17 = .ok (.iconst 2, 1) := by decide +kernel
theorem dX6_as_18 : decode cX6_as 18 = .ok (.invokestatic 70, 3) := by decide +kernel
theorem dX6_as_21 : decode cX6_as 21 = .ok (.ifCond .ne 6, 3) := by decide +kernel
theorem dX6_as_24 : decode cX6_as 24 = .ok (.bipush (-2), 2) := by decide +kernel
theorem dX6_as_26 : decode cX6_as 26 = .ok (.ireturn, 1) := by decide +kernel
theorem dX6_as_27 : decode cX6_as 27 = .ok (.aload_n 0, 1) := by decide +kernel
theorem dX6_as_28 : decode cX6_as 28 = .ok (.getfield 25, 3) := by decide +kernel
theorem dX6_as_31 : decode cX6_as 31 = .ok (.iload_n 1, 1) := by decide +kernel
theorem dX6_as_32 : decode cX6_as 32 = .ok (.iaload, 1) := by decide +kernel
theorem dX6_as_33 : decode cX6_as 33 = .ok (.iload_n 2, 1) := by decide +kernel
theorem dX6_as_34 : decode cX6_as 34 = .ok (.if_icmp .lt 7, 3) := by decide +kernel
theorem dX6_as_37 : decode cX6_as 37 = .ok (.iconst 1, 1) := by decide +kernel
theorem dX6_as_38 : decode cX6_as 38 = .ok (.goto 8, 3) := by decide +kernel
theorem dX6_as_41 : decode cX6_as 41 = .ok (.aload_n 0, 1) := by decide +kernel
theorem dX6_as_42 : decode cX6_as 42 = .ok (.iconst 2, 1) := by decide +kernel
theorem dX6_as_43 : decode cX6_as 43 = .ok (.invokevirtual 94, 3) := by decide +kernel
theorem dX6_as_46 : decode cX6_as 46 = .ok (.ireturn, 1) := by decide +kernel
theorem dX6_trace_0 : decode cX6_trace 0 = .ok (.aload_n 0, 1) := by decide +kernel
theorem dX6_trace_1 : decode cX6_trace 1 = .ok (.getfield 229, 3) := by decide +kernel
theorem dX6_trace_4 : decode cX6_trace 4 = .ok (.ireturn, 1) := by decide +kernel
theorem dX6_fault_0 : decode cX6_fault 0 = .ok (.aload_n 0, 1) := by decide +kernel
theorem dX6_fault_1 : decode cX6_fault 1 = .ok (.getfield 64, 3) := by decide +kernel
theorem dX6_fault_4 : decode cX6_fault 4 = .ok (.ireturn, 1) := by decide +kernel
theorem dX6_many_0 : decode cX6_many 0 = .ok (.iload_n 1, 1) := by decide +kernel
theorem dX6_many_1 : decode cX6_many 1 = .ok (.tableswitch 69 0 5 #[39, 44, 49, 54, 59, 64], 39) := by decide +kernel
theorem dX6_many_40 : decode cX6_many 40 = .ok (.aload_n 0, 1) := by decide +kernel
theorem dX6_many_41 : decode cX6_many 41 = .ok (.getfield 77, 3) := by decide +kernel
theorem dX6_many_44 : decode cX6_many 44 = .ok (.ireturn, 1) := by decide +kernel
theorem dX6_many_45 : decode cX6_many 45 = .ok (.aload_n 0, 1) := by decide +kernel
theorem dX6_many_46 : decode cX6_many 46 = .ok (.getfield 74, 3) := by decide +kernel
theorem dX6_many_49 : decode cX6_many 49 = .ok (.ireturn, 1) := by decide +kernel
theorem dX6_many_50 : decode cX6_many 50 = .ok (.aload_n 0, 1) := by decide +kernel
theorem dX6_many_51 : decode cX6_many 51 = .ok (.getfield 107, 3) := by decide +kernel
theorem dX6_many_54 : decode cX6_many 54 = .ok (.ireturn, 1) := by decide +kernel
theorem dX6_many_55 : decode cX6_many 55 = .ok (.aload_n 0, 1) := by decide +kernel
theorem dX6_many_56 : decode cX6_many 56 = .ok (.getfield 113, 3) := by decide +kernel
theorem dX6_many_59 : decode cX6_many 59 = .ok (.ireturn, 1) := by decide +kernel
theorem dX6_many_60 : decode cX6_many 60 = .ok (.aload_n 0, 1) := by decide +kernel
theorem dX6_many_61 : decode cX6_many 61 = .ok (.getfield 119, 3) := by decide +kernel
theorem dX6_many_64 : decode cX6_many 64 = .ok (.ireturn, 1) := by decide +kernel
theorem dX6_many_65 : decode cX6_many 65 = .ok (.aload_n 0, 1) := by decide +kernel
theorem dX6_many_66 : decode cX6_many 66 = .ok (.getfield 128, 3) := by decide +kernel
theorem dX6_many_69 : decode cX6_many 69 = .ok (.ireturn, 1) := by decide +kernel
theorem dX6_many_70 : decode cX6_many 70 = .ok (.bipush (-2), 2) := by decide +kernel
theorem dX6_many_72 : decode cX6_many 72 = .ok (.ireturn, 1) := by decide +kernel

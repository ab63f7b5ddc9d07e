theorem dX0_init_0 : decode cX0_init 0 = .ok (.aload_n 0, 1) := by decide +kernel
theorem dX0_init_1 : decode cX0_init 1 = .ok (.invokespecial 3, 3) := by decide +kernel
theorem dX0_init_4 : decode cX0_init 4 = .ok (.return_, 1) := by decide +kernel
theorem dX0_begin_0 : decode cX0_begin 0 = .ok (.aload_n 0, 1) := by decide +kernel
theorem dX0_begin_1 : decode cX0_begin 1 = .ok (.aload_n 1, 1) := by decide +kernel
theorem dX0_begin_2 : decode cX0_begin 2 = .ok (.putfield 9, 3) := by decide +kernel
theorem dX0_begin_5 : decode cX0_begin 5 = .ok (.aload_n 0, 1) := by decide +kernel
theorem dX0_begin_6 : decode cX0_begin 6 = .ok (.iload_n 2, 1) := by decide +kernel
theorem dX0_begin_7 : decode cX0_begin 7 = .ok (.putfield 15, 3) := by decide +kernel
theorem dX0_begin_10 : decode cX0_begin 10 = .ok (.aload_n 0, 1) := by decide +kernel
theorem dX0_begin_11 : decode cX0_begin 11 = .ok (.iload_n 2, 1) := by decide +kernel
theorem dX0_begin_12 : decode cX0_begin 12 = .ok (.iload_n 3, 1) := by decide +kernel
theorem dX0_begin_13 : decode cX0_begin 13 = .ok (.iadd, 1) := by decide +kernel
theorem dX0_begin_14 : decode cX0_begin 14 = .ok (.putfield 19, 3) := by decide +kernel
theorem dX0_begin_17 : decode cX0_begin 17 = .ok (.aload_n 0, 1) := by decide +kernel
theorem dX0_begin_18 : decode cX0_begin 18 = .ok (.iload_n 2, 1) := by decide +kernel
theorem dX0_begin_19 : decode cX0_begin 19 = .ok (.putfield 22, 3) := by decide +kernel
theorem dX0_begin_22 : decode cX0_begin 22 = .ok (.return_, 1) := by decide +kernel
theorem dX0_place_0 : decode cX0_place 0 = .ok (.aload_n 0, 1) := by decide +kernel
theorem dX0_place_1 : decode cX0_place 1 = .ok (.getfield 22, 3) := by decide +kernel
theorem dX0_place_4 : decode cX0_place 4 = .ok (.aload_n 0, 1) := by decide +kernel
theorem dX0_place_5 : decode cX0_place 5 = .ok (.getfield 15, 3) := by decide +kernel
theorem dX0_place_8 : decode cX0_place 8 = .ok (.isub, 1) := by decide +kernel
theorem dX0_place_9 : decode cX0_place 9 = .ok (.ireturn, 1) := by decide +kernel
theorem dX0_isAtEnd_0 : decode cX0_isAtEnd 0 = .ok (.aload_n 0, 1) := by decide +kernel
theorem dX0_isAtEnd_1 : decode cX0_isAtEnd 1 = .ok (.getfield 22, 3) := by decide +kernel
theorem dX0_isAtEnd_4 : decode cX0_isAtEnd 4 = .ok (.aload_n 0, 1) := by decide +kernel
theorem dX0_isAtEnd_5 : decode cX0_isAtEnd 5 = .ok (.getfield 19, 3) := by decide +kernel
theorem dX0_isAtEnd_8 : decode cX0_isAtEnd 8 = .ok (.if_icmp .lt 7, 3) := by decide +kernel
theorem dX0_isAtEnd_11 : decode cX0_isAtEnd 11 = .ok (.iconst 1, 1) := by decide +kernel
theorem dX0_isAtEnd_12 : decode cX0_isAtEnd 12 = .ok (.goto 4, 3) := by decide +kernel
theorem dX0_isAtEnd_15 : decode cX0_isAtEnd 15 = .ok (.iconst 0, 1) := by decide +kernel
theorem dX0_isAtEnd_16 : decode cX0_isAtEnd 16 = .ok (.ireturn, 1) := by decide +kernel
theorem dX0_takes_0 : decode cX0_takes 0 = .ok (.aload_n 0, 1) := by decide +kernel
theorem dX0_takes_1 : decode cX0_takes 1 = .ok (.invokevirtual 25, 3) := by decide +kernel
theorem dX0_takes_4 : decode cX0_takes 4 = .ok (.ifCond .ne 19, 3) := by decide +kernel
theorem dX0_takes_7 : decode cX0_takes 7 = .ok (.aload_n 0, 1) := by decide +kernel
theorem dX0_takes_8 : decode cX0_takes 8 = .ok (.getfield 9, 3) := by decide +kernel
theorem dX0_takes_11 : decode cX0_takes 11 = .ok (.getfield 29, 3) := by decide +kernel
theorem dX0_takes_14 : decode cX0_takes 14 = .ok (.aload_n 0, 1) := by decide +kernel
theorem dX0_takes_15 : decode cX0_takes 15 = .ok (.getfield 22, 3) := by decide +kernel
theorem dX0_takes_18 : decode cX0_takes 18 = .ok (.iaload, 1) := by decide +kernel
theorem dX0_takes_19 : decode cX0_takes 19 = .ok (.iload_n 1, 1) := by decide +kernel
theorem dX0_takes_20 : decode cX0_takes 20 = .ok (.if_icmp .eq 5, 3) := by decide +kernel
theorem dX0_takes_23 : decode cX0_takes 23 = .ok (.iconst 0, 1) := by decide +kernel
theorem dX0_takes_24 : decode cX0_takes 24 = .ok (.ireturn, 1) := by decide +kernel
theorem dX0_takes_25 : decode cX0_takes 25 = .ok (.aload_n 0, 1) := by decide +kernel
theorem dX0_takes_26 : decode cX0_takes 26 = .ok (.dup, 1) := by decide +kernel
theorem dX0_takes_27 : decode cX0_takes 27 = .ok (.getfield 22, 3) := by decide +kernel
theorem dX0_takes_30 : decode cX0_takes 30 = .ok (.iconst 1, 1) := by decide +kernel
theorem dX0_takes_31 : decode cX0_takes 31 = .ok (.iadd, 1) := by decide +kernel
theorem dX0_takes_32 : decode cX0_takes 32 = .ok (.putfield 22, 3) := by decide +kernel
theorem dX0_takes_35 : decode cX0_takes 35 = .ok (.iconst 1, 1) := by decide +kernel
theorem dX0_takes_36 : decode cX0_takes 36 = .ok (.ireturn, 1) := by decide +kernel
theorem dX0_digit_0 : decode cX0_digit 0 = .ok (.aload_n 0, 1) := by decide +kernel
theorem dX0_digit_1 : decode cX0_digit 1 = .ok (.invokevirtual 25, 3) := by decide +kernel
theorem dX0_digit_4 : decode cX0_digit 4 = .ok (.ifCond .ne 29, 3) := by decide +kernel
theorem dX0_digit_7 : decode cX0_digit 7 = .ok (.aload_n 0, 1) := by decide +kernel
theorem dX0_digit_8 : decode cX0_digit 8 = .ok (.getfield 9, 3) := by decide +kernel
theorem dX0_digit_11 : decode cX0_digit 11 = .ok (.getfield 29, 3) := by decide +kernel
theorem dX0_digit_14 : decode cX0_digit 14 = .ok (.aload_n 0, 1) := by decide +kernel
theorem dX0_digit_15 : decode cX0_digit 15 = .ok (.getfield 22, 3) := by decide +kernel
theorem dX0_digit_18 : decode cX0_digit 18 = .ok (.iaload, 1) := by decide +kernel
theorem dX0_digit_19 : decode cX0_digit 19 = .ok (.bipush 48, 2) := by decide +kernel
theorem dX0_digit_21 : decode cX0_digit 21 = .ok (.iload_n 1, 1) := by decide +kernel
theorem dX0_digit_22 : decode cX0_digit 22 = .ok (.iadd, 1) := by decide +kernel
theorem dX0_digit_23 : decode cX0_digit 23 = .ok (.bipush 48, 2) := by decide +kernel
theorem dX0_digit_25 : decode cX0_digit 25 = .ok (.iload_n 2, 1) := by decide +kernel
theorem dX0_digit_26 : decode cX0_digit 26 = .ok (.iadd, 1) := by decide +kernel
theorem dX0_digit_27 : decode cX0_digit 27 = .ok (.invokestatic 35, 3) := by decide +kernel
theorem dX0_digit_30 : decode cX0_digit 30 = .ok (.ifCond .ne 6, 3) := by decide +kernel
theorem dX0_digit_33 : decode cX0_digit 33 = .ok (.bipush (-9), 2) := by decide +kernel
theorem dX0_digit_35 : decode cX0_digit 35 = .ok (.ireturn, 1) := by decide +kernel
theorem dX0_digit_36 : decode cX0_digit 36 = .ok (.aload_n 0, 1) := by decide +kernel
theorem dX0_digit_37 : decode cX0_digit 37 = .ok (.getfield 9, 3) := by decide +kernel
theorem dX0_digit_40 : decode cX0_digit 40 = .ok (.getfield 29, 3) := by decide +kernel
theorem dX0_digit_43 : decode cX0_digit 43 = .ok (.aload_n 0, 1) := by decide +kernel
theorem dX0_digit_44 : decode cX0_digit 44 = .ok (.getfield 22, 3) := by decide +kernel
theorem dX0_digit_47 : decode cX0_digit 47 = .ok (.iaload, 1) := by decide +kernel
theorem dX0_digit_48 : decode cX0_digit 48 = .ok (.bipush 48, 2) := by decide +kernel
theorem dX0_digit_50 : decode cX0_digit 50 = .ok (.isub, 1) := by decide +kernel
theorem dX0_digit_51 : decode cX0_digit 51 = .ok (.istore_n 3, 1) := by decide +kernel
theorem dX0_digit_52 : decode cX0_digit 52 = .ok (.aload_n 0, 1) := by decide +kernel
theorem dX0_digit_53 : decode cX0_digit 53 = .ok (.dup, 1) := by decide +kernel
theorem dX0_digit_54 : decode cX0_digit 54 = .ok (.getfield 22, 3) := by decide +kernel
theorem dX0_digit_57 : decode cX0_digit 57 = .ok (.iconst 1, 1) := by decide +kernel
theorem dX0_digit_58 : decode cX0_digit 58 = .ok (.iadd, 1) := by decide +kernel
theorem dX0_digit_59 : decode cX0_digit 59 = .ok (.putfield 22, 3) := by decide +kernel
theorem dX0_digit_62 : decode cX0_digit 62 = .ok (.iload_n 3, 1) := by decide +kernel
theorem dX0_digit_63 : decode cX0_digit 63 = .ok (.ireturn, 1) := by decide +kernel
theorem dX0_kind_0 : decode cX0_kind 0 = .ok (.aload_n 0, 1) := by decide +kernel
theorem dX0_kind_1 : decode cX0_kind 1 = .ok (.bipush 115, 2) := by decide +kernel
theorem dX0_kind_3 : decode cX0_kind 3 = .ok (.invokevirtual 39, 3) := by decide +kernel
theorem dX0_kind_6 : decode cX0_kind 6 = .ok (.ifCond .eq 5, 3) := by decide +kernel
theorem dX0_kind_9 : decode cX0_kind 9 = .ok (.iconst 0, 1) := by decide +kernel
theorem dX0_kind_10 : decode cX0_kind 10 = .ok (.ireturn, 1) := by decide +kernel
theorem dX0_kind_11 : decode cX0_kind 11 = .ok (.aload_n 0, 1) := by decide +kernel
theorem dX0_kind_12 : decode cX0_kind 12 = .ok (.bipush 99, 2) := by decide +kernel
theorem dX0_kind_14 : decode cX0_kind 14 = .ok (.invokevirtual 39, 3) := by decide +kernel
theorem dX0_kind_17 : decode cX0_kind 17 = .ok (.ifCond .eq 5, 3) := by decide +kernel
theorem dX0_kind_20 : decode cX0_kind 20 = .ok (.iconst 1, 1) := by decide +kernel
theorem dX0_kind_21 : decode cX0_kind 21 = .ok (.ireturn, 1) := by decide +kernel
theorem dX0_kind_22 : decode cX0_kind 22 = .ok (.aload_n 0, 1) := by decide +kernel
theorem dX0_kind_23 : decode cX0_kind 23 = .ok (.bipush 108, 2) := by decide +kernel
theorem dX0_kind_25 : decode cX0_kind 25 = .ok (.invokevirtual 39, 3) := by decide +kernel
theorem dX0_kind_28 : decode cX0_kind 28 = .ok (.ifCond .eq 7, 3) := by decide +kernel
theorem dX0_kind_31 : decode cX0_kind 31 = .ok (.iconst 2, 1) := by decide +kernel
theorem dX0_kind_32 : decode cX0_kind 32 = .ok (.goto 5, 3) := by decide +kernel
theorem dX0_kind_35 : decode cX0_kind 35 = .ok (.bipush (-9), 2) := by decide +kernel
theorem dX0_kind_37 : decode cX0_kind 37 = .ok (.ireturn, 1) := by decide +kernel
theorem dX1_init_0 : decode cX1_init 0 = .ok (.aload_n 0, 1) := by decide +kernel
theorem dX1_init_1 : decode cX1_init 1 = .ok (.invokespecial 3, 3) := by decide +kernel
theorem dX1_init_4 : decode cX1_init 4 = .ok (.aload_n 0, 1) := by decide +kernel
theorem dX1_init_5 : decode cX1_init 5 = .ok (.bipush 8, 2) := by decide +kernel
theorem dX1_init_7 : decode cX1_init 7 = .ok (.newarray .int, 2) := by decide +kernel
theorem dX1_init_9 : decode cX1_init 9 = .ok (.putfield 9, 3) := by decide +kernel
theorem dX1_init_12 : decode cX1_init 12 = .ok (.aload_n 0, 1) := by decide +kernel
theorem dX1_init_13 : decode cX1_init 13 = .ok (.bipush 8, 2) := by decide +kernel
theorem dX1_init_15 : decode cX1_init 15 = .ok (.newarray .int, 2) := by decide +kernel
theorem dX1_init_17 : decode cX1_init 17 = .ok (.putfield 15, 3) := by decide +kernel
theorem dX1_init_20 : decode cX1_init 20 = .ok (.aload_n 0, 1) := by decide +kernel
theorem dX1_init_21 : decode cX1_init 21 = .ok (.bipush 8, 2) := by decide +kernel
theorem dX1_init_23 : decode cX1_init 23 = .ok (.newarray .int, 2) := by decide +kernel
theorem dX1_init_25 : decode cX1_init 25 = .ok (.putfield 18, 3) := by decide +kernel
theorem dX1_init_28 : decode cX1_init 28 = .ok (.return_, 1) := by decide +kernel
theorem dX1_take_0 : decode cX1_take 0 = .ok (.aload_n 0, 1) := by decide +kernel
theorem dX1_take_1 : decode cX1_take 1 = .ok (.getfield 9, 3) := by decide +kernel
theorem dX1_take_4 : decode cX1_take 4 = .ok (.aload_n 0, 1) := by decide +kernel
theorem dX1_take_5 : decode cX1_take 5 = .ok (.getfield 21, 3) := by decide +kernel
theorem dX1_take_8 : decode cX1_take 8 = .ok (.iload_n 1, 1) := by decide +kernel
theorem dX1_take_9 : decode cX1_take 9 = .ok (.iastore, 1) := by decide +kernel
theorem dX1_take_10 : decode cX1_take 10 = .ok (.aload_n 0, 1) := by decide +kernel
theorem dX1_take_11 : decode cX1_take 11 = .ok (.getfield 15, 3) := by decide +kernel
theorem dX1_take_14 : decode cX1_take 14 = .ok (.aload_n 0, 1) := by decide +kernel
theorem dX1_take_15 : decode cX1_take 15 = .ok (.getfield 21, 3) := by decide +kernel
theorem dX1_take_18 : decode cX1_take 18 = .ok (.iload_n 2, 1) := by decide +kernel
theorem dX1_take_19 : decode cX1_take 19 = .ok (.iastore, 1) := by decide +kernel
theorem dX1_take_20 : decode cX1_take 20 = .ok (.aload_n 0, 1) := by decide +kernel
theorem dX1_take_21 : decode cX1_take 21 = .ok (.getfield 18, 3) := by decide +kernel
theorem dX1_take_24 : decode cX1_take 24 = .ok (.aload_n 0, 1) := by decide +kernel
theorem dX1_take_25 : decode cX1_take 25 = .ok (.getfield 21, 3) := by decide +kernel
theorem dX1_take_28 : decode cX1_take 28 = .ok (.iload_n 3, 1) := by decide +kernel
theorem dX1_take_29 : decode cX1_take 29 = .ok (.iastore, 1) := by decide +kernel
theorem dX1_take_30 : decode cX1_take 30 = .ok (.aload_n 0, 1) := by decide +kernel
theorem dX1_take_31 : decode cX1_take 31 = .ok (.dup, 1) := by decide +kernel
theorem dX1_take_32 : decode cX1_take 32 = .ok (.getfield 21, 3) := by decide +kernel
theorem dX1_take_35 : decode cX1_take 35 = .ok (.iconst 1, 1) := by decide +kernel
theorem dX1_take_36 : decode cX1_take 36 = .ok (.iadd, 1) := by decide +kernel
theorem dX1_take_37 : decode cX1_take 37 = .ok (.putfield 21, 3) := by decide +kernel
theorem dX1_take_40 : decode cX1_take 40 = .ok (.aload_n 0, 1) := by decide +kernel
theorem dX1_take_41 : decode cX1_take 41 = .ok (.getfield 21, 3) := by decide +kernel
theorem dX1_take_44 : decode cX1_take 44 = .ok (.iconst 1, 1) := by decide +kernel
theorem dX1_take_45 : decode cX1_take 45 = .ok (.isub, 1) := by decide +kernel
theorem dX1_take_46 : decode cX1_take 46 = .ok (.ireturn, 1) := by decide +kernel
theorem dX1_areSoIn_0 : decode cX1_areSoIn 0 = .ok (.iconst 0, 1) := by decide +kernel
theorem dX1_areSoIn_1 : decode cX1_areSoIn 1 = .ok (.istore_n 2, 1) := by decide +kernel
theorem dX1_areSoIn_2 : decode cX1_areSoIn 2 = .ok (.iload_n 2, 1) := by decide +kernel
theorem dX1_areSoIn_3 : decode cX1_areSoIn 3 = .ok (.aload_n 0, 1) := by decide +kernel
theorem dX1_areSoIn_4 : decode cX1_areSoIn 4 = .ok (.getfield 21, 3) := by decide +kernel
theorem dX1_areSoIn_7 : decode cX1_areSoIn 7 = .ok (.if_icmp .ge 36, 3) := by decide +kernel
theorem dX1_areSoIn_10 : decode cX1_areSoIn 10 = .ok (.aload_n 1, 1) := by decide +kernel
theorem dX1_areSoIn_11 : decode cX1_areSoIn 11 = .ok (.aload_n 0, 1) := by decide +kernel
theorem dX1_areSoIn_12 : decode cX1_areSoIn 12 = .ok (.getfield 9, 3) := by decide +kernel
theorem dX1_areSoIn_15 : decode cX1_areSoIn 15 = .ok (.iload_n 2, 1) := by decide +kernel
theorem dX1_areSoIn_16 : decode cX1_areSoIn 16 = .ok (.iaload, 1) := by decide +kernel
theorem dX1_areSoIn_17 : decode cX1_areSoIn 17 = .ok (.aload_n 0, 1) := by decide +kernel
theorem dX1_areSoIn_18 : decode cX1_areSoIn 18 = .ok (.getfield 15, 3) := by decide +kernel
theorem dX1_areSoIn_21 : decode cX1_areSoIn 21 = .ok (.iload_n 2, 1) := by decide +kernel
theorem dX1_areSoIn_22 : decode cX1_areSoIn 22 = .ok (.iaload, 1) := by decide +kernel
theorem dX1_areSoIn_23 : decode cX1_areSoIn 23 = .ok (.invokevirtual 25, 3) := by decide +kernel
theorem dX1_areSoIn_26 : decode cX1_areSoIn 26 = .ok (.aload_n 0, 1) := by decide +kernel
theorem dX1_areSoIn_27 : decode cX1_areSoIn 27 = .ok (.getfield 18, 3) := by decide +kernel
theorem dX1_areSoIn_30 : decode cX1_areSoIn 30 = .ok (.iload_n 2, 1) := by decide +kernel
theorem dX1_areSoIn_31 : decode cX1_areSoIn 31 = .ok (.iaload, 1) := by decide +kernel
theorem dX1_areSoIn_32 : decode cX1_areSoIn 32 = .ok (.if_icmp .eq 5, 3) := by decide +kernel
theorem dX1_areSoIn_35 : decode cX1_areSoIn 35 = .ok (.iconst 0, 1) := by decide +kernel
theorem dX1_areSoIn_36 : decode cX1_areSoIn 36 = .ok (.ireturn, 1) := by decide +kernel
theorem dX1_areSoIn_37 : decode cX1_areSoIn 37 = .ok (.iinc 2 1, 3) := by decide +kernel
theorem dX1_areSoIn_40 : decode cX1_areSoIn 40 = .ok (.goto (-38), 3) := by decide +kernel
theorem dX1_areSoIn_43 : decode cX1_areSoIn 43 = .ok (.iconst 1, 1) := by decide +kernel
theorem dX1_areSoIn_44 : decode cX1_areSoIn 44 = .ok (.ireturn, 1) := by decide +kernel
theorem dX2_init_0 : decode cX2_init 0 = .ok (.aload_n 0, 1) := by decide +kernel
theorem dX2_init_1 : decode cX2_init 1 = .ok (.invokespecial 3, 3) := by decide +kernel
theorem dX2_init_4 : decode cX2_init 4 = .ok (.aload_n 0, 1) := by decide +kernel
theorem dX2_init_5 : decode cX2_init 5 = .ok (.bipush 6, 2) := by decide +kernel
theorem dX2_init_7 : decode cX2_init 7 = .ok (.bipush 10, 2) := by decide +kernel
theorem dX2_init_9 : decode cX2_init 9 = .ok (.multianewarray 11 2, 4) := by decide +kernel
theorem dX2_init_13 : decode cX2_init 13 = .ok (.putfield 13, 3) := by decide +kernel
theorem dX2_init_16 : decode cX2_init 16 = .ok (.aload_n 0, 1) := by decide +kernel
theorem dX2_init_17 : decode cX2_init 17 = .ok (.bipush 6, 2) := by decide +kernel
theorem dX2_init_19 : decode cX2_init 19 = .ok (.newarray .int, 2) := by decide +kernel
theorem dX2_init_21 : decode cX2_init 21 = .ok (.putfield 16, 3) := by decide +kernel
theorem dX2_init_24 : decode cX2_init 24 = .ok (.aload_n 0, 1) := by decide +kernel
theorem dX2_init_25 : decode cX2_init 25 = .ok (.bipush 6, 2) := by decide +kernel
theorem dX2_init_27 : decode cX2_init 27 = .ok (.newarray .int, 2) := by decide +kernel
theorem dX2_init_29 : decode cX2_init 29 = .ok (.putfield 20, 3) := by decide +kernel
theorem dX2_init_32 : decode cX2_init 32 = .ok (.return_, 1) := by decide +kernel
theorem dX2_begin_0 : decode cX2_begin 0 = .ok (.aload_n 0, 1) := by decide +kernel
theorem dX2_begin_1 : decode cX2_begin 1 = .ok (.iload_n 1, 1) := by decide +kernel
theorem dX2_begin_2 : decode cX2_begin 2 = .ok (.putfield 23, 3) := by decide +kernel
theorem dX2_begin_5 : decode cX2_begin 5 = .ok (.aload_n 0, 1) := by decide +kernel
theorem dX2_begin_6 : decode cX2_begin 6 = .ok (.iload_n 2, 1) := by decide +kernel
theorem dX2_begin_7 : decode cX2_begin 7 = .ok (.putfield 27, 3) := by decide +kernel
theorem dX2_begin_10 : decode cX2_begin 10 = .ok (.return_, 1) := by decide +kernel
theorem dX2_lay_0 : decode cX2_lay 0 = .ok (.aload_n 0, 1) := by decide +kernel
theorem dX2_lay_1 : decode cX2_lay 1 = .ok (.getfield 13, 3) := by decide +kernel
theorem dX2_lay_4 : decode cX2_lay 4 = .ok (.iload_n 1, 1) := by decide +kernel
theorem dX2_lay_5 : decode cX2_lay 5 = .ok (.aaload, 1) := by decide +kernel
theorem dX2_lay_6 : decode cX2_lay 6 = .ok (.iload_n 2, 1) := by decide +kernel
theorem dX2_lay_7 : decode cX2_lay 7 = .ok (.iload_n 3, 1) := by decide +kernel
theorem dX2_lay_8 : decode cX2_lay 8 = .ok (.iastore, 1) := by decide +kernel
theorem dX2_lay_9 : decode cX2_lay 9 = .ok (.return_, 1) := by decide +kernel
theorem dX2_find_0 : decode cX2_find 0 = .ok (.aload_n 0, 1) := by decide +kernel
theorem dX2_find_1 : decode cX2_find 1 = .ok (.iload_n 2, 1) := by decide +kernel
theorem dX2_find_2 : decode cX2_find 2 = .ok (.invokevirtual 30, 3) := by decide +kernel
theorem dX2_find_5 : decode cX2_find 5 = .ok (.aload_n 0, 1) := by decide +kernel
theorem dX2_find_6 : decode cX2_find 6 = .ok (.aload_n 0, 1) := by decide +kernel
theorem dX2_find_7 : decode cX2_find 7 = .ok (.getfield 16, 3) := by decide +kernel
theorem dX2_find_10 : decode cX2_find 10 = .ok (.iload_n 1, 1) := by decide +kernel
theorem dX2_find_11 : decode cX2_find 11 = .ok (.iaload, 1) := by decide +kernel
theorem dX2_find_12 : decode cX2_find 12 = .ok (.putfield 34, 3) := by decide +kernel
theorem dX2_find_15 : decode cX2_find 15 = .ok (.iload_n 1, 1) := by decide +kernel
theorem dX2_find_16 : decode cX2_find 16 = .ok (.istore_n 3, 1) := by decide +kernel
theorem dX2_find_17 : decode cX2_find 17 = .ok (.iconst 0, 1) := by decide +kernel
theorem dX2_find_18 : decode cX2_find 18 = .ok (.istore 4, 2) := by decide +kernel
theorem dX2_find_20 : decode cX2_find 20 = .ok (.iload 4, 2) := by decide +kernel
theorem dX2_find_22 : decode cX2_find 22 = .ok (.aload_n 0, 1) := by decide +kernel
theorem dX2_find_23 : decode cX2_find 23 = .ok (.getfield 34, 3) := by decide +kernel
theorem dX2_find_26 : decode cX2_find 26 = .ok (.if_icmp .ge 50, 3) := by decide +kernel
theorem dX2_find_29 : decode cX2_find 29 = .ok (.aload_n 0, 1) := by decide +kernel
theorem dX2_find_30 : decode cX2_find 30 = .ok (.iload_n 3, 1) := by decide +kernel
theorem dX2_find_31 : decode cX2_find 31 = .ok (.aload_n 0, 1) := by decide +kernel
theorem dX2_find_32 : decode cX2_find 32 = .ok (.getfield 16, 3) := by decide +kernel
theorem dX2_find_35 : decode cX2_find 35 = .ok (.iload_n 3, 1) := by decide +kernel
theorem dX2_find_36 : decode cX2_find 36 = .ok (.iaload, 1) := by decide +kernel
theorem dX2_find_37 : decode cX2_find 37 = .ok (.iconst 1, 1) := by decide +kernel
theorem dX2_find_38 : decode cX2_find 38 = .ok (.isub, 1) := by decide +kernel
theorem dX2_find_39 : decode cX2_find 39 = .ok (.invokevirtual 37, 3) := by decide +kernel
theorem dX2_find_42 : decode cX2_find 42 = .ok (.istore 5, 2) := by decide +kernel
theorem dX2_find_44 : decode cX2_find 44 = .ok (.iload 5, 2) := by decide +kernel
theorem dX2_find_46 : decode cX2_find 46 = .ok (.bipush (-9), 2) := by decide +kernel
theorem dX2_find_48 : decode cX2_find 48 = .ok (.if_icmp .eq 22, 3) := by decide +kernel
theorem dX2_find_51 : decode cX2_find 51 = .ok (.aload_n 0, 1) := by decide +kernel
theorem dX2_find_52 : decode cX2_find 52 = .ok (.getfield 20, 3) := by decide +kernel
theorem dX2_find_55 : decode cX2_find 55 = .ok (.iload 4, 2) := by decide +kernel
theorem dX2_find_57 : decode cX2_find 57 = .ok (.iload 5, 2) := by decide +kernel
theorem dX2_find_59 : decode cX2_find 59 = .ok (.iastore, 1) := by decide +kernel
theorem dX2_find_60 : decode cX2_find 60 = .ok (.aload_n 0, 1) := by decide +kernel
theorem dX2_find_61 : decode cX2_find 61 = .ok (.getfield 13, 3) := by decide +kernel
theorem dX2_find_64 : decode cX2_find 64 = .ok (.iload_n 3, 1) := by decide +kernel
theorem dX2_find_65 : decode cX2_find 65 = .ok (.aaload, 1) := by decide +kernel
theorem dX2_find_66 : decode cX2_find 66 = .ok (.iload 5, 2) := by decide +kernel
theorem dX2_find_68 : decode cX2_find 68 = .ok (.iaload, 1) := by decide +kernel
theorem dX2_find_69 : decode cX2_find 69 = .ok (.istore_n 3, 1) := by decide +kernel
theorem dX2_find_70 : decode cX2_find 70 = .ok (.iinc 4 1, 3) := by decide +kernel
theorem dX2_find_73 : decode cX2_find 73 = .ok (.goto (-53), 3) := by decide +kernel
theorem dX2_find_76 : decode cX2_find 76 = .ok (.return_, 1) := by decide +kernel
theorem dX2_moveAt_0 : decode cX2_moveAt 0 = .ok (.iload_n 1, 1) := by decide +kernel
theorem dX2_moveAt_1 : decode cX2_moveAt 1 = .ok (.iconst 0, 1) := by decide +kernel
theorem dX2_moveAt_2 : decode cX2_moveAt 2 = .ok (.aload_n 0, 1) := by decide +kernel
theorem dX2_moveAt_3 : decode cX2_moveAt 3 = .ok (.getfield 34, 3) := by decide +kernel
theorem dX2_moveAt_6 : decode cX2_moveAt 6 = .ok (.iconst 1, 1) := by decide +kernel
theorem dX2_moveAt_7 : decode cX2_moveAt 7 = .ok (.isub, 1) := by decide +kernel
theorem dX2_moveAt_8 : decode cX2_moveAt 8 = .ok (.invokestatic 41, 3) := by decide +kernel
theorem dX2_moveAt_11 : decode cX2_moveAt 11 = .ok (.ifCond .eq 12, 3) := by decide +kernel
theorem dX2_moveAt_14 : decode cX2_moveAt 14 = .ok (.aload_n 0, 1) := by decide +kernel
theorem dX2_moveAt_15 : decode cX2_moveAt 15 = .ok (.getfield 20, 3) := by decide +kernel
theorem dX2_moveAt_18 : decode cX2_moveAt 18 = .ok (.iload_n 1, 1) := by decide +kernel
theorem dX2_moveAt_19 : decode cX2_moveAt 19 = .ok (.iaload, 1) := by decide +kernel
theorem dX2_moveAt_20 : decode cX2_moveAt 20 = .ok (.goto 5, 3) := by decide +kernel
theorem dX2_moveAt_23 : decode cX2_moveAt 23 = .ok (.bipush (-9), 2) := by decide +kernel
theorem dX2_moveAt_25 : decode cX2_moveAt 25 = .ok (.ireturn, 1) := by decide +kernel
theorem dX2_measure_0 : decode cX2_measure 0 = .ok (.iconst 0, 1) := by decide +kernel
theorem dX2_measure_1 : decode cX2_measure 1 = .ok (.istore_n 2, 1) := by decide +kernel
theorem dX2_measure_2 : decode cX2_measure 2 = .ok (.iload_n 2, 1) := by decide +kernel
theorem dX2_measure_3 : decode cX2_measure 3 = .ok (.aload_n 0, 1) := by decide +kernel
theorem dX2_measure_4 : decode cX2_measure 4 = .ok (.getfield 23, 3) := by decide +kernel
theorem dX2_measure_7 : decode cX2_measure 7 = .ok (.if_icmp .ge 26, 3) := by decide +kernel
theorem dX2_measure_10 : decode cX2_measure 10 = .ok (.aload_n 0, 1) := by decide +kernel
theorem dX2_measure_11 : decode cX2_measure 11 = .ok (.getfield 16, 3) := by decide +kernel
theorem dX2_measure_14 : decode cX2_measure 14 = .ok (.iload_n 2, 1) := by decide +kernel
theorem dX2_measure_15 : decode cX2_measure 15 = .ok (.iload_n 2, 1) := by decide +kernel
theorem dX2_measure_16 : decode cX2_measure 16 = .ok (.iload_n 1, 1) := by decide +kernel
theorem dX2_measure_17 : decode cX2_measure 17 = .ok (.if_icmp .ne 7, 3) := by decide +kernel
theorem dX2_measure_20 : decode cX2_measure 20 = .ok (.iconst 0, 1) := by decide +kernel
theorem dX2_measure_21 : decode cX2_measure 21 = .ok (.goto 5, 3) := by decide +kernel
theorem dX2_measure_24 : decode cX2_measure 24 = .ok (.bipush (-9), 2) := by decide +kernel
theorem dX2_measure_26 : decode cX2_measure 26 = .ok (.iastore, 1) := by decide +kernel
theorem dX2_measure_27 : decode cX2_measure 27 = .ok (.iinc 2 1, 3) := by decide +kernel
theorem dX2_measure_30 : decode cX2_measure 30 = .ok (.goto (-28), 3) := by decide +kernel
theorem dX2_measure_33 : decode cX2_measure 33 = .ok (.iconst 1, 1) := by decide +kernel
theorem dX2_measure_34 : decode cX2_measure 34 = .ok (.istore_n 2, 1) := by decide +kernel
theorem dX2_measure_35 : decode cX2_measure 35 = .ok (.iload_n 2, 1) := by decide +kernel
theorem dX2_measure_36 : decode cX2_measure 36 = .ok (.aload_n 0, 1) := by decide +kernel
theorem dX2_measure_37 : decode cX2_measure 37 = .ok (.getfield 23, 3) := by decide +kernel
theorem dX2_measure_40 : decode cX2_measure 40 = .ok (.if_icmp .ge 56, 3) := by decide +kernel
theorem dX2_measure_43 : decode cX2_measure 43 = .ok (.iconst 0, 1) := by decide +kernel
theorem dX2_measure_44 : decode cX2_measure 44 = .ok (.istore_n 3, 1) := by decide +kernel
theorem dX2_measure_45 : decode cX2_measure 45 = .ok (.iload_n 3, 1) := by decide +kernel
theorem dX2_measure_46 : decode cX2_measure 46 = .ok (.aload_n 0, 1) := by decide +kernel
theorem dX2_measure_47 : decode cX2_measure 47 = .ok (.getfield 23, 3) := by decide +kernel
theorem dX2_measure_50 : decode cX2_measure 50 = .ok (.if_icmp .ge 40, 3) := by decide +kernel
theorem dX2_measure_53 : decode cX2_measure 53 = .ok (.aload_n 0, 1) := by decide +kernel
theorem dX2_measure_54 : decode cX2_measure 54 = .ok (.getfield 16, 3) := by decide +kernel
theorem dX2_measure_57 : decode cX2_measure 57 = .ok (.iload_n 3, 1) := by decide +kernel
theorem dX2_measure_58 : decode cX2_measure 58 = .ok (.iaload, 1) := by decide +kernel
theorem dX2_measure_59 : decode cX2_measure 59 = .ok (.bipush (-9), 2) := by decide +kernel
theorem dX2_measure_61 : decode cX2_measure 61 = .ok (.if_icmp .ne 23, 3) := by decide +kernel
theorem dX2_measure_64 : decode cX2_measure 64 = .ok (.aload_n 0, 1) := by decide +kernel
theorem dX2_measure_65 : decode cX2_measure 65 = .ok (.iload_n 3, 1) := by decide +kernel
theorem dX2_measure_66 : decode cX2_measure 66 = .ok (.iload_n 2, 1) := by decide +kernel
theorem dX2_measure_67 : decode cX2_measure 67 = .ok (.iconst 1, 1) := by decide +kernel
theorem dX2_measure_68 : decode cX2_measure 68 = .ok (.isub, 1) := by decide +kernel
theorem dX2_measure_69 : decode cX2_measure 69 = .ok (.invokevirtual 37, 3) := by decide +kernel
theorem dX2_measure_72 : decode cX2_measure 72 = .ok (.bipush (-9), 2) := by decide +kernel
theorem dX2_measure_74 : decode cX2_measure 74 = .ok (.if_icmp .eq 10, 3) := by decide +kernel
theorem dX2_measure_77 : decode cX2_measure 77 = .ok (.aload_n 0, 1) := by decide +kernel
theorem dX2_measure_78 : decode cX2_measure 78 = .ok (.getfield 16, 3) := by decide +kernel
theorem dX2_measure_81 : decode cX2_measure 81 = .ok (.iload_n 3, 1) := by decide +kernel
theorem dX2_measure_82 : decode cX2_measure 82 = .ok (.iload_n 2, 1) := by decide +kernel
theorem dX2_measure_83 : decode cX2_measure 83 = .ok (.iastore, 1) := by decide +kernel
theorem dX2_measure_84 : decode cX2_measure 84 = .ok (.iinc 3 1, 3) := by decide +kernel
theorem dX2_measure_87 : decode cX2_measure 87 = .ok (.goto (-42), 3) := by decide +kernel
theorem dX2_measure_90 : decode cX2_measure 90 = .ok (.iinc 2 1, 3) := by decide +kernel
theorem dX2_measure_93 : decode cX2_measure 93 = .ok (.goto (-58), 3) := by decide +kernel
theorem dX2_measure_96 : decode cX2_measure 96 = .ok (.return_, 1) := by decide +kernel
theorem dX2_moveTo_0 : decode cX2_moveTo 0 = .ok (.iconst 0, 1) := by decide +kernel
theorem dX2_moveTo_1 : decode cX2_moveTo 1 = .ok (.istore_n 3, 1) := by decide +kernel
theorem dX2_moveTo_2 : decode cX2_moveTo 2 = .ok (.iload_n 3, 1) := by decide +kernel
theorem dX2_moveTo_3 : decode cX2_moveTo 3 = .ok (.aload_n 0, 1) := by decide +kernel
theorem dX2_moveTo_4 : decode cX2_moveTo 4 = .ok (.getfield 27, 3) := by decide +kernel
theorem dX2_moveTo_7 : decode cX2_moveTo 7 = .ok (.if_icmp .ge 28, 3) := by decide +kernel
theorem dX2_moveTo_10 : decode cX2_moveTo 10 = .ok (.aload_n 0, 1) := by decide +kernel
theorem dX2_moveTo_11 : decode cX2_moveTo 11 = .ok (.getfield 16, 3) := by decide +kernel
theorem dX2_moveTo_14 : decode cX2_moveTo 14 = .ok (.aload_n 0, 1) := by decide +kernel
theorem dX2_moveTo_15 : decode cX2_moveTo 15 = .ok (.getfield 13, 3) := by decide +kernel
theorem dX2_moveTo_18 : decode cX2_moveTo 18 = .ok (.iload_n 1, 1) := by decide +kernel
theorem dX2_moveTo_19 : decode cX2_moveTo 19 = .ok (.aaload, 1) := by decide +kernel
theorem dX2_moveTo_20 : decode cX2_moveTo 20 = .ok (.iload_n 3, 1) := by decide +kernel
theorem dX2_moveTo_21 : decode cX2_moveTo 21 = .ok (.iaload, 1) := by decide +kernel
theorem dX2_moveTo_22 : decode cX2_moveTo 22 = .ok (.iaload, 1) := by decide +kernel
theorem dX2_moveTo_23 : decode cX2_moveTo 23 = .ok (.iload_n 2, 1) := by decide +kernel
theorem dX2_moveTo_24 : decode cX2_moveTo 24 = .ok (.if_icmp .ne 5, 3) := by decide +kernel
theorem dX2_moveTo_27 : decode cX2_moveTo 27 = .ok (.iload_n 3, 1) := by decide +kernel
theorem dX2_moveTo_28 : decode cX2_moveTo 28 = .ok (.ireturn, 1) := by decide +kernel
theorem dX2_moveTo_29 : decode cX2_moveTo 29 = .ok (.iinc 3 1, 3) := by decide +kernel
theorem dX2_moveTo_32 : decode cX2_moveTo 32 = .ok (.goto (-30), 3) := by decide +kernel
theorem dX2_moveTo_35 : decode cX2_moveTo 35 = .ok (.bipush (-9), 2) := by decide +kernel
theorem dX2_moveTo_37 : decode cX2_moveTo 37 = .ok (.ireturn, 1) := by decide +kernel
theorem dX3_init_0 : decode cX3_init 0 = .ok (.aload_n 0, 1) := by decide +kernel
theorem dX3_init_1 : decode cX3_init 1 = .ok (.invokespecial 3, 3) := by decide +kernel
theorem dX3_init_4 : decode cX3_init 4 = .ok (.aload_n 0, 1) := by decide +kernel
theorem dX3_init_5 : decode cX3_init 5 = .ok (.bipush 60, 2) := by decide +kernel
theorem dX3_init_7 : decode cX3_init 7 = .ok (.newarray .int, 2) := by decide +kernel
theorem dX3_init_9 : decode cX3_init 9 = .ok (.putfield 9, 3) := by decide +kernel
theorem dX3_init_12 : decode cX3_init 12 = .ok (.return_, 1) := by decide +kernel
theorem dX3_renew_0 : decode cX3_renew 0 = .ok (.aload_n 0, 1) := by decide +kernel
theorem dX3_renew_1 : decode cX3_renew 1 = .ok (.iconst 1, 1) := by decide +kernel
theorem dX3_renew_2 : decode cX3_renew 2 = .ok (.putfield 15, 3) := by decide +kernel
theorem dX3_renew_5 : decode cX3_renew 5 = .ok (.aload_n 0, 1) := by decide +kernel
theorem dX3_renew_6 : decode cX3_renew 6 = .ok (.iload_n 1, 1) := by decide +kernel
theorem dX3_renew_7 : decode cX3_renew 7 = .ok (.putfield 19, 3) := by decide +kernel
theorem dX3_renew_10 : decode cX3_renew 10 = .ok (.aload_n 0, 1) := by decide +kernel
theorem dX3_renew_11 : decode cX3_renew 11 = .ok (.iload_n 2, 1) := by decide +kernel
theorem dX3_renew_12 : decode cX3_renew 12 = .ok (.putfield 23, 3) := by decide +kernel
theorem dX3_renew_15 : decode cX3_renew 15 = .ok (.iconst 0, 1) := by decide +kernel
theorem dX3_renew_16 : decode cX3_renew 16 = .ok (.istore_n 3, 1) := by decide +kernel
theorem dX3_renew_17 : decode cX3_renew 17 = .ok (.iload_n 3, 1) := by decide +kernel
theorem dX3_renew_18 : decode cX3_renew 18 = .ok (.bipush 60, 2) := by decide +kernel
theorem dX3_renew_20 : decode cX3_renew 20 = .ok (.if_icmp .ge 16, 3) := by decide +kernel
theorem dX3_renew_23 : decode cX3_renew 23 = .ok (.aload_n 0, 1) := by decide +kernel
theorem dX3_renew_24 : decode cX3_renew 24 = .ok (.getfield 9, 3) := by decide +kernel
theorem dX3_renew_27 : decode cX3_renew 27 = .ok (.iload_n 3, 1) := by decide +kernel
theorem dX3_renew_28 : decode cX3_renew 28 = .ok (.iconst 0, 1) := by decide +kernel
theorem dX3_renew_29 : decode cX3_renew 29 = .ok (.iastore, 1) := by decide +kernel
theorem dX3_renew_30 : decode cX3_renew 30 = .ok (.iinc 3 1, 3) := by decide +kernel
theorem dX3_renew_33 : decode cX3_renew 33 = .ok (.goto (-16), 3) := by decide +kernel
theorem dX3_renew_36 : decode cX3_renew 36 = .ok (.return_, 1) := by decide +kernel
theorem dX3_has_0 : decode cX3_has 0 = .ok (.iload_n 1, 1) := by decide +kernel
theorem dX3_has_1 : decode cX3_has 1 = .ok (.iconst 0, 1) := by decide +kernel
theorem dX3_has_2 : decode cX3_has 2 = .ok (.aload_n 0, 1) := by decide +kernel
theorem dX3_has_3 : decode cX3_has 3 = .ok (.getfield 23, 3) := by decide +kernel
theorem dX3_has_6 : decode cX3_has 6 = .ok (.invokestatic 26, 3) := by decide +kernel
theorem dX3_has_9 : decode cX3_has 9 = .ok (.ifCond .eq 21, 3) := by decide +kernel
theorem dX3_has_12 : decode cX3_has 12 = .ok (.iload_n 2, 1) := by decide +kernel
theorem dX3_has_13 : decode cX3_has 13 = .ok (.iconst 0, 1) := by decide +kernel
theorem dX3_has_14 : decode cX3_has 14 = .ok (.aload_n 0, 1) := by decide +kernel
theorem dX3_has_15 : decode cX3_has 15 = .ok (.getfield 23, 3) := by decide +kernel
theorem dX3_has_18 : decode cX3_has 18 = .ok (.iload_n 1, 1) := by decide +kernel
theorem dX3_has_19 : decode cX3_has 19 = .ok (.isub, 1) := by decide +kernel
theorem dX3_has_20 : decode cX3_has 20 = .ok (.invokestatic 26, 3) := by decide +kernel
theorem dX3_has_23 : decode cX3_has 23 = .ok (.ifCond .eq 7, 3) := by decide +kernel
theorem dX3_has_26 : decode cX3_has 26 = .ok (.iconst 1, 1) := by decide +kernel
theorem dX3_has_27 : decode cX3_has 27 = .ok (.goto 4, 3) := by decide +kernel
theorem dX3_has_30 : decode cX3_has 30 = .ok (.iconst 0, 1) := by decide +kernel
theorem dX3_has_31 : decode cX3_has 31 = .ok (.ireturn, 1) := by decide +kernel
theorem dX3_areWithin_0 : decode cX3_areWithin 0 = .ok (.iconst 0, 1) := by decide +kernel
theorem dX3_areWithin_1 : decode cX3_areWithin 1 = .ok (.istore 4, 2) := by decide +kernel
theorem dX3_areWithin_3 : decode cX3_areWithin 3 = .ok (.iload 4, 2) := by decide +kernel
theorem dX3_areWithin_5 : decode cX3_areWithin 5 = .ok (.iload_n 2, 1) := by decide +kernel
theorem dX3_areWithin_6 : decode cX3_areWithin 6 = .ok (.if_icmp .ge 28, 3) := by decide +kernel
theorem dX3_areWithin_9 : decode cX3_areWithin 9 = .ok (.aload_n 0, 1) := by decide +kernel
theorem dX3_areWithin_10 : decode cX3_areWithin 10 = .ok (.getfield 9, 3) := by decide +kernel
theorem dX3_areWithin_13 : decode cX3_areWithin 13 = .ok (.iload_n 1, 1) := by decide +kernel
theorem dX3_areWithin_14 : decode cX3_areWithin 14 = .ok (.iload 4, 2) := by decide +kernel
theorem dX3_areWithin_16 : decode cX3_areWithin 16 = .ok (.iadd, 1) := by decide +kernel
theorem dX3_areWithin_17 : decode cX3_areWithin 17 = .ok (.iaload, 1) := by decide +kernel
theorem dX3_areWithin_18 : decode cX3_areWithin 18 = .ok (.iconst 0, 1) := by decide +kernel
theorem dX3_areWithin_19 : decode cX3_areWithin 19 = .ok (.iload_n 3, 1) := by decide +kernel
theorem dX3_areWithin_20 : decode cX3_areWithin 20 = .ok (.invokestatic 26, 3) := by decide +kernel
theorem dX3_areWithin_23 : decode cX3_areWithin 23 = .ok (.ifCond .ne 5, 3) := by decide +kernel
theorem dX3_areWithin_26 : decode cX3_areWithin 26 = .ok (.iconst 0, 1) := by decide +kernel
theorem dX3_areWithin_27 : decode cX3_areWithin 27 = .ok (.ireturn, 1) := by decide +kernel
theorem dX3_areWithin_28 : decode cX3_areWithin 28 = .ok (.iinc 4 1, 3) := by decide +kernel
theorem dX3_areWithin_31 : decode cX3_areWithin 31 = .ok (.goto (-28), 3) := by decide +kernel
theorem dX3_areWithin_34 : decode cX3_areWithin 34 = .ok (.iconst 1, 1) := by decide +kernel
theorem dX3_areWithin_35 : decode cX3_areWithin 35 = .ok (.ireturn, 1) := by decide +kernel
theorem dX3_cut_0 : decode cX3_cut 0 = .ok (.aload_n 0, 1) := by decide +kernel
theorem dX3_cut_1 : decode cX3_cut 1 = .ok (.getfield 19, 3) := by decide +kernel
theorem dX3_cut_4 : decode cX3_cut 4 = .ok (.lookupswitch 34 #[(0, 28), (1, 31)], 28) := by decide +kernel
theorem dX3_cut_32 : decode cX3_cut 32 = .ok (.iload_n 1, 1) := by decide +kernel
theorem dX3_cut_33 : decode cX3_cut 33 = .ok (.i2b, 1) := by decide +kernel
theorem dX3_cut_34 : decode cX3_cut 34 = .ok (.ireturn, 1) := by decide +kernel
theorem dX3_cut_35 : decode cX3_cut 35 = .ok (.iload_n 1, 1) := by decide +kernel
theorem dX3_cut_36 : decode cX3_cut 36 = .ok (.i2s, 1) := by decide +kernel
theorem dX3_cut_37 : decode cX3_cut 37 = .ok (.ireturn, 1) := by decide +kernel
theorem dX3_cut_38 : decode cX3_cut 38 = .ok (.iload_n 1, 1) := by decide +kernel
theorem dX3_cut_39 : decode cX3_cut 39 = .ok (.ireturn, 1) := by decide +kernel
theorem dX4_init_0 : decode cX4_init 0 = .ok (.aload_n 0, 1) := by decide +kernel
theorem dX4_init_1 : decode cX4_init 1 = .ok (.invokespecial 3, 3) := by decide +kernel
theorem dX4_init_4 : decode cX4_init 4 = .ok (.aload_n 0, 1) := by decide +kernel
theorem dX4_init_5 : decode cX4_init 5 = .ok (.bipush 6, 2) := by decide +kernel
theorem dX4_init_7 : decode cX4_init 7 = .ok (.newarray .int, 2) := by decide +kernel
theorem dX4_init_9 : decode cX4_init 9 = .ok (.putfield 9, 3) := by decide +kernel
theorem dX4_init_12 : decode cX4_init 12 = .ok (.aload_n 0, 1) := by decide +kernel
theorem dX4_init_13 : decode cX4_init 13 = .ok (.bipush 6, 2) := by decide +kernel
theorem dX4_init_15 : decode cX4_init 15 = .ok (.newarray .int, 2) := by decide +kernel
theorem dX4_init_17 : decode cX4_init 17 = .ok (.putfield 15, 3) := by decide +kernel
theorem dX4_init_20 : decode cX4_init 20 = .ok (.aload_n 0, 1) := by decide +kernel
theorem dX4_init_21 : decode cX4_init 21 = .ok (.bipush 6, 2) := by decide +kernel
theorem dX4_init_23 : decode cX4_init 23 = .ok (.newarray .int, 2) := by decide +kernel
theorem dX4_init_25 : decode cX4_init 25 = .ok (.putfield 18, 3) := by decide +kernel
theorem dX4_init_28 : decode cX4_init 28 = .ok (.aload_n 0, 1) := by decide +kernel
theorem dX4_init_29 : decode cX4_init 29 = .ok (.bipush 6, 2) := by decide +kernel
theorem dX4_init_31 : decode cX4_init 31 = .ok (.newarray .int, 2) := by decide +kernel
theorem dX4_init_33 : decode cX4_init 33 = .ok (.putfield 21, 3) := by decide +kernel
theorem dX4_init_36 : decode cX4_init 36 = .ok (.aload_n 0, 1) := by decide +kernel
theorem dX4_init_37 : decode cX4_init 37 = .ok (.bipush 6, 2) := by decide +kernel
theorem dX4_init_39 : decode cX4_init 39 = .ok (.newarray .int, 2) := by decide +kernel
theorem dX4_init_41 : decode cX4_init 41 = .ok (.putfield 24, 3) := by decide +kernel
theorem dX4_init_44 : decode cX4_init 44 = .ok (.return_, 1) := by decide +kernel
theorem dX4_become_0 : decode cX4_become 0 = .ok (.aload_n 0, 1) := by decide +kernel
theorem dX4_become_1 : decode cX4_become 1 = .ok (.aload_n 1, 1) := by decide +kernel
theorem dX4_become_2 : decode cX4_become 2 = .ok (.getfield 27, 3) := by decide +kernel
theorem dX4_become_5 : decode cX4_become 5 = .ok (.putfield 27, 3) := by decide +kernel
theorem dX4_become_8 : decode cX4_become 8 = .ok (.aload_n 0, 1) := by decide +kernel
theorem dX4_become_9 : decode cX4_become 9 = .ok (.aload_n 1, 1) := by decide +kernel
theorem dX4_become_10 : decode cX4_become 10 = .ok (.getfield 31, 3) := by decide +kernel
theorem dX4_become_13 : decode cX4_become 13 = .ok (.putfield 31, 3) := by decide +kernel
theorem dX4_become_16 : decode cX4_become 16 = .ok (.aload_n 0, 1) := by decide +kernel
theorem dX4_become_17 : decode cX4_become 17 = .ok (.aload_n 1, 1) := by decide +kernel
theorem dX4_become_18 : decode cX4_become 18 = .ok (.getfield 34, 3) := by decide +kernel
theorem dX4_become_21 : decode cX4_become 21 = .ok (.putfield 34, 3) := by decide +kernel
theorem dX4_become_24 : decode cX4_become 24 = .ok (.aload_n 0, 1) := by decide +kernel
theorem dX4_become_25 : decode cX4_become 25 = .ok (.aload_n 1, 1) := by decide +kernel
theorem dX4_become_26 : decode cX4_become 26 = .ok (.getfield 37, 3) := by decide +kernel
theorem dX4_become_29 : decode cX4_become 29 = .ok (.putfield 37, 3) := by decide +kernel
theorem dX4_become_32 : decode cX4_become 32 = .ok (.aload_n 0, 1) := by decide +kernel
theorem dX4_become_33 : decode cX4_become 33 = .ok (.aload_n 1, 1) := by decide +kernel
theorem dX4_become_34 : decode cX4_become 34 = .ok (.getfield 40, 3) := by decide +kernel
theorem dX4_become_37 : decode cX4_become 37 = .ok (.putfield 40, 3) := by decide +kernel
theorem dX4_become_40 : decode cX4_become 40 = .ok (.iconst 0, 1) := by decide +kernel
theorem dX4_become_41 : decode cX4_become 41 = .ok (.istore_n 2, 1) := by decide +kernel
theorem dX4_become_42 : decode cX4_become 42 = .ok (.iload_n 2, 1) := by decide +kernel
theorem dX4_become_43 : decode cX4_become 43 = .ok (.bipush 6, 2) := by decide +kernel
theorem dX4_become_45 : decode cX4_become 45 = .ok (.if_icmp .ge 33, 3) := by decide +kernel
theorem dX4_become_48 : decode cX4_become 48 = .ok (.aload_n 0, 1) := by decide +kernel
theorem dX4_become_49 : decode cX4_become 49 = .ok (.getfield 9, 3) := by decide +kernel
theorem dX4_become_52 : decode cX4_become 52 = .ok (.iload_n 2, 1) := by decide +kernel
theorem dX4_become_53 : decode cX4_become 53 = .ok (.aload_n 1, 1) := by decide +kernel
theorem dX4_become_54 : decode cX4_become 54 = .ok (.getfield 9, 3) := by decide +kernel
theorem dX4_become_57 : decode cX4_become 57 = .ok (.iload_n 2, 1) := by decide +kernel
theorem dX4_become_58 : decode cX4_become 58 = .ok (.iaload, 1) := by decide +kernel
theorem dX4_become_59 : decode cX4_become 59 = .ok (.iastore, 1) := by decide +kernel
theorem dX4_become_60 : decode cX4_become 60 = .ok (.aload_n 0, 1) := by decide +kernel
theorem dX4_become_61 : decode cX4_become 61 = .ok (.getfield 15, 3) := by decide +kernel
theorem dX4_become_64 : decode cX4_become 64 = .ok (.iload_n 2, 1) := by decide +kernel
theorem dX4_become_65 : decode cX4_become 65 = .ok (.aload_n 1, 1) := by decide +kernel
theorem dX4_become_66 : decode cX4_become 66 = .ok (.getfield 15, 3) := by decide +kernel
theorem dX4_become_69 : decode cX4_become 69 = .ok (.iload_n 2, 1) := by decide +kernel
theorem dX4_become_70 : decode cX4_become 70 = .ok (.iaload, 1) := by decide +kernel
theorem dX4_become_71 : decode cX4_become 71 = .ok (.iastore, 1) := by decide +kernel
theorem dX4_become_72 : decode cX4_become 72 = .ok (.iinc 2 1, 3) := by decide +kernel
theorem dX4_become_75 : decode cX4_become 75 = .ok (.goto (-33), 3) := by decide +kernel
theorem dX4_become_78 : decode cX4_become 78 = .ok (.iconst 0, 1) := by decide +kernel
theorem dX4_become_79 : decode cX4_become 79 = .ok (.istore_n 2, 1) := by decide +kernel
theorem dX4_become_80 : decode cX4_become 80 = .ok (.iload_n 2, 1) := by decide +kernel
theorem dX4_become_81 : decode cX4_become 81 = .ok (.bipush 6, 2) := by decide +kernel
theorem dX4_become_83 : decode cX4_become 83 = .ok (.if_icmp .ge 45, 3) := by decide +kernel
theorem dX4_become_86 : decode cX4_become 86 = .ok (.aload_n 0, 1) := by decide +kernel
theorem dX4_become_87 : decode cX4_become 87 = .ok (.getfield 18, 3) := by decide +kernel
theorem dX4_become_90 : decode cX4_become 90 = .ok (.iload_n 2, 1) := by decide +kernel
theorem dX4_become_91 : decode cX4_become 91 = .ok (.aload_n 1, 1) := by decide +kernel
theorem dX4_become_92 : decode cX4_become 92 = .ok (.getfield 18, 3) := by decide +kernel
theorem dX4_become_95 : decode cX4_become 95 = .ok (.iload_n 2, 1) := by decide +kernel
theorem dX4_become_96 : decode cX4_become 96 = .ok (.iaload, 1) := by decide +kernel
theorem dX4_become_97 : decode cX4_become 97 = .ok (.iastore, 1) := by decide +kernel
theorem dX4_become_98 : decode cX4_become 98 = .ok (.aload_n 0, 1) := by decide +kernel
theorem dX4_become_99 : decode cX4_become 99 = .ok (.getfield 21, 3) := by decide +kernel
theorem dX4_become_102 : decode cX4_become 102 = .ok (.iload_n 2, 1) := by decide +kernel
theorem dX4_become_103 : decode cX4_become 103 = .ok (.aload_n 1, 1) := by decide +kernel
theorem dX4_become_104 : decode cX4_become 104 = .ok (.getfield 21, 3) := by decide +kernel
theorem dX4_become_107 : decode cX4_become 107 = .ok (.iload_n 2, 1) := by decide +kernel
theorem dX4_become_108 : decode cX4_become 108 = .ok (.iaload, 1) := by decide +kernel
theorem dX4_become_109 : decode cX4_become 109 = .ok (.iastore, 1) := by decide +kernel
theorem dX4_become_110 : decode cX4_become 110 = .ok (.aload_n 0, 1) := by decide +kernel
theorem dX4_become_111 : decode cX4_become 111 = .ok (.getfield 24, 3) := by decide +kernel
theorem dX4_become_114 : decode cX4_become 114 = .ok (.iload_n 2, 1) := by decide +kernel
theorem dX4_become_115 : decode cX4_become 115 = .ok (.aload_n 1, 1) := by decide +kernel
theorem dX4_become_116 : decode cX4_become 116 = .ok (.getfield 24, 3) := by decide +kernel
theorem dX4_become_119 : decode cX4_become 119 = .ok (.iload_n 2, 1) := by decide +kernel
theorem dX4_become_120 : decode cX4_become 120 = .ok (.iaload, 1) := by decide +kernel
theorem dX4_become_121 : decode cX4_become 121 = .ok (.iastore, 1) := by decide +kernel
theorem dX4_become_122 : decode cX4_become 122 = .ok (.iinc 2 1, 3) := by decide +kernel
theorem dX4_become_125 : decode cX4_become 125 = .ok (.goto (-45), 3) := by decide +kernel
theorem dX4_become_128 : decode cX4_become 128 = .ok (.return_, 1) := by decide +kernel
theorem dX4_readsAll_0 : decode cX4_readsAll 0 = .ok (.aload_n 0, 1) := by decide +kernel
theorem dX4_readsAll_1 : decode cX4_readsAll 1 = .ok (.aload_n 1, 1) := by decide +kernel
theorem dX4_readsAll_2 : decode cX4_readsAll 2 = .ok (.invokevirtual 43, 3) := by decide +kernel
theorem dX4_readsAll_5 : decode cX4_readsAll 5 = .ok (.ifCond .eq 30, 3) := by decide +kernel
theorem dX4_readsAll_8 : decode cX4_readsAll 8 = .ok (.aload_n 0, 1) := by decide +kernel
theorem dX4_readsAll_9 : decode cX4_readsAll 9 = .ok (.aload_n 1, 1) := by decide +kernel
theorem dX4_readsAll_10 : decode cX4_readsAll 10 = .ok (.invokevirtual 47, 3) := by decide +kernel
theorem dX4_readsAll_13 : decode cX4_readsAll 13 = .ok (.ifCond .eq 22, 3) := by decide +kernel
theorem dX4_readsAll_16 : decode cX4_readsAll 16 = .ok (.aload_n 0, 1) := by decide +kernel
theorem dX4_readsAll_17 : decode cX4_readsAll 17 = .ok (.aload_n 1, 1) := by decide +kernel
theorem dX4_readsAll_18 : decode cX4_readsAll 18 = .ok (.invokevirtual 50, 3) := by decide +kernel
theorem dX4_readsAll_21 : decode cX4_readsAll 21 = .ok (.ifCond .eq 14, 3) := by decide +kernel
theorem dX4_readsAll_24 : decode cX4_readsAll 24 = .ok (.aload_n 1, 1) := by decide +kernel
theorem dX4_readsAll_25 : decode cX4_readsAll 25 = .ok (.invokevirtual 53, 3) := by decide +kernel
theorem dX4_readsAll_28 : decode cX4_readsAll 28 = .ok (.ifCond .eq 7, 3) := by decide +kernel
theorem dX4_readsAll_31 : decode cX4_readsAll 31 = .ok (.iconst 1, 1) := by decide +kernel
theorem dX4_readsAll_32 : decode cX4_readsAll 32 = .ok (.goto 4, 3) := by decide +kernel
theorem dX4_readsAll_35 : decode cX4_readsAll 35 = .ok (.iconst 0, 1) := by decide +kernel
theorem dX4_readsAll_36 : decode cX4_readsAll 36 = .ok (.ireturn, 1) := by decide +kernel
theorem dX4_readsHead_0 : decode cX4_readsHead 0 = .ok (.aload_n 1, 1) := by decide +kernel
theorem dX4_readsHead_1 : decode cX4_readsHead 1 = .ok (.bipush 114, 2) := by decide +kernel
theorem dX4_readsHead_3 : decode cX4_readsHead 3 = .ok (.invokevirtual 59, 3) := by decide +kernel
theorem dX4_readsHead_6 : decode cX4_readsHead 6 = .ok (.ifCond .ne 5, 3) := by decide +kernel
theorem dX4_readsHead_9 : decode cX4_readsHead 9 = .ok (.iconst 0, 1) := by decide +kernel
theorem dX4_readsHead_10 : decode cX4_readsHead 10 = .ok (.ireturn, 1) := by decide +kernel
theorem dX4_readsHead_11 : decode cX4_readsHead 11 = .ok (.aload_n 0, 1) := by decide +kernel
theorem dX4_readsHead_12 : decode cX4_readsHead 12 = .ok (.aload_n 1, 1) := by decide +kernel
theorem dX4_readsHead_13 : decode cX4_readsHead 13 = .ok (.iconst 1, 1) := by decide +kernel
theorem dX4_readsHead_14 : decode cX4_readsHead 14 = .ok (.iconst 3, 1) := by decide +kernel
theorem dX4_readsHead_15 : decode cX4_readsHead 15 = .ok (.invokevirtual 63, 3) := by decide +kernel
theorem dX4_readsHead_18 : decode cX4_readsHead 18 = .ok (.putfield 27, 3) := by decide +kernel
theorem dX4_readsHead_21 : decode cX4_readsHead 21 = .ok (.aload_n 0, 1) := by decide +kernel
theorem dX4_readsHead_22 : decode cX4_readsHead 22 = .ok (.getfield 27, 3) := by decide +kernel
theorem dX4_readsHead_25 : decode cX4_readsHead 25 = .ok (.bipush (-9), 2) := by decide +kernel
theorem dX4_readsHead_27 : decode cX4_readsHead 27 = .ok (.if_icmp .ne 5, 3) := by decide +kernel
theorem dX4_readsHead_30 : decode cX4_readsHead 30 = .ok (.iconst 0, 1) := by decide +kernel
theorem dX4_readsHead_31 : decode cX4_readsHead 31 = .ok (.ireturn, 1) := by decide +kernel
theorem dX4_readsHead_32 : decode cX4_readsHead 32 = .ok (.aload_n 0, 1) := by decide +kernel
theorem dX4_readsHead_33 : decode cX4_readsHead 33 = .ok (.aload_n 1, 1) := by decide +kernel
theorem dX4_readsHead_34 : decode cX4_readsHead 34 = .ok (.iconst 0, 1) := by decide +kernel
theorem dX4_readsHead_35 : decode cX4_readsHead 35 = .ok (.bipush 9, 2) := by decide +kernel
theorem dX4_readsHead_37 : decode cX4_readsHead 37 = .ok (.invokevirtual 63, 3) := by decide +kernel
theorem dX4_readsHead_40 : decode cX4_readsHead 40 = .ok (.putfield 31, 3) := by decide +kernel
theorem dX4_readsHead_43 : decode cX4_readsHead 43 = .ok (.aload_n 0, 1) := by decide +kernel
theorem dX4_readsHead_44 : decode cX4_readsHead 44 = .ok (.getfield 31, 3) := by decide +kernel
theorem dX4_readsHead_47 : decode cX4_readsHead 47 = .ok (.bipush (-9), 2) := by decide +kernel
theorem dX4_readsHead_49 : decode cX4_readsHead 49 = .ok (.if_icmp .ne 5, 3) := by decide +kernel
theorem dX4_readsHead_52 : decode cX4_readsHead 52 = .ok (.iconst 0, 1) := by decide +kernel
theorem dX4_readsHead_53 : decode cX4_readsHead 53 = .ok (.ireturn, 1) := by decide +kernel
theorem dX4_readsHead_54 : decode cX4_readsHead 54 = .ok (.aload_n 0, 1) := by decide +kernel
theorem dX4_readsHead_55 : decode cX4_readsHead 55 = .ok (.aload_n 1, 1) := by decide +kernel
theorem dX4_readsHead_56 : decode cX4_readsHead 56 = .ok (.iconst 0, 1) := by decide +kernel
theorem dX4_readsHead_57 : decode cX4_readsHead 57 = .ok (.bipush 9, 2) := by decide +kernel
theorem dX4_readsHead_59 : decode cX4_readsHead 59 = .ok (.invokevirtual 63, 3) := by decide +kernel
theorem dX4_readsHead_62 : decode cX4_readsHead 62 = .ok (.putfield 34, 3) := by decide +kernel
theorem dX4_readsHead_65 : decode cX4_readsHead 65 = .ok (.aload_n 0, 1) := by decide +kernel
theorem dX4_readsHead_66 : decode cX4_readsHead 66 = .ok (.getfield 34, 3) := by decide +kernel
theorem dX4_readsHead_69 : decode cX4_readsHead 69 = .ok (.bipush (-9), 2) := by decide +kernel
theorem dX4_readsHead_71 : decode cX4_readsHead 71 = .ok (.if_icmp .eq 7, 3) := by decide +kernel
theorem dX4_readsHead_74 : decode cX4_readsHead 74 = .ok (.iconst 1, 1) := by decide +kernel
theorem dX4_readsHead_75 : decode cX4_readsHead 75 = .ok (.goto 4, 3) := by decide +kernel
theorem dX4_readsHead_78 : decode cX4_readsHead 78 = .ok (.iconst 0, 1) := by decide +kernel
theorem dX4_readsHead_79 : decode cX4_readsHead 79 = .ok (.ireturn, 1) := by decide +kernel
theorem dX4_readsPools_0 : decode cX4_readsPools 0 = .ok (.aload_n 0, 1) := by decide +kernel
theorem dX4_readsPools_1 : decode cX4_readsPools 1 = .ok (.iconst 0, 1) := by decide +kernel
theorem dX4_readsPools_2 : decode cX4_readsPools 2 = .ok (.putfield 37, 3) := by decide +kernel
theorem dX4_readsPools_5 : decode cX4_readsPools 5 = .ok (.aload_n 0, 1) := by decide +kernel
theorem dX4_readsPools_6 : decode cX4_readsPools 6 = .ok (.getfield 37, 3) := by decide +kernel
theorem dX4_readsPools_9 : decode cX4_readsPools 9 = .ok (.bipush 6, 2) := by decide +kernel
theorem dX4_readsPools_11 : decode cX4_readsPools 11 = .ok (.if_icmp .ge 35, 3) := by decide +kernel
theorem dX4_readsPools_14 : decode cX4_readsPools 14 = .ok (.aload_n 1, 1) := by decide +kernel
theorem dX4_readsPools_15 : decode cX4_readsPools 15 = .ok (.bipush 44, 2) := by decide +kernel
theorem dX4_readsPools_17 : decode cX4_readsPools 17 = .ok (.invokevirtual 59, 3) := by decide +kernel
theorem dX4_readsPools_20 : decode cX4_readsPools 20 = .ok (.ifCond .eq 26, 3) := by decide +kernel
theorem dX4_readsPools_23 : decode cX4_readsPools 23 = .ok (.aload_n 0, 1) := by decide +kernel
theorem dX4_readsPools_24 : decode cX4_readsPools 24 = .ok (.aload_n 1, 1) := by decide +kernel
theorem dX4_readsPools_25 : decode cX4_readsPools 25 = .ok (.invokevirtual 67, 3) := by decide +kernel
theorem dX4_readsPools_28 : decode cX4_readsPools 28 = .ok (.ifCond .ne 5, 3) := by decide +kernel
theorem dX4_readsPools_31 : decode cX4_readsPools 31 = .ok (.iconst 0, 1) := by decide +kernel
theorem dX4_readsPools_32 : decode cX4_readsPools 32 = .ok (.ireturn, 1) := by decide +kernel
theorem dX4_readsPools_33 : decode cX4_readsPools 33 = .ok (.aload_n 0, 1) := by decide +kernel
theorem dX4_readsPools_34 : decode cX4_readsPools 34 = .ok (.dup, 1) := by decide +kernel
theorem dX4_readsPools_35 : decode cX4_readsPools 35 = .ok (.getfield 37, 3) := by decide +kernel
theorem dX4_readsPools_38 : decode cX4_readsPools 38 = .ok (.iconst 1, 1) := by decide +kernel
theorem dX4_readsPools_39 : decode cX4_readsPools 39 = .ok (.iadd, 1) := by decide +kernel
theorem dX4_readsPools_40 : decode cX4_readsPools 40 = .ok (.putfield 37, 3) := by decide +kernel
theorem dX4_readsPools_43 : decode cX4_readsPools 43 = .ok (.goto (-38), 3) := by decide +kernel
theorem dX4_readsPools_46 : decode cX4_readsPools 46 = .ok (.aload_n 0, 1) := by decide +kernel
theorem dX4_readsPools_47 : decode cX4_readsPools 47 = .ok (.getfield 37, 3) := by decide +kernel
theorem dX4_readsPools_50 : decode cX4_readsPools 50 = .ok (.iconst 2, 1) := by decide +kernel
theorem dX4_readsPools_51 : decode cX4_readsPools 51 = .ok (.if_icmp .lt 7, 3) := by decide +kernel
theorem dX4_readsPools_54 : decode cX4_readsPools 54 = .ok (.iconst 1, 1) := by decide +kernel
theorem dX4_readsPools_55 : decode cX4_readsPools 55 = .ok (.goto 4, 3) := by decide +kernel
theorem dX4_readsPools_58 : decode cX4_readsPools 58 = .ok (.iconst 0, 1) := by decide +kernel
theorem dX4_readsPools_59 : decode cX4_readsPools 59 = .ok (.ireturn, 1) := by decide +kernel
theorem dX4_readsPool_0 : decode cX4_readsPool 0 = .ok (.aload_n 0, 1) := by decide +kernel
theorem dX4_readsPool_1 : decode cX4_readsPool 1 = .ok (.getfield 9, 3) := by decide +kernel
theorem dX4_readsPool_4 : decode cX4_readsPool 4 = .ok (.aload_n 0, 1) := by decide +kernel
theorem dX4_readsPool_5 : decode cX4_readsPool 5 = .ok (.getfield 37, 3) := by decide +kernel
theorem dX4_readsPool_8 : decode cX4_readsPool 8 = .ok (.aload_n 1, 1) := by decide +kernel
theorem dX4_readsPool_9 : decode cX4_readsPool 9 = .ok (.iconst 1, 1) := by decide +kernel
theorem dX4_readsPool_10 : decode cX4_readsPool 10 = .ok (.bipush 9, 2) := by decide +kernel
theorem dX4_readsPool_12 : decode cX4_readsPool 12 = .ok (.invokevirtual 63, 3) := by decide +kernel
theorem dX4_readsPool_15 : decode cX4_readsPool 15 = .ok (.iastore, 1) := by decide +kernel
theorem dX4_readsPool_16 : decode cX4_readsPool 16 = .ok (.aload_n 0, 1) := by decide +kernel
theorem dX4_readsPool_17 : decode cX4_readsPool 17 = .ok (.getfield 9, 3) := by decide +kernel
theorem dX4_readsPool_20 : decode cX4_readsPool 20 = .ok (.aload_n 0, 1) := by decide +kernel
theorem dX4_readsPool_21 : decode cX4_readsPool 21 = .ok (.getfield 37, 3) := by decide +kernel
theorem dX4_readsPool_24 : decode cX4_readsPool 24 = .ok (.iaload, 1) := by decide +kernel
theorem dX4_readsPool_25 : decode cX4_readsPool 25 = .ok (.bipush (-9), 2) := by decide +kernel
theorem dX4_readsPool_27 : decode cX4_readsPool 27 = .ok (.if_icmp .ne 5, 3) := by decide +kernel
theorem dX4_readsPool_30 : decode cX4_readsPool 30 = .ok (.iconst 0, 1) := by decide +kernel
theorem dX4_readsPool_31 : decode cX4_readsPool 31 = .ok (.ireturn, 1) := by decide +kernel
theorem dX4_readsPool_32 : decode cX4_readsPool 32 = .ok (.aload_n 0, 1) := by decide +kernel
theorem dX4_readsPool_33 : decode cX4_readsPool 33 = .ok (.getfield 15, 3) := by decide +kernel
theorem dX4_readsPool_36 : decode cX4_readsPool 36 = .ok (.aload_n 0, 1) := by decide +kernel
theorem dX4_readsPool_37 : decode cX4_readsPool 37 = .ok (.getfield 37, 3) := by decide +kernel
theorem dX4_readsPool_40 : decode cX4_readsPool 40 = .ok (.aload_n 1, 1) := by decide +kernel
theorem dX4_readsPool_41 : decode cX4_readsPool 41 = .ok (.iconst 1, 1) := by decide +kernel
theorem dX4_readsPool_42 : decode cX4_readsPool 42 = .ok (.bipush 9, 2) := by decide +kernel
theorem dX4_readsPool_44 : decode cX4_readsPool 44 = .ok (.invokevirtual 63, 3) := by decide +kernel
theorem dX4_readsPool_47 : decode cX4_readsPool 47 = .ok (.iastore, 1) := by decide +kernel
theorem dX4_readsPool_48 : decode cX4_readsPool 48 = .ok (.aload_n 0, 1) := by decide +kernel
theorem dX4_readsPool_49 : decode cX4_readsPool 49 = .ok (.getfield 15, 3) := by decide +kernel
theorem dX4_readsPool_52 : decode cX4_readsPool 52 = .ok (.aload_n 0, 1) := by decide +kernel
theorem dX4_readsPool_53 : decode cX4_readsPool 53 = .ok (.getfield 37, 3) := by decide +kernel
theorem dX4_readsPool_56 : decode cX4_readsPool 56 = .ok (.iaload, 1) := by decide +kernel
theorem dX4_readsPool_57 : decode cX4_readsPool 57 = .ok (.bipush (-9), 2) := by decide +kernel
theorem dX4_readsPool_59 : decode cX4_readsPool 59 = .ok (.if_icmp .eq 7, 3) := by decide +kernel
theorem dX4_readsPool_62 : decode cX4_readsPool 62 = .ok (.iconst 1, 1) := by decide +kernel
theorem dX4_readsPool_63 : decode cX4_readsPool 63 = .ok (.goto 4, 3) := by decide +kernel
theorem dX4_readsPool_66 : decode cX4_readsPool 66 = .ok (.iconst 0, 1) := by decide +kernel
theorem dX4_readsPool_67 : decode cX4_readsPool 67 = .ok (.ireturn, 1) := by decide +kernel
theorem dX4_readsMembers_0 : decode cX4_readsMembers 0 = .ok (.aload_n 0, 1) := by decide +kernel
theorem dX4_readsMembers_1 : decode cX4_readsMembers 1 = .ok (.iconst 0, 1) := by decide +kernel
theorem dX4_readsMembers_2 : decode cX4_readsMembers 2 = .ok (.putfield 40, 3) := by decide +kernel
theorem dX4_readsMembers_5 : decode cX4_readsMembers 5 = .ok (.aload_n 0, 1) := by decide +kernel
theorem dX4_readsMembers_6 : decode cX4_readsMembers 6 = .ok (.getfield 40, 3) := by decide +kernel
theorem dX4_readsMembers_9 : decode cX4_readsMembers 9 = .ok (.bipush 6, 2) := by decide +kernel
theorem dX4_readsMembers_11 : decode cX4_readsMembers 11 = .ok (.if_icmp .ge 35, 3) := by decide +kernel
theorem dX4_readsMembers_14 : decode cX4_readsMembers 14 = .ok (.aload_n 1, 1) := by decide +kernel
theorem dX4_readsMembers_15 : decode cX4_readsMembers 15 = .ok (.bipush 59, 2) := by decide +kernel
theorem dX4_readsMembers_17 : decode cX4_readsMembers 17 = .ok (.invokevirtual 59, 3) := by decide +kernel
theorem dX4_readsMembers_20 : decode cX4_readsMembers 20 = .ok (.ifCond .eq 26, 3) := by decide +kernel
theorem dX4_readsMembers_23 : decode cX4_readsMembers 23 = .ok (.aload_n 0, 1) := by decide +kernel
theorem dX4_readsMembers_24 : decode cX4_readsMembers 24 = .ok (.aload_n 1, 1) := by decide +kernel
theorem dX4_readsMembers_25 : decode cX4_readsMembers 25 = .ok (.invokevirtual 70, 3) := by decide +kernel
theorem dX4_readsMembers_28 : decode cX4_readsMembers 28 = .ok (.ifCond .ne 5, 3) := by decide +kernel
theorem dX4_readsMembers_31 : decode cX4_readsMembers 31 = .ok (.iconst 0, 1) := by decide +kernel
theorem dX4_readsMembers_32 : decode cX4_readsMembers 32 = .ok (.ireturn, 1) := by decide +kernel
theorem dX4_readsMembers_33 : decode cX4_readsMembers 33 = .ok (.aload_n 0, 1) := by decide +kernel
theorem dX4_readsMembers_34 : decode cX4_readsMembers 34 = .ok (.dup, 1) := by decide +kernel
theorem dX4_readsMembers_35 : decode cX4_readsMembers 35 = .ok (.getfield 40, 3) := by decide +kernel
theorem dX4_readsMembers_38 : decode cX4_readsMembers 38 = .ok (.iconst 1, 1) := by decide +kernel
theorem dX4_readsMembers_39 : decode cX4_readsMembers 39 = .ok (.iadd, 1) := by decide +kernel
theorem dX4_readsMembers_40 : decode cX4_readsMembers 40 = .ok (.putfield 40, 3) := by decide +kernel
theorem dX4_readsMembers_43 : decode cX4_readsMembers 43 = .ok (.goto (-38), 3) := by decide +kernel
theorem dX4_readsMembers_46 : decode cX4_readsMembers 46 = .ok (.aload_n 0, 1) := by decide +kernel
theorem dX4_readsMembers_47 : decode cX4_readsMembers 47 = .ok (.getfield 40, 3) := by decide +kernel
theorem dX4_readsMembers_50 : decode cX4_readsMembers 50 = .ok (.ifCond .le 7, 3) := by decide +kernel
theorem dX4_readsMembers_53 : decode cX4_readsMembers 53 = .ok (.iconst 1, 1) := by decide +kernel
theorem dX4_readsMembers_54 : decode cX4_readsMembers 54 = .ok (.goto 4, 3) := by decide +kernel
theorem dX4_readsMembers_57 : decode cX4_readsMembers 57 = .ok (.iconst 0, 1) := by decide +kernel
theorem dX4_readsMembers_58 : decode cX4_readsMembers 58 = .ok (.ireturn, 1) := by decide +kernel
theorem dX4_readsMember_0 : decode cX4_readsMember 0 = .ok (.aload_n 0, 1) := by decide +kernel
theorem dX4_readsMember_1 : decode cX4_readsMember 1 = .ok (.getfield 18, 3) := by decide +kernel
theorem dX4_readsMember_4 : decode cX4_readsMember 4 = .ok (.aload_n 0, 1) := by decide +kernel
theorem dX4_readsMember_5 : decode cX4_readsMember 5 = .ok (.getfield 40, 3) := by decide +kernel
theorem dX4_readsMember_8 : decode cX4_readsMember 8 = .ok (.aload_n 1, 1) := by decide +kernel
theorem dX4_readsMember_9 : decode cX4_readsMember 9 = .ok (.invokevirtual 73, 3) := by decide +kernel
theorem dX4_readsMember_12 : decode cX4_readsMember 12 = .ok (.iastore, 1) := by decide +kernel
theorem dX4_readsMember_13 : decode cX4_readsMember 13 = .ok (.aload_n 0, 1) := by decide +kernel
theorem dX4_readsMember_14 : decode cX4_readsMember 14 = .ok (.getfield 18, 3) := by decide +kernel
theorem dX4_readsMember_17 : decode cX4_readsMember 17 = .ok (.aload_n 0, 1) := by decide +kernel
theorem dX4_readsMember_18 : decode cX4_readsMember 18 = .ok (.getfield 40, 3) := by decide +kernel
theorem dX4_readsMember_21 : decode cX4_readsMember 21 = .ok (.iaload, 1) := by decide +kernel
theorem dX4_readsMember_22 : decode cX4_readsMember 22 = .ok (.bipush (-9), 2) := by decide +kernel
theorem dX4_readsMember_24 : decode cX4_readsMember 24 = .ok (.if_icmp .ne 5, 3) := by decide +kernel
theorem dX4_readsMember_27 : decode cX4_readsMember 27 = .ok (.iconst 0, 1) := by decide +kernel
theorem dX4_readsMember_28 : decode cX4_readsMember 28 = .ok (.ireturn, 1) := by decide +kernel
theorem dX4_readsMember_29 : decode cX4_readsMember 29 = .ok (.aload_n 0, 1) := by decide +kernel
theorem dX4_readsMember_30 : decode cX4_readsMember 30 = .ok (.getfield 21, 3) := by decide +kernel
theorem dX4_readsMember_33 : decode cX4_readsMember 33 = .ok (.aload_n 0, 1) := by decide +kernel
theorem dX4_readsMember_34 : decode cX4_readsMember 34 = .ok (.getfield 40, 3) := by decide +kernel
theorem dX4_readsMember_37 : decode cX4_readsMember 37 = .ok (.aload_n 1, 1) := by decide +kernel
theorem dX4_readsMember_38 : decode cX4_readsMember 38 = .ok (.iconst 0, 1) := by decide +kernel
theorem dX4_readsMember_39 : decode cX4_readsMember 39 = .ok (.aload_n 0, 1) := by decide +kernel
theorem dX4_readsMember_40 : decode cX4_readsMember 40 = .ok (.getfield 37, 3) := by decide +kernel
theorem dX4_readsMember_43 : decode cX4_readsMember 43 = .ok (.iconst 1, 1) := by decide +kernel
theorem dX4_readsMember_44 : decode cX4_readsMember 44 = .ok (.isub, 1) := by decide +kernel
theorem dX4_readsMember_45 : decode cX4_readsMember 45 = .ok (.invokevirtual 63, 3) := by decide +kernel
theorem dX4_readsMember_48 : decode cX4_readsMember 48 = .ok (.iastore, 1) := by decide +kernel
theorem dX4_readsMember_49 : decode cX4_readsMember 49 = .ok (.aload_n 0, 1) := by decide +kernel
theorem dX4_readsMember_50 : decode cX4_readsMember 50 = .ok (.getfield 21, 3) := by decide +kernel
theorem dX4_readsMember_53 : decode cX4_readsMember 53 = .ok (.aload_n 0, 1) := by decide +kernel
theorem dX4_readsMember_54 : decode cX4_readsMember 54 = .ok (.getfield 40, 3) := by decide +kernel
theorem dX4_readsMember_57 : decode cX4_readsMember 57 = .ok (.iaload, 1) := by decide +kernel
theorem dX4_readsMember_58 : decode cX4_readsMember 58 = .ok (.bipush (-9), 2) := by decide +kernel
theorem dX4_readsMember_60 : decode cX4_readsMember 60 = .ok (.if_icmp .ne 5, 3) := by decide +kernel
theorem dX4_readsMember_63 : decode cX4_readsMember 63 = .ok (.iconst 0, 1) := by decide +kernel
theorem dX4_readsMember_64 : decode cX4_readsMember 64 = .ok (.ireturn, 1) := by decide +kernel
theorem dX4_readsMember_65 : decode cX4_readsMember 65 = .ok (.aload_n 0, 1) := by decide +kernel
theorem dX4_readsMember_66 : decode cX4_readsMember 66 = .ok (.getfield 24, 3) := by decide +kernel
theorem dX4_readsMember_69 : decode cX4_readsMember 69 = .ok (.aload_n 0, 1) := by decide +kernel
theorem dX4_readsMember_70 : decode cX4_readsMember 70 = .ok (.getfield 40, 3) := by decide +kernel
theorem dX4_readsMember_73 : decode cX4_readsMember 73 = .ok (.aload_n 1, 1) := by decide +kernel
theorem dX4_readsMember_74 : decode cX4_readsMember 74 = .ok (.iconst 0, 1) := by decide +kernel
theorem dX4_readsMember_75 : decode cX4_readsMember 75 = .ok (.bipush 9, 2) := by decide +kernel
theorem dX4_readsMember_77 : decode cX4_readsMember 77 = .ok (.invokevirtual 63, 3) := by decide +kernel
theorem dX4_readsMember_80 : decode cX4_readsMember 80 = .ok (.iastore, 1) := by decide +kernel
theorem dX4_readsMember_81 : decode cX4_readsMember 81 = .ok (.aload_n 0, 1) := by decide +kernel
theorem dX4_readsMember_82 : decode cX4_readsMember 82 = .ok (.getfield 24, 3) := by decide +kernel
theorem dX4_readsMember_85 : decode cX4_readsMember 85 = .ok (.aload_n 0, 1) := by decide +kernel
theorem dX4_readsMember_86 : decode cX4_readsMember 86 = .ok (.getfield 40, 3) := by decide +kernel
theorem dX4_readsMember_89 : decode cX4_readsMember 89 = .ok (.iaload, 1) := by decide +kernel
theorem dX4_readsMember_90 : decode cX4_readsMember 90 = .ok (.bipush (-9), 2) := by decide +kernel
theorem dX4_readsMember_92 : decode cX4_readsMember 92 = .ok (.if_icmp .eq 7, 3) := by decide +kernel
theorem dX4_readsMember_95 : decode cX4_readsMember 95 = .ok (.iconst 1, 1) := by decide +kernel
theorem dX4_readsMember_96 : decode cX4_readsMember 96 = .ok (.goto 4, 3) := by decide +kernel
theorem dX4_readsMember_99 : decode cX4_readsMember 99 = .ok (.iconst 0, 1) := by decide +kernel
theorem dX4_readsMember_100 : decode cX4_readsMember 100 = .ok (.ireturn, 1) := by decide +kernel
theorem dX4_sittersOf_0 : decode cX4_sittersOf 0 = .ok (.iconst 0, 1) := by decide +kernel
theorem dX4_sittersOf_1 : decode cX4_sittersOf 1 = .ok (.istore_n 2, 1) := by decide +kernel
theorem dX4_sittersOf_2 : decode cX4_sittersOf 2 = .ok (.iconst 0, 1) := by decide +kernel
theorem dX4_sittersOf_3 : decode cX4_sittersOf 3 = .ok (.istore_n 3, 1) := by decide +kernel
theorem dX4_sittersOf_4 : decode cX4_sittersOf 4 = .ok (.iload_n 3, 1) := by decide +kernel
theorem dX4_sittersOf_5 : decode cX4_sittersOf 5 = .ok (.aload_n 0, 1) := by decide +kernel
theorem dX4_sittersOf_6 : decode cX4_sittersOf 6 = .ok (.getfield 40, 3) := by decide +kernel
theorem dX4_sittersOf_9 : decode cX4_sittersOf 9 = .ok (.if_icmp .ge 25, 3) := by decide +kernel
theorem dX4_sittersOf_12 : decode cX4_sittersOf 12 = .ok (.aload_n 0, 1) := by decide +kernel
theorem dX4_sittersOf_13 : decode cX4_sittersOf 13 = .ok (.getfield 21, 3) := by decide +kernel
theorem dX4_sittersOf_16 : decode cX4_sittersOf 16 = .ok (.iload_n 3, 1) := by decide +kernel
theorem dX4_sittersOf_17 : decode cX4_sittersOf 17 = .ok (.iaload, 1) := by decide +kernel
theorem dX4_sittersOf_18 : decode cX4_sittersOf 18 = .ok (.iload_n 1, 1) := by decide +kernel
theorem dX4_sittersOf_19 : decode cX4_sittersOf 19 = .ok (.if_icmp .ne 9, 3) := by decide +kernel
theorem dX4_sittersOf_22 : decode cX4_sittersOf 22 = .ok (.iload_n 2, 1) := by decide +kernel
theorem dX4_sittersOf_23 : decode cX4_sittersOf 23 = .ok (.iconst 1, 1) := by decide +kernel
theorem dX4_sittersOf_24 : decode cX4_sittersOf 24 = .ok (.iload_n 3, 1) := by decide +kernel
theorem dX4_sittersOf_25 : decode cX4_sittersOf 25 = .ok (.ishl, 1) := by decide +kernel
theorem dX4_sittersOf_26 : decode cX4_sittersOf 26 = .ok (.ior, 1) := by decide +kernel
theorem dX4_sittersOf_27 : decode cX4_sittersOf 27 = .ok (.istore_n 2, 1) := by decide +kernel
theorem dX4_sittersOf_28 : decode cX4_sittersOf 28 = .ok (.iinc 3 1, 3) := by decide +kernel
theorem dX4_sittersOf_31 : decode cX4_sittersOf 31 = .ok (.goto (-27), 3) := by decide +kernel
theorem dX4_sittersOf_34 : decode cX4_sittersOf 34 = .ok (.iload_n 2, 1) := by decide +kernel
theorem dX4_sittersOf_35 : decode cX4_sittersOf 35 = .ok (.ireturn, 1) := by decide +kernel
theorem dX4_sittersIn_0 : decode cX4_sittersIn 0 = .ok (.aload_n 0, 1) := by decide +kernel
theorem dX4_sittersIn_1 : decode cX4_sittersIn 1 = .ok (.iload_n 1, 1) := by decide +kernel
theorem dX4_sittersIn_2 : decode cX4_sittersIn 2 = .ok (.invokevirtual 77, 3) := by decide +kernel
theorem dX4_sittersIn_5 : decode cX4_sittersIn 5 = .ok (.invokestatic 81, 3) := by decide +kernel
theorem dX4_sittersIn_8 : decode cX4_sittersIn 8 = .ok (.ireturn, 1) := by decide +kernel
theorem dX4_spanOf_0 : decode cX4_spanOf 0 = .ok (.aload_n 0, 1) := by decide +kernel
theorem dX4_spanOf_1 : decode cX4_spanOf 1 = .ok (.getfield 15, 3) := by decide +kernel
theorem dX4_spanOf_4 : decode cX4_spanOf 4 = .ok (.iload_n 1, 1) := by decide +kernel
theorem dX4_spanOf_5 : decode cX4_spanOf 5 = .ok (.iaload, 1) := by decide +kernel
theorem dX4_spanOf_6 : decode cX4_spanOf 6 = .ok (.bipush 6, 2) := by decide +kernel
theorem dX4_spanOf_8 : decode cX4_spanOf 8 = .ok (.imul, 1) := by decide +kernel
theorem dX4_spanOf_9 : decode cX4_spanOf 9 = .ok (.aload_n 0, 1) := by decide +kernel
theorem dX4_spanOf_10 : decode cX4_spanOf 10 = .ok (.iload_n 1, 1) := by decide +kernel
theorem dX4_spanOf_11 : decode cX4_spanOf 11 = .ok (.invokevirtual 86, 3) := by decide +kernel
theorem dX4_spanOf_14 : decode cX4_spanOf 14 = .ok (.iconst 1, 1) := by decide +kernel
theorem dX4_spanOf_15 : decode cX4_spanOf 15 = .ok (.iadd, 1) := by decide +kernel
theorem dX4_spanOf_16 : decode cX4_spanOf 16 = .ok (.idiv, 1) := by decide +kernel
theorem dX4_spanOf_17 : decode cX4_spanOf 17 = .ok (.ireturn, 1) := by decide +kernel
theorem dX4_poolsSatIn_0 : decode cX4_poolsSatIn 0 = .ok (.iconst 0, 1) := by decide +kernel
theorem dX4_poolsSatIn_1 : decode cX4_poolsSatIn 1 = .ok (.istore_n 1, 1) := by decide +kernel
theorem dX4_poolsSatIn_2 : decode cX4_poolsSatIn 2 = .ok (.iconst 0, 1) := by decide +kernel
theorem dX4_poolsSatIn_3 : decode cX4_poolsSatIn 3 = .ok (.istore_n 2, 1) := by decide +kernel
theorem dX4_poolsSatIn_4 : decode cX4_poolsSatIn 4 = .ok (.iload_n 2, 1) := by decide +kernel
theorem dX4_poolsSatIn_5 : decode cX4_poolsSatIn 5 = .ok (.aload_n 0, 1) := by decide +kernel
theorem dX4_poolsSatIn_6 : decode cX4_poolsSatIn 6 = .ok (.getfield 37, 3) := by decide +kernel
theorem dX4_poolsSatIn_9 : decode cX4_poolsSatIn 9 = .ok (.if_icmp .ge 28, 3) := by decide +kernel
theorem dX4_poolsSatIn_12 : decode cX4_poolsSatIn 12 = .ok (.iload_n 1, 1) := by decide +kernel
theorem dX4_poolsSatIn_13 : decode cX4_poolsSatIn 13 = .ok (.aload_n 0, 1) := by decide +kernel
theorem dX4_poolsSatIn_14 : decode cX4_poolsSatIn 14 = .ok (.iload_n 2, 1) := by decide +kernel
theorem dX4_poolsSatIn_15 : decode cX4_poolsSatIn 15 = .ok (.invokevirtual 77, 3) := by decide +kernel
theorem dX4_poolsSatIn_18 : decode cX4_poolsSatIn 18 = .ok (.ifCond .eq 7, 3) := by decide +kernel
theorem dX4_poolsSatIn_21 : decode cX4_poolsSatIn 21 = .ok (.iconst 1, 1) := by decide +kernel
theorem dX4_poolsSatIn_22 : decode cX4_poolsSatIn 22 = .ok (.goto 4, 3) := by decide +kernel
theorem dX4_poolsSatIn_25 : decode cX4_poolsSatIn 25 = .ok (.iconst 0, 1) := by decide +kernel
theorem dX4_poolsSatIn_26 : decode cX4_poolsSatIn 26 = .ok (.invokestatic 89, 3) := by decide +kernel
theorem dX4_poolsSatIn_29 : decode cX4_poolsSatIn 29 = .ok (.iadd, 1) := by decide +kernel
theorem dX4_poolsSatIn_30 : decode cX4_poolsSatIn 30 = .ok (.istore_n 1, 1) := by decide +kernel
theorem dX4_poolsSatIn_31 : decode cX4_poolsSatIn 31 = .ok (.iinc 2 1, 3) := by decide +kernel
theorem dX4_poolsSatIn_34 : decode cX4_poolsSatIn 34 = .ok (.goto (-30), 3) := by decide +kernel
theorem dX4_poolsSatIn_37 : decode cX4_poolsSatIn 37 = .ok (.iload_n 1, 1) := by decide +kernel
theorem dX4_poolsSatIn_38 : decode cX4_poolsSatIn 38 = .ok (.ireturn, 1) := by decide +kernel
theorem dX4_fullestPool_0 : decode cX4_fullestPool 0 = .ok (.iconst 0, 1) := by decide +kernel
theorem dX4_fullestPool_1 : decode cX4_fullestPool 1 = .ok (.istore_n 1, 1) := by decide +kernel
theorem dX4_fullestPool_2 : decode cX4_fullestPool 2 = .ok (.iconst 1, 1) := by decide +kernel
theorem dX4_fullestPool_3 : decode cX4_fullestPool 3 = .ok (.istore_n 2, 1) := by decide +kernel
theorem dX4_fullestPool_4 : decode cX4_fullestPool 4 = .ok (.iload_n 2, 1) := by decide +kernel
theorem dX4_fullestPool_5 : decode cX4_fullestPool 5 = .ok (.aload_n 0, 1) := by decide +kernel
theorem dX4_fullestPool_6 : decode cX4_fullestPool 6 = .ok (.getfield 37, 3) := by decide +kernel
theorem dX4_fullestPool_9 : decode cX4_fullestPool 9 = .ok (.if_icmp .ge 24, 3) := by decide +kernel
theorem dX4_fullestPool_12 : decode cX4_fullestPool 12 = .ok (.aload_n 0, 1) := by decide +kernel
theorem dX4_fullestPool_13 : decode cX4_fullestPool 13 = .ok (.iload_n 2, 1) := by decide +kernel
theorem dX4_fullestPool_14 : decode cX4_fullestPool 14 = .ok (.invokevirtual 86, 3) := by decide +kernel
theorem dX4_fullestPool_17 : decode cX4_fullestPool 17 = .ok (.aload_n 0, 1) := by decide +kernel
theorem dX4_fullestPool_18 : decode cX4_fullestPool 18 = .ok (.iload_n 1, 1) := by decide +kernel
theorem dX4_fullestPool_19 : decode cX4_fullestPool 19 = .ok (.invokevirtual 86, 3) := by decide +kernel
theorem dX4_fullestPool_22 : decode cX4_fullestPool 22 = .ok (.if_icmp .le 5, 3) := by decide +kernel
theorem dX4_fullestPool_25 : decode cX4_fullestPool 25 = .ok (.iload_n 2, 1) := by decide +kernel
theorem dX4_fullestPool_26 : decode cX4_fullestPool 26 = .ok (.istore_n 1, 1) := by decide +kernel
theorem dX4_fullestPool_27 : decode cX4_fullestPool 27 = .ok (.iinc 2 1, 3) := by decide +kernel
theorem dX4_fullestPool_30 : decode cX4_fullestPool 30 = .ok (.goto (-26), 3) := by decide +kernel
theorem dX4_fullestPool_33 : decode cX4_fullestPool 33 = .ok (.iload_n 1, 1) := by decide +kernel
theorem dX4_fullestPool_34 : decode cX4_fullestPool 34 = .ok (.ireturn, 1) := by decide +kernel
theorem dX4_stepsOf_0 : decode cX4_stepsOf 0 = .ok (.iload_n 1, 1) := by decide +kernel
theorem dX4_stepsOf_1 : decode cX4_stepsOf 1 = .ok (.lookupswitch 39 #[(0, 27), (1, 32)], 27) := by decide +kernel
theorem dX4_stepsOf_28 : decode cX4_stepsOf 28 = .ok (.aload_n 0, 1) := by decide +kernel
theorem dX4_stepsOf_29 : decode cX4_stepsOf 29 = .ok (.getfield 27, 3) := by decide +kernel
theorem dX4_stepsOf_32 : decode cX4_stepsOf 32 = .ok (.ireturn, 1) := by decide +kernel
theorem dX4_stepsOf_33 : decode cX4_stepsOf 33 = .ok (.aload_n 0, 1) := by decide +kernel
theorem dX4_stepsOf_34 : decode cX4_stepsOf 34 = .ok (.getfield 27, 3) := by decide +kernel
theorem dX4_stepsOf_37 : decode cX4_stepsOf 37 = .ok (.iconst 1, 1) := by decide +kernel
theorem dX4_stepsOf_38 : decode cX4_stepsOf 38 = .ok (.isub, 1) := by decide +kernel
theorem dX4_stepsOf_39 : decode cX4_stepsOf 39 = .ok (.ireturn, 1) := by decide +kernel
theorem dX4_stepsOf_40 : decode cX4_stepsOf 40 = .ok (.aload_n 0, 1) := by decide +kernel
theorem dX4_stepsOf_41 : decode cX4_stepsOf 41 = .ok (.getfield 27, 3) := by decide +kernel
theorem dX4_stepsOf_44 : decode cX4_stepsOf 44 = .ok (.iconst 2, 1) := by decide +kernel
theorem dX4_stepsOf_45 : decode cX4_stepsOf 45 = .ok (.idiv, 1) := by decide +kernel
theorem dX4_stepsOf_46 : decode cX4_stepsOf 46 = .ok (.ireturn, 1) := by decide +kernel
theorem dX4_isWashed_0 : decode cX4_isWashed 0 = .ok (.aload_n 0, 1) := by decide +kernel
theorem dX4_isWashed_1 : decode cX4_isWashed 1 = .ok (.getfield 9, 3) := by decide +kernel
theorem dX4_isWashed_4 : decode cX4_isWashed 4 = .ok (.iload_n 1, 1) := by decide +kernel
theorem dX4_isWashed_5 : decode cX4_isWashed 5 = .ok (.iaload, 1) := by decide +kernel
theorem dX4_isWashed_6 : decode cX4_isWashed 6 = .ok (.iload_n 2, 1) := by decide +kernel
theorem dX4_isWashed_7 : decode cX4_isWashed 7 = .ok (.if_icmp .ge 7, 3) := by decide +kernel
theorem dX4_isWashed_10 : decode cX4_isWashed 10 = .ok (.iconst 1, 1) := by decide +kernel
theorem dX4_isWashed_11 : decode cX4_isWashed 11 = .ok (.goto 4, 3) := by decide +kernel
theorem dX4_isWashed_14 : decode cX4_isWashed 14 = .ok (.iconst 0, 1) := by decide +kernel
theorem dX4_isWashed_15 : decode cX4_isWashed 15 = .ok (.ireturn, 1) := by decide +kernel
theorem dX4_washedBy_0 : decode cX4_washedBy 0 = .ok (.iconst 0, 1) := by decide +kernel
theorem dX4_washedBy_1 : decode cX4_washedBy 1 = .ok (.istore_n 2, 1) := by decide +kernel
theorem dX4_washedBy_2 : decode cX4_washedBy 2 = .ok (.iconst 0, 1) := by decide +kernel
theorem dX4_washedBy_3 : decode cX4_washedBy 3 = .ok (.istore_n 3, 1) := by decide +kernel
theorem dX4_washedBy_4 : decode cX4_washedBy 4 = .ok (.iload_n 3, 1) := by decide +kernel
theorem dX4_washedBy_5 : decode cX4_washedBy 5 = .ok (.aload_n 0, 1) := by decide +kernel
theorem dX4_washedBy_6 : decode cX4_washedBy 6 = .ok (.getfield 37, 3) := by decide +kernel
theorem dX4_washedBy_9 : decode cX4_washedBy 9 = .ok (.if_icmp .ge 24, 3) := by decide +kernel
theorem dX4_washedBy_12 : decode cX4_washedBy 12 = .ok (.aload_n 0, 1) := by decide +kernel
theorem dX4_washedBy_13 : decode cX4_washedBy 13 = .ok (.iload_n 3, 1) := by decide +kernel
theorem dX4_washedBy_14 : decode cX4_washedBy 14 = .ok (.iload_n 1, 1) := by decide +kernel
theorem dX4_washedBy_15 : decode cX4_washedBy 15 = .ok (.invokevirtual 93, 3) := by decide +kernel
theorem dX4_washedBy_18 : decode cX4_washedBy 18 = .ok (.ifCond .eq 9, 3) := by decide +kernel
theorem dX4_washedBy_21 : decode cX4_washedBy 21 = .ok (.iload_n 2, 1) := by decide +kernel
theorem dX4_washedBy_22 : decode cX4_washedBy 22 = .ok (.iconst 1, 1) := by decide +kernel
theorem dX4_washedBy_23 : decode cX4_washedBy 23 = .ok (.iload_n 3, 1) := by decide +kernel
theorem dX4_washedBy_24 : decode cX4_washedBy 24 = .ok (.ishl, 1) := by decide +kernel
theorem dX4_washedBy_25 : decode cX4_washedBy 25 = .ok (.ior, 1) := by decide +kernel
theorem dX4_washedBy_26 : decode cX4_washedBy 26 = .ok (.istore_n 2, 1) := by decide +kernel
theorem dX4_washedBy_27 : decode cX4_washedBy 27 = .ok (.iinc 3 1, 3) := by decide +kernel
theorem dX4_washedBy_30 : decode cX4_washedBy 30 = .ok (.goto (-26), 3) := by decide +kernel
theorem dX4_washedBy_33 : decode cX4_washedBy 33 = .ok (.iload_n 2, 1) := by decide +kernel
theorem dX4_washedBy_34 : decode cX4_washedBy 34 = .ok (.ireturn, 1) := by decide +kernel
theorem dX4_poolBehind_0 : decode cX4_poolBehind 0 = .ok (.aload_n 0, 1) := by decide +kernel
theorem dX4_poolBehind_1 : decode cX4_poolBehind 1 = .ok (.iload_n 1, 1) := by decide +kernel
theorem dX4_poolBehind_2 : decode cX4_poolBehind 2 = .ok (.iload_n 3, 1) := by decide +kernel
theorem dX4_poolBehind_3 : decode cX4_poolBehind 3 = .ok (.invokevirtual 93, 3) := by decide +kernel
theorem dX4_poolBehind_6 : decode cX4_poolBehind 6 = .ok (.ifCond .ne 5, 3) := by decide +kernel
theorem dX4_poolBehind_9 : decode cX4_poolBehind 9 = .ok (.iload_n 1, 1) := by decide +kernel
theorem dX4_poolBehind_10 : decode cX4_poolBehind 10 = .ok (.ireturn, 1) := by decide +kernel
theorem dX4_poolBehind_11 : decode cX4_poolBehind 11 = .ok (.iload_n 1, 1) := by decide +kernel
theorem dX4_poolBehind_12 : decode cX4_poolBehind 12 = .ok (.istore 4, 2) := by decide +kernel
theorem dX4_poolBehind_14 : decode cX4_poolBehind 14 = .ok (.aload_n 0, 1) := by decide +kernel
theorem dX4_poolBehind_15 : decode cX4_poolBehind 15 = .ok (.iload_n 2, 1) := by decide +kernel
theorem dX4_poolBehind_16 : decode cX4_poolBehind 16 = .ok (.invokevirtual 97, 3) := by decide +kernel
theorem dX4_poolBehind_19 : decode cX4_poolBehind 19 = .ok (.istore 5, 2) := by decide +kernel
theorem dX4_poolBehind_21 : decode cX4_poolBehind 21 = .ok (.iload 5, 2) := by decide +kernel
theorem dX4_poolBehind_23 : decode cX4_poolBehind 23 = .ok (.ifCond .le 18, 3) := by decide +kernel
theorem dX4_poolBehind_26 : decode cX4_poolBehind 26 = .ok (.aload_n 0, 1) := by decide +kernel
theorem dX4_poolBehind_27 : decode cX4_poolBehind 27 = .ok (.iload 4, 2) := by decide +kernel
theorem dX4_poolBehind_29 : decode cX4_poolBehind 29 = .ok (.iload_n 3, 1) := by decide +kernel
theorem dX4_poolBehind_30 : decode cX4_poolBehind 30 = .ok (.invokevirtual 100, 3) := by decide +kernel
theorem dX4_poolBehind_33 : decode cX4_poolBehind 33 = .ok (.istore 4, 2) := by decide +kernel
theorem dX4_poolBehind_35 : decode cX4_poolBehind 35 = .ok (.iinc 5 (-1), 3) := by decide +kernel
theorem dX4_poolBehind_38 : decode cX4_poolBehind 38 = .ok (.goto (-17), 3) := by decide +kernel
theorem dX4_poolBehind_41 : decode cX4_poolBehind 41 = .ok (.iload 4, 2) := by decide +kernel
theorem dX4_poolBehind_43 : decode cX4_poolBehind 43 = .ok (.ireturn, 1) := by decide +kernel
theorem dX4_nextWashed_0 : decode cX4_nextWashed 0 = .ok (.iconst 1, 1) := by decide +kernel
theorem dX4_nextWashed_1 : decode cX4_nextWashed 1 = .ok (.istore_n 3, 1) := by decide +kernel
theorem dX4_nextWashed_2 : decode cX4_nextWashed 2 = .ok (.iload_n 3, 1) := by decide +kernel
theorem dX4_nextWashed_3 : decode cX4_nextWashed 3 = .ok (.aload_n 0, 1) := by decide +kernel
theorem dX4_nextWashed_4 : decode cX4_nextWashed 4 = .ok (.getfield 37, 3) := by decide +kernel
theorem dX4_nextWashed_7 : decode cX4_nextWashed 7 = .ok (.if_icmp .ge 48, 3) := by decide +kernel
theorem dX4_nextWashed_10 : decode cX4_nextWashed 10 = .ok (.iload_n 1, 1) := by decide +kernel
theorem dX4_nextWashed_11 : decode cX4_nextWashed 11 = .ok (.iload_n 3, 1) := by decide +kernel
theorem dX4_nextWashed_12 : decode cX4_nextWashed 12 = .ok (.iadd, 1) := by decide +kernel
theorem dX4_nextWashed_13 : decode cX4_nextWashed 13 = .ok (.aload_n 0, 1) := by decide +kernel
theorem dX4_nextWashed_14 : decode cX4_nextWashed 14 = .ok (.getfield 37, 3) := by decide +kernel
theorem dX4_nextWashed_17 : decode cX4_nextWashed 17 = .ok (.if_icmp .ge 9, 3) := by decide +kernel
theorem dX4_nextWashed_20 : decode cX4_nextWashed 20 = .ok (.iload_n 1, 1) := by decide +kernel
theorem dX4_nextWashed_21 : decode cX4_nextWashed 21 = .ok (.iload_n 3, 1) := by decide +kernel
theorem dX4_nextWashed_22 : decode cX4_nextWashed 22 = .ok (.iadd, 1) := by decide +kernel
theorem dX4_nextWashed_23 : decode cX4_nextWashed 23 = .ok (.goto 11, 3) := by decide +kernel
theorem dX4_nextWashed_26 : decode cX4_nextWashed 26 = .ok (.iload_n 1, 1) := by decide +kernel
theorem dX4_nextWashed_27 : decode cX4_nextWashed 27 = .ok (.iload_n 3, 1) := by decide +kernel
theorem dX4_nextWashed_28 : decode cX4_nextWashed 28 = .ok (.iadd, 1) := by decide +kernel
theorem dX4_nextWashed_29 : decode cX4_nextWashed 29 = .ok (.aload_n 0, 1) := by decide +kernel
theorem dX4_nextWashed_30 : decode cX4_nextWashed 30 = .ok (.getfield 37, 3) := by decide +kernel
theorem dX4_nextWashed_33 : decode cX4_nextWashed 33 = .ok (.isub, 1) := by decide +kernel
theorem dX4_nextWashed_34 : decode cX4_nextWashed 34 = .ok (.istore 4, 2) := by decide +kernel
theorem dX4_nextWashed_36 : decode cX4_nextWashed 36 = .ok (.aload_n 0, 1) := by decide +kernel
theorem dX4_nextWashed_37 : decode cX4_nextWashed 37 = .ok (.iload 4, 2) := by decide +kernel
theorem dX4_nextWashed_39 : decode cX4_nextWashed 39 = .ok (.iload_n 2, 1) := by decide +kernel
theorem dX4_nextWashed_40 : decode cX4_nextWashed 40 = .ok (.invokevirtual 93, 3) := by decide +kernel
theorem dX4_nextWashed_43 : decode cX4_nextWashed 43 = .ok (.ifCond .eq 6, 3) := by decide +kernel
theorem dX4_nextWashed_46 : decode cX4_nextWashed 46 = .ok (.iload 4, 2) := by decide +kernel
theorem dX4_nextWashed_48 : decode cX4_nextWashed 48 = .ok (.ireturn, 1) := by decide +kernel
theorem dX4_nextWashed_49 : decode cX4_nextWashed 49 = .ok (.iinc 3 1, 3) := by decide +kernel
theorem dX4_nextWashed_52 : decode cX4_nextWashed 52 = .ok (.goto (-50), 3) := by decide +kernel
theorem dX4_nextWashed_55 : decode cX4_nextWashed 55 = .ok (.iload_n 1, 1) := by decide +kernel
theorem dX4_nextWashed_56 : decode cX4_nextWashed 56 = .ok (.ireturn, 1) := by decide +kernel
theorem dX4_seatBehind_0 : decode cX4_seatBehind 0 = .ok (.aload_n 0, 1) := by decide +kernel
theorem dX4_seatBehind_1 : decode cX4_seatBehind 1 = .ok (.aload_n 0, 1) := by decide +kernel
theorem dX4_seatBehind_2 : decode cX4_seatBehind 2 = .ok (.getfield 21, 3) := by decide +kernel
theorem dX4_seatBehind_5 : decode cX4_seatBehind 5 = .ok (.iload_n 1, 1) := by decide +kernel
theorem dX4_seatBehind_6 : decode cX4_seatBehind 6 = .ok (.iaload, 1) := by decide +kernel
theorem dX4_seatBehind_7 : decode cX4_seatBehind 7 = .ok (.aload_n 0, 1) := by decide +kernel
theorem dX4_seatBehind_8 : decode cX4_seatBehind 8 = .ok (.getfield 18, 3) := by decide +kernel
theorem dX4_seatBehind_11 : decode cX4_seatBehind 11 = .ok (.iload_n 1, 1) := by decide +kernel
theorem dX4_seatBehind_12 : decode cX4_seatBehind 12 = .ok (.iaload, 1) := by decide +kernel
theorem dX4_seatBehind_13 : decode cX4_seatBehind 13 = .ok (.iload_n 2, 1) := by decide +kernel
theorem dX4_seatBehind_14 : decode cX4_seatBehind 14 = .ok (.invokevirtual 103, 3) := by decide +kernel
theorem dX4_seatBehind_17 : decode cX4_seatBehind 17 = .ok (.ireturn, 1) := by decide +kernel
theorem dX4_carryAll_0 : decode cX4_carryAll 0 = .ok (.iconst 0, 1) := by decide +kernel
theorem dX4_carryAll_1 : decode cX4_carryAll 1 = .ok (.istore_n 2, 1) := by decide +kernel
theorem dX4_carryAll_2 : decode cX4_carryAll 2 = .ok (.iconst 0, 1) := by decide +kernel
theorem dX4_carryAll_3 : decode cX4_carryAll 3 = .ok (.istore_n 3, 1) := by decide +kernel
theorem dX4_carryAll_4 : decode cX4_carryAll 4 = .ok (.iload_n 3, 1) := by decide +kernel
theorem dX4_carryAll_5 : decode cX4_carryAll 5 = .ok (.aload_n 0, 1) := by decide +kernel
theorem dX4_carryAll_6 : decode cX4_carryAll 6 = .ok (.getfield 40, 3) := by decide +kernel
theorem dX4_carryAll_9 : decode cX4_carryAll 9 = .ok (.if_icmp .ge 47, 3) := by decide +kernel
theorem dX4_carryAll_12 : decode cX4_carryAll 12 = .ok (.aload_n 0, 1) := by decide +kernel
theorem dX4_carryAll_13 : decode cX4_carryAll 13 = .ok (.iload_n 3, 1) := by decide +kernel
theorem dX4_carryAll_14 : decode cX4_carryAll 14 = .ok (.iload_n 1, 1) := by decide +kernel
theorem dX4_carryAll_15 : decode cX4_carryAll 15 = .ok (.invokevirtual 107, 3) := by decide +kernel
theorem dX4_carryAll_18 : decode cX4_carryAll 18 = .ok (.istore 4, 2) := by decide +kernel
theorem dX4_carryAll_20 : decode cX4_carryAll 20 = .ok (.iload_n 2, 1) := by decide +kernel
theorem dX4_carryAll_21 : decode cX4_carryAll 21 = .ok (.iload 4, 2) := by decide +kernel
theorem dX4_carryAll_23 : decode cX4_carryAll 23 = .ok (.aload_n 0, 1) := by decide +kernel
theorem dX4_carryAll_24 : decode cX4_carryAll 24 = .ok (.getfield 21, 3) := by decide +kernel
theorem dX4_carryAll_27 : decode cX4_carryAll 27 = .ok (.iload_n 3, 1) := by decide +kernel
theorem dX4_carryAll_28 : decode cX4_carryAll 28 = .ok (.iaload, 1) := by decide +kernel
theorem dX4_carryAll_29 : decode cX4_carryAll 29 = .ok (.if_icmp .eq 7, 3) := by decide +kernel
theorem dX4_carryAll_32 : decode cX4_carryAll 32 = .ok (.iconst 1, 1) := by decide +kernel
theorem dX4_carryAll_33 : decode cX4_carryAll 33 = .ok (.goto 4, 3) := by decide +kernel
theorem dX4_carryAll_36 : decode cX4_carryAll 36 = .ok (.iconst 0, 1) := by decide +kernel
theorem dX4_carryAll_37 : decode cX4_carryAll 37 = .ok (.invokestatic 89, 3) := by decide +kernel
theorem dX4_carryAll_40 : decode cX4_carryAll 40 = .ok (.iadd, 1) := by decide +kernel
theorem dX4_carryAll_41 : decode cX4_carryAll 41 = .ok (.istore_n 2, 1) := by decide +kernel
theorem dX4_carryAll_42 : decode cX4_carryAll 42 = .ok (.aload_n 0, 1) := by decide +kernel
theorem dX4_carryAll_43 : decode cX4_carryAll 43 = .ok (.getfield 21, 3) := by decide +kernel
theorem dX4_carryAll_46 : decode cX4_carryAll 46 = .ok (.iload_n 3, 1) := by decide +kernel
theorem dX4_carryAll_47 : decode cX4_carryAll 47 = .ok (.iload 4, 2) := by decide +kernel
theorem dX4_carryAll_49 : decode cX4_carryAll 49 = .ok (.iastore, 1) := by decide +kernel
theorem dX4_carryAll_50 : decode cX4_carryAll 50 = .ok (.iinc 3 1, 3) := by decide +kernel
theorem dX4_carryAll_53 : decode cX4_carryAll 53 = .ok (.goto (-49), 3) := by decide +kernel
theorem dX4_carryAll_56 : decode cX4_carryAll 56 = .ok (.iload_n 2, 1) := by decide +kernel
theorem dX4_carryAll_57 : decode cX4_carryAll 57 = .ok (.ireturn, 1) := by decide +kernel
theorem dX4_friendsOf_0 : decode cX4_friendsOf 0 = .ok (.iconst 0, 1) := by decide +kernel
theorem dX4_friendsOf_1 : decode cX4_friendsOf 1 = .ok (.istore_n 2, 1) := by decide +kernel
theorem dX4_friendsOf_2 : decode cX4_friendsOf 2 = .ok (.iconst 0, 1) := by decide +kernel
theorem dX4_friendsOf_3 : decode cX4_friendsOf 3 = .ok (.istore_n 3, 1) := by decide +kernel
theorem dX4_friendsOf_4 : decode cX4_friendsOf 4 = .ok (.iload_n 3, 1) := by decide +kernel
theorem dX4_friendsOf_5 : decode cX4_friendsOf 5 = .ok (.aload_n 0, 1) := by decide +kernel
theorem dX4_friendsOf_6 : decode cX4_friendsOf 6 = .ok (.getfield 40, 3) := by decide +kernel
theorem dX4_friendsOf_9 : decode cX4_friendsOf 9 = .ok (.if_icmp .ge 33, 3) := by decide +kernel
theorem dX4_friendsOf_12 : decode cX4_friendsOf 12 = .ok (.aload_n 0, 1) := by decide +kernel
theorem dX4_friendsOf_13 : decode cX4_friendsOf 13 = .ok (.getfield 24, 3) := by decide +kernel
theorem dX4_friendsOf_16 : decode cX4_friendsOf 16 = .ok (.iload_n 3, 1) := by decide +kernel
theorem dX4_friendsOf_17 : decode cX4_friendsOf 17 = .ok (.iaload, 1) := by decide +kernel
theorem dX4_friendsOf_18 : decode cX4_friendsOf 18 = .ok (.iload_n 1, 1) := by decide +kernel
theorem dX4_friendsOf_19 : decode cX4_friendsOf 19 = .ok (.isub, 1) := by decide +kernel
theorem dX4_friendsOf_20 : decode cX4_friendsOf 20 = .ok (.invokestatic 110, 3) := by decide +kernel
theorem dX4_friendsOf_23 : decode cX4_friendsOf 23 = .ok (.aload_n 0, 1) := by decide +kernel
theorem dX4_friendsOf_24 : decode cX4_friendsOf 24 = .ok (.getfield 31, 3) := by decide +kernel
theorem dX4_friendsOf_27 : decode cX4_friendsOf 27 = .ok (.if_icmp .gt 9, 3) := by decide +kernel
theorem dX4_friendsOf_30 : decode cX4_friendsOf 30 = .ok (.iload_n 2, 1) := by decide +kernel
theorem dX4_friendsOf_31 : decode cX4_friendsOf 31 = .ok (.iconst 1, 1) := by decide +kernel
theorem dX4_friendsOf_32 : decode cX4_friendsOf 32 = .ok (.iload_n 3, 1) := by decide +kernel
theorem dX4_friendsOf_33 : decode cX4_friendsOf 33 = .ok (.ishl, 1) := by decide +kernel
theorem dX4_friendsOf_34 : decode cX4_friendsOf 34 = .ok (.ior, 1) := by decide +kernel
theorem dX4_friendsOf_35 : decode cX4_friendsOf 35 = .ok (.istore_n 2, 1) := by decide +kernel
theorem dX4_friendsOf_36 : decode cX4_friendsOf 36 = .ok (.iinc 3 1, 3) := by decide +kernel
theorem dX4_friendsOf_39 : decode cX4_friendsOf 39 = .ok (.goto (-35), 3) := by decide +kernel
theorem dX4_friendsOf_42 : decode cX4_friendsOf 42 = .ok (.iload_n 2, 1) := by decide +kernel
theorem dX4_friendsOf_43 : decode cX4_friendsOf 43 = .ok (.ireturn, 1) := by decide +kernel
theorem dX4_poolsWon_0 : decode cX4_poolsWon 0 = .ok (.iconst 0, 1) := by decide +kernel
theorem dX4_poolsWon_1 : decode cX4_poolsWon 1 = .ok (.istore_n 2, 1) := by decide +kernel
theorem dX4_poolsWon_2 : decode cX4_poolsWon 2 = .ok (.iconst 0, 1) := by decide +kernel
theorem dX4_poolsWon_3 : decode cX4_poolsWon 3 = .ok (.istore_n 3, 1) := by decide +kernel
theorem dX4_poolsWon_4 : decode cX4_poolsWon 4 = .ok (.iload_n 3, 1) := by decide +kernel
theorem dX4_poolsWon_5 : decode cX4_poolsWon 5 = .ok (.aload_n 0, 1) := by decide +kernel
theorem dX4_poolsWon_6 : decode cX4_poolsWon 6 = .ok (.getfield 37, 3) := by decide +kernel
theorem dX4_poolsWon_9 : decode cX4_poolsWon 9 = .ok (.if_icmp .ge 41, 3) := by decide +kernel
theorem dX4_poolsWon_12 : decode cX4_poolsWon 12 = .ok (.aload_n 0, 1) := by decide +kernel
theorem dX4_poolsWon_13 : decode cX4_poolsWon 13 = .ok (.iload_n 3, 1) := by decide +kernel
theorem dX4_poolsWon_14 : decode cX4_poolsWon 14 = .ok (.invokevirtual 77, 3) := by decide +kernel
theorem dX4_poolsWon_17 : decode cX4_poolsWon 17 = .ok (.istore 4, 2) := by decide +kernel
theorem dX4_poolsWon_19 : decode cX4_poolsWon 19 = .ok (.iload 4, 2) := by decide +kernel
theorem dX4_poolsWon_21 : decode cX4_poolsWon 21 = .ok (.iload_n 1, 1) := by decide +kernel
theorem dX4_poolsWon_22 : decode cX4_poolsWon 22 = .ok (.iand, 1) := by decide +kernel
theorem dX4_poolsWon_23 : decode cX4_poolsWon 23 = .ok (.invokestatic 81, 3) := by decide +kernel
theorem dX4_poolsWon_26 : decode cX4_poolsWon 26 = .ok (.iload 4, 2) := by decide +kernel
theorem dX4_poolsWon_28 : decode cX4_poolsWon 28 = .ok (.iload_n 1, 1) := by decide +kernel
theorem dX4_poolsWon_29 : decode cX4_poolsWon 29 = .ok (.iconst (-1), 1) := by decide +kernel
theorem dX4_poolsWon_30 : decode cX4_poolsWon 30 = .ok (.ixor, 1) := by decide +kernel
theorem dX4_poolsWon_31 : decode cX4_poolsWon 31 = .ok (.iand, 1) := by decide +kernel
theorem dX4_poolsWon_32 : decode cX4_poolsWon 32 = .ok (.invokestatic 81, 3) := by decide +kernel
theorem dX4_poolsWon_35 : decode cX4_poolsWon 35 = .ok (.if_icmp .le 9, 3) := by decide +kernel
theorem dX4_poolsWon_38 : decode cX4_poolsWon 38 = .ok (.iload_n 2, 1) := by decide +kernel
theorem dX4_poolsWon_39 : decode cX4_poolsWon 39 = .ok (.iconst 1, 1) := by decide +kernel
theorem dX4_poolsWon_40 : decode cX4_poolsWon 40 = .ok (.iload_n 3, 1) := by decide +kernel
theorem dX4_poolsWon_41 : decode cX4_poolsWon 41 = .ok (.ishl, 1) := by decide +kernel
theorem dX4_poolsWon_42 : decode cX4_poolsWon 42 = .ok (.ior, 1) := by decide +kernel
theorem dX4_poolsWon_43 : decode cX4_poolsWon 43 = .ok (.istore_n 2, 1) := by decide +kernel
theorem dX4_poolsWon_44 : decode cX4_poolsWon 44 = .ok (.iinc 3 1, 3) := by decide +kernel
theorem dX4_poolsWon_47 : decode cX4_poolsWon 47 = .ok (.goto (-43), 3) := by decide +kernel
theorem dX4_poolsWon_50 : decode cX4_poolsWon 50 = .ok (.iload_n 2, 1) := by decide +kernel
theorem dX4_poolsWon_51 : decode cX4_poolsWon 51 = .ok (.ireturn, 1) := by decide +kernel
theorem dX4_isLawBy_0 : decode cX4_isLawBy 0 = .ok (.iconst 2, 1) := by decide +kernel
theorem dX4_isLawBy_1 : decode cX4_isLawBy 1 = .ok (.aload_n 0, 1) := by decide +kernel
theorem dX4_isLawBy_2 : decode cX4_isLawBy 2 = .ok (.iload_n 1, 1) := by decide +kernel
theorem dX4_isLawBy_3 : decode cX4_isLawBy 3 = .ok (.invokevirtual 115, 3) := by decide +kernel
theorem dX4_isLawBy_6 : decode cX4_isLawBy 6 = .ok (.invokestatic 81, 3) := by decide +kernel
theorem dX4_isLawBy_9 : decode cX4_isLawBy 9 = .ok (.imul, 1) := by decide +kernel
theorem dX4_isLawBy_10 : decode cX4_isLawBy 10 = .ok (.aload_n 0, 1) := by decide +kernel
theorem dX4_isLawBy_11 : decode cX4_isLawBy 11 = .ok (.invokevirtual 118, 3) := by decide +kernel
theorem dX4_isLawBy_14 : decode cX4_isLawBy 14 = .ok (.if_icmp .le 7, 3) := by decide +kernel
theorem dX4_isLawBy_17 : decode cX4_isLawBy 17 = .ok (.iconst 1, 1) := by decide +kernel
theorem dX4_isLawBy_18 : decode cX4_isLawBy 18 = .ok (.goto 4, 3) := by decide +kernel
theorem dX4_isLawBy_21 : decode cX4_isLawBy 21 = .ok (.iconst 0, 1) := by decide +kernel
theorem dX4_isLawBy_22 : decode cX4_isLawBy 22 = .ok (.ireturn, 1) := by decide +kernel
theorem dX4_driftIn_0 : decode cX4_driftIn 0 = .ok (.iload_n 2, 1) := by decide +kernel
theorem dX4_driftIn_1 : decode cX4_driftIn 1 = .ok (.istore_n 3, 1) := by decide +kernel
theorem dX4_driftIn_2 : decode cX4_driftIn 2 = .ok (.iconst 0, 1) := by decide +kernel
theorem dX4_driftIn_3 : decode cX4_driftIn 3 = .ok (.istore 4, 2) := by decide +kernel
theorem dX4_driftIn_5 : decode cX4_driftIn 5 = .ok (.iload 4, 2) := by decide +kernel
theorem dX4_driftIn_7 : decode cX4_driftIn 7 = .ok (.aload_n 0, 1) := by decide +kernel
theorem dX4_driftIn_8 : decode cX4_driftIn 8 = .ok (.getfield 40, 3) := by decide +kernel
theorem dX4_driftIn_11 : decode cX4_driftIn 11 = .ok (.if_icmp .ge 34, 3) := by decide +kernel
theorem dX4_driftIn_14 : decode cX4_driftIn 14 = .ok (.iload_n 3, 1) := by decide +kernel
theorem dX4_driftIn_15 : decode cX4_driftIn 15 = .ok (.aload_n 0, 1) := by decide +kernel
theorem dX4_driftIn_16 : decode cX4_driftIn 16 = .ok (.getfield 21, 3) := by decide +kernel
theorem dX4_driftIn_19 : decode cX4_driftIn 19 = .ok (.iload 4, 2) := by decide +kernel
theorem dX4_driftIn_21 : decode cX4_driftIn 21 = .ok (.iaload, 1) := by decide +kernel
theorem dX4_driftIn_22 : decode cX4_driftIn 22 = .ok (.iload_n 1, 1) := by decide +kernel
theorem dX4_driftIn_23 : decode cX4_driftIn 23 = .ok (.if_icmp .ne 13, 3) := by decide +kernel
theorem dX4_driftIn_26 : decode cX4_driftIn 26 = .ok (.aload_n 0, 1) := by decide +kernel
theorem dX4_driftIn_27 : decode cX4_driftIn 27 = .ok (.getfield 24, 3) := by decide +kernel
theorem dX4_driftIn_30 : decode cX4_driftIn 30 = .ok (.iload 4, 2) := by decide +kernel
theorem dX4_driftIn_32 : decode cX4_driftIn 32 = .ok (.iaload, 1) := by decide +kernel
theorem dX4_driftIn_33 : decode cX4_driftIn 33 = .ok (.goto 4, 3) := by decide +kernel
theorem dX4_driftIn_36 : decode cX4_driftIn 36 = .ok (.iconst 0, 1) := by decide +kernel
theorem dX4_driftIn_37 : decode cX4_driftIn 37 = .ok (.iadd, 1) := by decide +kernel
theorem dX4_driftIn_38 : decode cX4_driftIn 38 = .ok (.istore_n 3, 1) := by decide +kernel
theorem dX4_driftIn_39 : decode cX4_driftIn 39 = .ok (.iinc 4 1, 3) := by decide +kernel
theorem dX4_driftIn_42 : decode cX4_driftIn 42 = .ok (.goto (-37), 3) := by decide +kernel
theorem dX4_driftIn_45 : decode cX4_driftIn 45 = .ok (.iload_n 3, 1) := by decide +kernel
theorem dX4_driftIn_46 : decode cX4_driftIn 46 = .ok (.aload_n 0, 1) := by decide +kernel
theorem dX4_driftIn_47 : decode cX4_driftIn 47 = .ok (.iload_n 1, 1) := by decide +kernel
theorem dX4_driftIn_48 : decode cX4_driftIn 48 = .ok (.invokevirtual 86, 3) := by decide +kernel
theorem dX4_driftIn_51 : decode cX4_driftIn 51 = .ok (.iconst 1, 1) := by decide +kernel
theorem dX4_driftIn_52 : decode cX4_driftIn 52 = .ok (.iadd, 1) := by decide +kernel
theorem dX4_driftIn_53 : decode cX4_driftIn 53 = .ok (.idiv, 1) := by decide +kernel
theorem dX4_driftIn_54 : decode cX4_driftIn 54 = .ok (.ireturn, 1) := by decide +kernel
theorem dX4_isInReach_0 : decode cX4_isInReach 0 = .ok (.aload_n 0, 1) := by decide +kernel
theorem dX4_isInReach_1 : decode cX4_isInReach 1 = .ok (.getfield 9, 3) := by decide +kernel
theorem dX4_isInReach_4 : decode cX4_isInReach 4 = .ok (.iload_n 1, 1) := by decide +kernel
theorem dX4_isInReach_5 : decode cX4_isInReach 5 = .ok (.iaload, 1) := by decide +kernel
theorem dX4_isInReach_6 : decode cX4_isInReach 6 = .ok (.aload_n 0, 1) := by decide +kernel
theorem dX4_isInReach_7 : decode cX4_isInReach 7 = .ok (.getfield 9, 3) := by decide +kernel
theorem dX4_isInReach_10 : decode cX4_isInReach 10 = .ok (.iload_n 2, 1) := by decide +kernel
theorem dX4_isInReach_11 : decode cX4_isInReach 11 = .ok (.iaload, 1) := by decide +kernel
theorem dX4_isInReach_12 : decode cX4_isInReach 12 = .ok (.isub, 1) := by decide +kernel
theorem dX4_isInReach_13 : decode cX4_isInReach 13 = .ok (.invokestatic 110, 3) := by decide +kernel
theorem dX4_isInReach_16 : decode cX4_isInReach 16 = .ok (.aload_n 0, 1) := by decide +kernel
theorem dX4_isInReach_17 : decode cX4_isInReach 17 = .ok (.getfield 34, 3) := by decide +kernel
theorem dX4_isInReach_20 : decode cX4_isInReach 20 = .ok (.if_icmp .gt 7, 3) := by decide +kernel
theorem dX4_isInReach_23 : decode cX4_isInReach 23 = .ok (.iconst 1, 1) := by decide +kernel
theorem dX4_isInReach_24 : decode cX4_isInReach 24 = .ok (.goto 4, 3) := by decide +kernel
theorem dX4_isInReach_27 : decode cX4_isInReach 27 = .ok (.iconst 0, 1) := by decide +kernel
theorem dX4_isInReach_28 : decode cX4_isInReach 28 = .ok (.ireturn, 1) := by decide +kernel
theorem dX5_init_0 : decode cX5_init 0 = .ok (.aload_n 0, 1) := by decide +kernel
theorem dX5_init_1 : decode cX5_init 1 = .ok (.invokespecial 3, 3) := by decide +kernel
theorem dX5_init_4 : decode cX5_init 4 = .ok (.aload_n 0, 1) := by decide +kernel
theorem dX5_init_5 : decode cX5_init 5 = .ok (.iconst 4, 1) := by decide +kernel
theorem dX5_init_6 : decode cX5_init 6 = .ok (.anewarray 11, 3) := by decide +kernel
theorem dX5_init_9 : decode cX5_init 9 = .ok (.putfield 13, 3) := by decide +kernel
theorem dX5_init_12 : decode cX5_init 12 = .ok (.iconst 0, 1) := by decide +kernel
theorem dX5_init_13 : decode cX5_init 13 = .ok (.istore_n 1, 1) := by decide +kernel
theorem dX5_init_14 : decode cX5_init 14 = .ok (.iload_n 1, 1) := by decide +kernel
theorem dX5_init_15 : decode cX5_init 15 = .ok (.iconst 4, 1) := by decide +kernel
theorem dX5_init_16 : decode cX5_init 16 = .ok (.if_icmp .ge 22, 3) := by decide +kernel
theorem dX5_init_19 : decode cX5_init 19 = .ok (.aload_n 0, 1) := by decide +kernel
theorem dX5_init_20 : decode cX5_init 20 = .ok (.getfield 13, 3) := by decide +kernel
theorem dX5_init_23 : decode cX5_init 23 = .ok (.iload_n 1, 1) := by decide +kernel
theorem dX5_init_24 : decode cX5_init 24 = .ok (.new 11, 3) := by decide +kernel
theorem dX5_init_27 : decode cX5_init 27 = .ok (.dup, 1) := by decide +kernel
theorem dX5_init_28 : decode cX5_init 28 = .ok (.invokespecial 17, 3) := by decide +kernel
theorem dX5_init_31 : decode cX5_init 31 = .ok (.aastore, 1) := by decide +kernel
theorem dX5_init_32 : decode cX5_init 32 = .ok (.iinc 1 1, 3) := by decide +kernel
theorem dX5_init_35 : decode cX5_init 35 = .ok (.goto (-21), 3) := by decide +kernel
theorem dX5_init_38 : decode cX5_init 38 = .ok (.aload_n 0, 1) := by decide +kernel
theorem dX5_init_39 : decode cX5_init 39 = .ok (.new 18, 3) := by decide +kernel
theorem dX5_init_42 : decode cX5_init 42 = .ok (.dup, 1) := by decide +kernel
theorem dX5_init_43 : decode cX5_init 43 = .ok (.invokespecial 20, 3) := by decide +kernel
theorem dX5_init_46 : decode cX5_init 46 = .ok (.putfield 21, 3) := by decide +kernel
theorem dX5_init_49 : decode cX5_init 49 = .ok (.aload_n 0, 1) := by decide +kernel
theorem dX5_init_50 : decode cX5_init 50 = .ok (.new 25, 3) := by decide +kernel
theorem dX5_init_53 : decode cX5_init 53 = .ok (.dup, 1) := by decide +kernel
theorem dX5_init_54 : decode cX5_init 54 = .ok (.invokespecial 27, 3) := by decide +kernel
theorem dX5_init_57 : decode cX5_init 57 = .ok (.putfield 28, 3) := by decide +kernel
theorem dX5_init_60 : decode cX5_init 60 = .ok (.aload_n 0, 1) := by decide +kernel
theorem dX5_init_61 : decode cX5_init 61 = .ok (.new 32, 3) := by decide +kernel
theorem dX5_init_64 : decode cX5_init 64 = .ok (.dup, 1) := by decide +kernel
theorem dX5_init_65 : decode cX5_init 65 = .ok (.invokespecial 34, 3) := by decide +kernel
theorem dX5_init_68 : decode cX5_init 68 = .ok (.putfield 35, 3) := by decide +kernel
theorem dX5_init_71 : decode cX5_init 71 = .ok (.aload_n 0, 1) := by decide +kernel
theorem dX5_init_72 : decode cX5_init 72 = .ok (.new 39, 3) := by decide +kernel
theorem dX5_init_75 : decode cX5_init 75 = .ok (.dup, 1) := by decide +kernel
theorem dX5_init_76 : decode cX5_init 76 = .ok (.invokespecial 41, 3) := by decide +kernel
theorem dX5_init_79 : decode cX5_init 79 = .ok (.putfield 42, 3) := by decide +kernel
theorem dX5_init_82 : decode cX5_init 82 = .ok (.aload_n 0, 1) := by decide +kernel
theorem dX5_init_83 : decode cX5_init 83 = .ok (.new 39, 3) := by decide +kernel
theorem dX5_init_86 : decode cX5_init 86 = .ok (.dup, 1) := by decide +kernel
theorem dX5_init_87 : decode cX5_init 87 = .ok (.invokespecial 41, 3) := by decide +kernel
theorem dX5_init_90 : decode cX5_init 90 = .ok (.putfield 46, 3) := by decide +kernel
theorem dX5_init_93 : decode cX5_init 93 = .ok (.return_, 1) := by decide +kernel
theorem dX5_shore_0 : decode cX5_shore 0 = .ok (.aload_n 0, 1) := by decide +kernel
theorem dX5_shore_1 : decode cX5_shore 1 = .ok (.iconst 0, 1) := by decide +kernel
theorem dX5_shore_2 : decode cX5_shore 2 = .ok (.putfield 49, 3) := by decide +kernel
theorem dX5_shore_5 : decode cX5_shore 5 = .ok (.iload_n 1, 1) := by decide +kernel
theorem dX5_shore_6 : decode cX5_shore 6 = .ok (.invokestatic 53, 3) := by decide +kernel
theorem dX5_shore_9 : decode cX5_shore 9 = .ok (.ifCond .ne 5, 3) := by decide +kernel
theorem dX5_shore_12 : decode cX5_shore 12 = .ok (.iconst (-1), 1) := by decide +kernel
theorem dX5_shore_13 : decode cX5_shore 13 = .ok (.ireturn, 1) := by decide +kernel
theorem dX5_shore_14 : decode cX5_shore 14 = .ok (.iload_n 2, 1) := by decide +kernel
theorem dX5_shore_15 : decode cX5_shore 15 = .ok (.invokestatic 57, 3) := by decide +kernel
theorem dX5_shore_18 : decode cX5_shore 18 = .ok (.ifCond .ne 6, 3) := by decide +kernel
theorem dX5_shore_21 : decode cX5_shore 21 = .ok (.bipush (-2), 2) := by decide +kernel
theorem dX5_shore_23 : decode cX5_shore 23 = .ok (.ireturn, 1) := by decide +kernel
theorem dX5_shore_24 : decode cX5_shore 24 = .ok (.aload_n 0, 1) := by decide +kernel
theorem dX5_shore_25 : decode cX5_shore 25 = .ok (.getfield 13, 3) := by decide +kernel
theorem dX5_shore_28 : decode cX5_shore 28 = .ok (.iload_n 1, 1) := by decide +kernel
theorem dX5_shore_29 : decode cX5_shore 29 = .ok (.aaload, 1) := by decide +kernel
theorem dX5_shore_30 : decode cX5_shore 30 = .ok (.iload_n 2, 1) := by decide +kernel
theorem dX5_shore_31 : decode cX5_shore 31 = .ok (.iload_n 3, 1) := by decide +kernel
theorem dX5_shore_32 : decode cX5_shore 32 = .ok (.iload 4, 2) := by decide +kernel
theorem dX5_shore_34 : decode cX5_shore 34 = .ok (.invokestatic 60, 3) := by decide +kernel
theorem dX5_shore_37 : decode cX5_shore 37 = .ok (.istore 5, 2) := by decide +kernel
theorem dX5_shore_39 : decode cX5_shore 39 = .ok (.iload 5, 2) := by decide +kernel
theorem dX5_shore_41 : decode cX5_shore 41 = .ok (.ifCond .eq 10, 3) := by decide +kernel
theorem dX5_shore_44 : decode cX5_shore 44 = .ok (.aload_n 0, 1) := by decide +kernel
theorem dX5_shore_45 : decode cX5_shore 45 = .ok (.iload 5, 2) := by decide +kernel
theorem dX5_shore_47 : decode cX5_shore 47 = .ok (.invokevirtual 64, 3) := by decide +kernel
theorem dX5_shore_50 : decode cX5_shore 50 = .ok (.ireturn, 1) := by decide +kernel
theorem dX5_shore_51 : decode cX5_shore 51 = .ok (.aload_n 0, 1) := by decide +kernel
theorem dX5_shore_52 : decode cX5_shore 52 = .ok (.getfield 21, 3) := by decide +kernel
theorem dX5_shore_55 : decode cX5_shore 55 = .ok (.aload_n 0, 1) := by decide +kernel
theorem dX5_shore_56 : decode cX5_shore 56 = .ok (.getfield 13, 3) := by decide +kernel
theorem dX5_shore_59 : decode cX5_shore 59 = .ok (.iload_n 1, 1) := by decide +kernel
theorem dX5_shore_60 : decode cX5_shore 60 = .ok (.aaload, 1) := by decide +kernel
theorem dX5_shore_61 : decode cX5_shore 61 = .ok (.iload_n 3, 1) := by decide +kernel
theorem dX5_shore_62 : decode cX5_shore 62 = .ok (.iload 4, 2) := by decide +kernel
theorem dX5_shore_64 : decode cX5_shore 64 = .ok (.invokevirtual 68, 3) := by decide +kernel
theorem dX5_shore_67 : decode cX5_shore 67 = .ok (.aload_n 0, 1) := by decide +kernel
theorem dX5_shore_68 : decode cX5_shore 68 = .ok (.getfield 46, 3) := by decide +kernel
theorem dX5_shore_71 : decode cX5_shore 71 = .ok (.aload_n 0, 1) := by decide +kernel
theorem dX5_shore_72 : decode cX5_shore 72 = .ok (.getfield 21, 3) := by decide +kernel
theorem dX5_shore_75 : decode cX5_shore 75 = .ok (.invokevirtual 72, 3) := by decide +kernel
theorem dX5_shore_78 : decode cX5_shore 78 = .ok (.ifCond .ne 14, 3) := by decide +kernel
theorem dX5_shore_81 : decode cX5_shore 81 = .ok (.bipush (-100), 2) := by decide +kernel
theorem dX5_shore_83 : decode cX5_shore 83 = .ok (.aload_n 0, 1) := by decide +kernel
theorem dX5_shore_84 : decode cX5_shore 84 = .ok (.getfield 21, 3) := by decide +kernel
theorem dX5_shore_87 : decode cX5_shore 87 = .ok (.invokevirtual 76, 3) := by decide +kernel
theorem dX5_shore_90 : decode cX5_shore 90 = .ok (.isub, 1) := by decide +kernel
theorem dX5_shore_91 : decode cX5_shore 91 = .ok (.ireturn, 1) := by decide +kernel
theorem dX5_shore_92 : decode cX5_shore 92 = .ok (.aload_n 0, 1) := by decide +kernel
theorem dX5_shore_93 : decode cX5_shore 93 = .ok (.invokevirtual 80, 3) := by decide +kernel
theorem dX5_shore_96 : decode cX5_shore 96 = .ok (.aload_n 0, 1) := by decide +kernel
theorem dX5_shore_97 : decode cX5_shore 97 = .ok (.getfield 28, 3) := by decide +kernel
theorem dX5_shore_100 : decode cX5_shore 100 = .ok (.iconst 0, 1) := by decide +kernel
theorem dX5_shore_101 : decode cX5_shore 101 = .ok (.putfield 83, 3) := by decide +kernel
theorem dX5_shore_104 : decode cX5_shore 104 = .ok (.aload_n 0, 1) := by decide +kernel
theorem dX5_shore_105 : decode cX5_shore 105 = .ok (.getfield 42, 3) := by decide +kernel
theorem dX5_shore_108 : decode cX5_shore 108 = .ok (.getfield 86, 3) := by decide +kernel
theorem dX5_shore_111 : decode cX5_shore 111 = .ok (.ireturn, 1) := by decide +kernel
theorem dX5_ofPool_0 : decode cX5_ofPool 0 = .ok (.aload_n 0, 1) := by decide +kernel
theorem dX5_ofPool_1 : decode cX5_ofPool 1 = .ok (.iload_n 1, 1) := by decide +kernel
theorem dX5_ofPool_2 : decode cX5_ofPool 2 = .ok (.invokevirtual 89, 3) := by decide +kernel
theorem dX5_ofPool_5 : decode cX5_ofPool 5 = .ok (.ifCond .ne 5, 3) := by decide +kernel
theorem dX5_ofPool_8 : decode cX5_ofPool 8 = .ok (.iconst (-1), 1) := by decide +kernel
theorem dX5_ofPool_9 : decode cX5_ofPool 9 = .ok (.ireturn, 1) := by decide +kernel
theorem dX5_ofPool_10 : decode cX5_ofPool 10 = .ok (.iload_n 2, 1) := by decide +kernel
theorem dX5_ofPool_11 : decode cX5_ofPool 11 = .ok (.tableswitch 67 0 3 #[29, 39, 49, 58], 29) := by decide +kernel
theorem dX5_ofPool_40 : decode cX5_ofPool 40 = .ok (.aload_n 0, 1) := by decide +kernel
theorem dX5_ofPool_41 : decode cX5_ofPool 41 = .ok (.getfield 42, 3) := by decide +kernel
theorem dX5_ofPool_44 : decode cX5_ofPool 44 = .ok (.getfield 92, 3) := by decide +kernel
theorem dX5_ofPool_47 : decode cX5_ofPool 47 = .ok (.iload_n 1, 1) := by decide +kernel
theorem dX5_ofPool_48 : decode cX5_ofPool 48 = .ok (.iaload, 1) := by decide +kernel
theorem dX5_ofPool_49 : decode cX5_ofPool 49 = .ok (.ireturn, 1) := by decide +kernel
theorem dX5_ofPool_50 : decode cX5_ofPool 50 = .ok (.aload_n 0, 1) := by decide +kernel
theorem dX5_ofPool_51 : decode cX5_ofPool 51 = .ok (.getfield 42, 3) := by decide +kernel
theorem dX5_ofPool_54 : decode cX5_ofPool 54 = .ok (.getfield 96, 3) := by decide +kernel
theorem dX5_ofPool_57 : decode cX5_ofPool 57 = .ok (.iload_n 1, 1) := by decide +kernel
theorem dX5_ofPool_58 : decode cX5_ofPool 58 = .ok (.iaload, 1) := by decide +kernel
theorem dX5_ofPool_59 : decode cX5_ofPool 59 = .ok (.ireturn, 1) := by decide +kernel
theorem dX5_ofPool_60 : decode cX5_ofPool 60 = .ok (.aload_n 0, 1) := by decide +kernel
theorem dX5_ofPool_61 : decode cX5_ofPool 61 = .ok (.getfield 42, 3) := by decide +kernel
theorem dX5_ofPool_64 : decode cX5_ofPool 64 = .ok (.iload_n 1, 1) := by decide +kernel
theorem dX5_ofPool_65 : decode cX5_ofPool 65 = .ok (.invokevirtual 99, 3) := by decide +kernel
theorem dX5_ofPool_68 : decode cX5_ofPool 68 = .ok (.ireturn, 1) := by decide +kernel
theorem dX5_ofPool_69 : decode cX5_ofPool 69 = .ok (.aload_n 0, 1) := by decide +kernel
theorem dX5_ofPool_70 : decode cX5_ofPool 70 = .ok (.getfield 42, 3) := by decide +kernel
theorem dX5_ofPool_73 : decode cX5_ofPool 73 = .ok (.iload_n 1, 1) := by decide +kernel
theorem dX5_ofPool_74 : decode cX5_ofPool 74 = .ok (.invokevirtual 102, 3) := by decide +kernel
theorem dX5_ofPool_77 : decode cX5_ofPool 77 = .ok (.ireturn, 1) := by decide +kernel
theorem dX5_ofPool_78 : decode cX5_ofPool 78 = .ok (.bipush (-2), 2) := by decide +kernel
theorem dX5_ofPool_80 : decode cX5_ofPool 80 = .ok (.ireturn, 1) := by decide +kernel
theorem dX5_ofMember_0 : decode cX5_ofMember 0 = .ok (.aload_n 0, 1) := by decide +kernel
theorem dX5_ofMember_1 : decode cX5_ofMember 1 = .ok (.iload_n 1, 1) := by decide +kernel
theorem dX5_ofMember_2 : decode cX5_ofMember 2 = .ok (.invokevirtual 105, 3) := by decide +kernel
theorem dX5_ofMember_5 : decode cX5_ofMember 5 = .ok (.ifCond .ne 5, 3) := by decide +kernel
theorem dX5_ofMember_8 : decode cX5_ofMember 8 = .ok (.iconst (-1), 1) := by decide +kernel
theorem dX5_ofMember_9 : decode cX5_ofMember 9 = .ok (.ireturn, 1) := by decide +kernel
theorem dX5_ofMember_10 : decode cX5_ofMember 10 = .ok (.iload_n 2, 1) := by decide +kernel
theorem dX5_ofMember_11 : decode cX5_ofMember 11 = .ok (.tableswitch 76 0 3 #[29, 39, 49, 59], 29) := by decide +kernel
theorem dX5_ofMember_40 : decode cX5_ofMember 40 = .ok (.aload_n 0, 1) := by decide +kernel
theorem dX5_ofMember_41 : decode cX5_ofMember 41 = .ok (.getfield 42, 3) := by decide +kernel
theorem dX5_ofMember_44 : decode cX5_ofMember 44 = .ok (.getfield 108, 3) := by decide +kernel
theorem dX5_ofMember_47 : decode cX5_ofMember 47 = .ok (.iload_n 1, 1) := by decide +kernel
theorem dX5_ofMember_48 : decode cX5_ofMember 48 = .ok (.iaload, 1) := by decide +kernel
theorem dX5_ofMember_49 : decode cX5_ofMember 49 = .ok (.ireturn, 1) := by decide +kernel
theorem dX5_ofMember_50 : decode cX5_ofMember 50 = .ok (.aload_n 0, 1) := by decide +kernel
theorem dX5_ofMember_51 : decode cX5_ofMember 51 = .ok (.getfield 42, 3) := by decide +kernel
theorem dX5_ofMember_54 : decode cX5_ofMember 54 = .ok (.getfield 111, 3) := by decide +kernel
theorem dX5_ofMember_57 : decode cX5_ofMember 57 = .ok (.iload_n 1, 1) := by decide +kernel
theorem dX5_ofMember_58 : decode cX5_ofMember 58 = .ok (.iaload, 1) := by decide +kernel
theorem dX5_ofMember_59 : decode cX5_ofMember 59 = .ok (.ireturn, 1) := by decide +kernel
theorem dX5_ofMember_60 : decode cX5_ofMember 60 = .ok (.aload_n 0, 1) := by decide +kernel
theorem dX5_ofMember_61 : decode cX5_ofMember 61 = .ok (.getfield 42, 3) := by decide +kernel
theorem dX5_ofMember_64 : decode cX5_ofMember 64 = .ok (.getfield 114, 3) := by decide +kernel
theorem dX5_ofMember_67 : decode cX5_ofMember 67 = .ok (.iload_n 1, 1) := by decide +kernel
theorem dX5_ofMember_68 : decode cX5_ofMember 68 = .ok (.iaload, 1) := by decide +kernel
theorem dX5_ofMember_69 : decode cX5_ofMember 69 = .ok (.ireturn, 1) := by decide +kernel
theorem dX5_ofMember_70 : decode cX5_ofMember 70 = .ok (.aload_n 0, 1) := by decide +kernel
theorem dX5_ofMember_71 : decode cX5_ofMember 71 = .ok (.getfield 42, 3) := by decide +kernel
theorem dX5_ofMember_74 : decode cX5_ofMember 74 = .ok (.aload_n 0, 1) := by decide +kernel
theorem dX5_ofMember_75 : decode cX5_ofMember 75 = .ok (.getfield 42, 3) := by decide +kernel
theorem dX5_ofMember_78 : decode cX5_ofMember 78 = .ok (.getfield 108, 3) := by decide +kernel
theorem dX5_ofMember_81 : decode cX5_ofMember 81 = .ok (.iload_n 1, 1) := by decide +kernel
theorem dX5_ofMember_82 : decode cX5_ofMember 82 = .ok (.iaload, 1) := by decide +kernel
theorem dX5_ofMember_83 : decode cX5_ofMember 83 = .ok (.invokevirtual 117, 3) := by decide +kernel
theorem dX5_ofMember_86 : decode cX5_ofMember 86 = .ok (.ireturn, 1) := by decide +kernel
theorem dX5_ofMember_87 : decode cX5_ofMember 87 = .ok (.bipush (-2), 2) := by decide +kernel
theorem dX5_ofMember_89 : decode cX5_ofMember 89 = .ok (.ireturn, 1) := by decide +kernel
theorem dX5_raise_0 : decode cX5_raise 0 = .ok (.aload_n 0, 1) := by decide +kernel
theorem dX5_raise_1 : decode cX5_raise 1 = .ok (.iload_n 1, 1) := by decide +kernel
theorem dX5_raise_2 : decode cX5_raise 2 = .ok (.invokevirtual 89, 3) := by decide +kernel
theorem dX5_raise_5 : decode cX5_raise 5 = .ok (.ifCond .ne 5, 3) := by decide +kernel
theorem dX5_raise_8 : decode cX5_raise 8 = .ok (.iconst (-1), 1) := by decide +kernel
theorem dX5_raise_9 : decode cX5_raise 9 = .ok (.ireturn, 1) := by decide +kernel
theorem dX5_raise_10 : decode cX5_raise 10 = .ok (.iload_n 2, 1) := by decide +kernel
theorem dX5_raise_11 : decode cX5_raise 11 = .ok (.iconst 1, 1) := by decide +kernel
theorem dX5_raise_12 : decode cX5_raise 12 = .ok (.bipush 9, 2) := by decide +kernel
theorem dX5_raise_14 : decode cX5_raise 14 = .ok (.invokestatic 120, 3) := by decide +kernel
theorem dX5_raise_17 : decode cX5_raise 17 = .ok (.ifCond .ne 6, 3) := by decide +kernel
theorem dX5_raise_20 : decode cX5_raise 20 = .ok (.bipush (-2), 2) := by decide +kernel
theorem dX5_raise_22 : decode cX5_raise 22 = .ok (.ireturn, 1) := by decide +kernel
theorem dX5_raise_23 : decode cX5_raise 23 = .ok (.aload_n 0, 1) := by decide +kernel
theorem dX5_raise_24 : decode cX5_raise 24 = .ok (.getfield 42, 3) := by decide +kernel
theorem dX5_raise_27 : decode cX5_raise 27 = .ok (.getfield 92, 3) := by decide +kernel
theorem dX5_raise_30 : decode cX5_raise 30 = .ok (.iload_n 1, 1) := by decide +kernel
theorem dX5_raise_31 : decode cX5_raise 31 = .ok (.iaload, 1) := by decide +kernel
theorem dX5_raise_32 : decode cX5_raise 32 = .ok (.istore_n 3, 1) := by decide +kernel
theorem dX5_raise_33 : decode cX5_raise 33 = .ok (.aload_n 0, 1) := by decide +kernel
theorem dX5_raise_34 : decode cX5_raise 34 = .ok (.getfield 42, 3) := by decide +kernel
theorem dX5_raise_37 : decode cX5_raise 37 = .ok (.getfield 92, 3) := by decide +kernel
theorem dX5_raise_40 : decode cX5_raise 40 = .ok (.iload_n 1, 1) := by decide +kernel
theorem dX5_raise_41 : decode cX5_raise 41 = .ok (.iload_n 2, 1) := by decide +kernel
theorem dX5_raise_42 : decode cX5_raise 42 = .ok (.iastore, 1) := by decide +kernel
theorem dX5_raise_43 : decode cX5_raise 43 = .ok (.iload_n 3, 1) := by decide +kernel
theorem dX5_raise_44 : decode cX5_raise 44 = .ok (.ireturn, 1) := by decide +kernel
theorem dX5_sway_0 : decode cX5_sway 0 = .ok (.aload_n 0, 1) := by decide +kernel
theorem dX5_sway_1 : decode cX5_sway 1 = .ok (.iload_n 1, 1) := by decide +kernel
theorem dX5_sway_2 : decode cX5_sway 2 = .ok (.invokevirtual 105, 3) := by decide +kernel
theorem dX5_sway_5 : decode cX5_sway 5 = .ok (.ifCond .ne 5, 3) := by decide +kernel
theorem dX5_sway_8 : decode cX5_sway 8 = .ok (.iconst (-1), 1) := by decide +kernel
theorem dX5_sway_9 : decode cX5_sway 9 = .ok (.ireturn, 1) := by decide +kernel
theorem dX5_sway_10 : decode cX5_sway 10 = .ok (.iload_n 2, 1) := by decide +kernel
theorem dX5_sway_11 : decode cX5_sway 11 = .ok (.invokestatic 124, 3) := by decide +kernel
theorem dX5_sway_14 : decode cX5_sway 14 = .ok (.ifCond .ne 6, 3) := by decide +kernel
theorem dX5_sway_17 : decode cX5_sway 17 = .ok (.bipush (-2), 2) := by decide +kernel
theorem dX5_sway_19 : decode cX5_sway 19 = .ok (.ireturn, 1) := by decide +kernel
theorem dX5_sway_20 : decode cX5_sway 20 = .ok (.aload_n 0, 1) := by decide +kernel
theorem dX5_sway_21 : decode cX5_sway 21 = .ok (.getfield 42, 3) := by decide +kernel
theorem dX5_sway_24 : decode cX5_sway 24 = .ok (.getfield 114, 3) := by decide +kernel
theorem dX5_sway_27 : decode cX5_sway 27 = .ok (.iload_n 1, 1) := by decide +kernel
theorem dX5_sway_28 : decode cX5_sway 28 = .ok (.iaload, 1) := by decide +kernel
theorem dX5_sway_29 : decode cX5_sway 29 = .ok (.istore_n 3, 1) := by decide +kernel
theorem dX5_sway_30 : decode cX5_sway 30 = .ok (.aload_n 0, 1) := by decide +kernel
theorem dX5_sway_31 : decode cX5_sway 31 = .ok (.getfield 42, 3) := by decide +kernel
theorem dX5_sway_34 : decode cX5_sway 34 = .ok (.getfield 114, 3) := by decide +kernel
theorem dX5_sway_37 : decode cX5_sway 37 = .ok (.iload_n 1, 1) := by decide +kernel
theorem dX5_sway_38 : decode cX5_sway 38 = .ok (.iload_n 2, 1) := by decide +kernel
theorem dX5_sway_39 : decode cX5_sway 39 = .ok (.iastore, 1) := by decide +kernel
theorem dX5_sway_40 : decode cX5_sway 40 = .ok (.iload_n 3, 1) := by decide +kernel
theorem dX5_sway_41 : decode cX5_sway 41 = .ok (.ireturn, 1) := by decide +kernel
theorem dX5_seat_0 : decode cX5_seat 0 = .ok (.aload_n 0, 1) := by decide +kernel
theorem dX5_seat_1 : decode cX5_seat 1 = .ok (.iload_n 1, 1) := by decide +kernel
theorem dX5_seat_2 : decode cX5_seat 2 = .ok (.invokevirtual 105, 3) := by decide +kernel
theorem dX5_seat_5 : decode cX5_seat 5 = .ok (.ifCond .eq 11, 3) := by decide +kernel
theorem dX5_seat_8 : decode cX5_seat 8 = .ok (.aload_n 0, 1) := by decide +kernel
theorem dX5_seat_9 : decode cX5_seat 9 = .ok (.iload_n 2, 1) := by decide +kernel
theorem dX5_seat_10 : decode cX5_seat 10 = .ok (.invokevirtual 89, 3) := by decide +kernel
theorem dX5_seat_13 : decode cX5_seat 13 = .ok (.ifCond .ne 5, 3) := by decide +kernel
theorem dX5_seat_16 : decode cX5_seat 16 = .ok (.iconst (-1), 1) := by decide +kernel
theorem dX5_seat_17 : decode cX5_seat 17 = .ok (.ireturn, 1) := by decide +kernel
theorem dX5_seat_18 : decode cX5_seat 18 = .ok (.aload_n 0, 1) := by decide +kernel
theorem dX5_seat_19 : decode cX5_seat 19 = .ok (.getfield 42, 3) := by decide +kernel
theorem dX5_seat_22 : decode cX5_seat 22 = .ok (.getfield 111, 3) := by decide +kernel
theorem dX5_seat_25 : decode cX5_seat 25 = .ok (.iload_n 1, 1) := by decide +kernel
theorem dX5_seat_26 : decode cX5_seat 26 = .ok (.iaload, 1) := by decide +kernel
theorem dX5_seat_27 : decode cX5_seat 27 = .ok (.istore_n 3, 1) := by decide +kernel
theorem dX5_seat_28 : decode cX5_seat 28 = .ok (.aload_n 0, 1) := by decide +kernel
theorem dX5_seat_29 : decode cX5_seat 29 = .ok (.getfield 42, 3) := by decide +kernel
theorem dX5_seat_32 : decode cX5_seat 32 = .ok (.getfield 111, 3) := by decide +kernel
theorem dX5_seat_35 : decode cX5_seat 35 = .ok (.iload_n 1, 1) := by decide +kernel
theorem dX5_seat_36 : decode cX5_seat 36 = .ok (.iload_n 2, 1) := by decide +kernel
theorem dX5_seat_37 : decode cX5_seat 37 = .ok (.iastore, 1) := by decide +kernel
theorem dX5_seat_38 : decode cX5_seat 38 = .ok (.iload_n 3, 1) := by decide +kernel
theorem dX5_seat_39 : decode cX5_seat 39 = .ok (.ireturn, 1) := by decide +kernel
theorem dX5_flow_0 : decode cX5_flow 0 = .ok (.aload_n 0, 1) := by decide +kernel
theorem dX5_flow_1 : decode cX5_flow 1 = .ok (.iload_n 1, 1) := by decide +kernel
theorem dX5_flow_2 : decode cX5_flow 2 = .ok (.iconst 1, 1) := by decide +kernel
theorem dX5_flow_3 : decode cX5_flow 3 = .ok (.iconst 3, 1) := by decide +kernel
theorem dX5_flow_4 : decode cX5_flow 4 = .ok (.invokestatic 120, 3) := by decide +kernel
theorem dX5_flow_7 : decode cX5_flow 7 = .ok (.invokevirtual 127, 3) := by decide +kernel
theorem dX5_flow_10 : decode cX5_flow 10 = .ok (.istore_n 2, 1) := by decide +kernel
theorem dX5_flow_11 : decode cX5_flow 11 = .ok (.iload_n 2, 1) := by decide +kernel
theorem dX5_flow_12 : decode cX5_flow 12 = .ok (.ifCond .eq 5, 3) := by decide +kernel
theorem dX5_flow_15 : decode cX5_flow 15 = .ok (.iload_n 2, 1) := by decide +kernel
theorem dX5_flow_16 : decode cX5_flow 16 = .ok (.ireturn, 1) := by decide +kernel
theorem dX5_flow_17 : decode cX5_flow 17 = .ok (.aload_n 0, 1) := by decide +kernel
theorem dX5_flow_18 : decode cX5_flow 18 = .ok (.getfield 42, 3) := by decide +kernel
theorem dX5_flow_21 : decode cX5_flow 21 = .ok (.getfield 131, 3) := by decide +kernel
theorem dX5_flow_24 : decode cX5_flow 24 = .ok (.istore_n 3, 1) := by decide +kernel
theorem dX5_flow_25 : decode cX5_flow 25 = .ok (.aload_n 0, 1) := by decide +kernel
theorem dX5_flow_26 : decode cX5_flow 26 = .ok (.getfield 42, 3) := by decide +kernel
theorem dX5_flow_29 : decode cX5_flow 29 = .ok (.iload_n 1, 1) := by decide +kernel
theorem dX5_flow_30 : decode cX5_flow 30 = .ok (.putfield 131, 3) := by decide +kernel
theorem dX5_flow_33 : decode cX5_flow 33 = .ok (.iload_n 3, 1) := by decide +kernel
theorem dX5_flow_34 : decode cX5_flow 34 = .ok (.ireturn, 1) := by decide +kernel
theorem dX5_calm_0 : decode cX5_calm 0 = .ok (.aload_n 0, 1) := by decide +kernel
theorem dX5_calm_1 : decode cX5_calm 1 = .ok (.iload_n 1, 1) := by decide +kernel
theorem dX5_calm_2 : decode cX5_calm 2 = .ok (.invokestatic 124, 3) := by decide +kernel
theorem dX5_calm_5 : decode cX5_calm 5 = .ok (.invokevirtual 127, 3) := by decide +kernel
theorem dX5_calm_8 : decode cX5_calm 8 = .ok (.istore_n 2, 1) := by decide +kernel
theorem dX5_calm_9 : decode cX5_calm 9 = .ok (.iload_n 2, 1) := by decide +kernel
theorem dX5_calm_10 : decode cX5_calm 10 = .ok (.ifCond .eq 5, 3) := by decide +kernel
theorem dX5_calm_13 : decode cX5_calm 13 = .ok (.iload_n 2, 1) := by decide +kernel
theorem dX5_calm_14 : decode cX5_calm 14 = .ok (.ireturn, 1) := by decide +kernel
theorem dX5_calm_15 : decode cX5_calm 15 = .ok (.aload_n 0, 1) := by decide +kernel
theorem dX5_calm_16 : decode cX5_calm 16 = .ok (.getfield 42, 3) := by decide +kernel
theorem dX5_calm_19 : decode cX5_calm 19 = .ok (.getfield 134, 3) := by decide +kernel
theorem dX5_calm_22 : decode cX5_calm 22 = .ok (.istore_n 3, 1) := by decide +kernel
theorem dX5_calm_23 : decode cX5_calm 23 = .ok (.aload_n 0, 1) := by decide +kernel
theorem dX5_calm_24 : decode cX5_calm 24 = .ok (.getfield 42, 3) := by decide +kernel
theorem dX5_calm_27 : decode cX5_calm 27 = .ok (.iload_n 1, 1) := by decide +kernel
theorem dX5_calm_28 : decode cX5_calm 28 = .ok (.putfield 134, 3) := by decide +kernel
theorem dX5_calm_31 : decode cX5_calm 31 = .ok (.iload_n 3, 1) := by decide +kernel
theorem dX5_calm_32 : decode cX5_calm 32 = .ok (.ireturn, 1) := by decide +kernel
theorem dX5_leap_0 : decode cX5_leap 0 = .ok (.aload_n 0, 1) := by decide +kernel
theorem dX5_leap_1 : decode cX5_leap 1 = .ok (.iload_n 1, 1) := by decide +kernel
theorem dX5_leap_2 : decode cX5_leap 2 = .ok (.invokestatic 124, 3) := by decide +kernel
theorem dX5_leap_5 : decode cX5_leap 5 = .ok (.invokevirtual 127, 3) := by decide +kernel
theorem dX5_leap_8 : decode cX5_leap 8 = .ok (.istore_n 2, 1) := by decide +kernel
theorem dX5_leap_9 : decode cX5_leap 9 = .ok (.iload_n 2, 1) := by decide +kernel
theorem dX5_leap_10 : decode cX5_leap 10 = .ok (.ifCond .eq 5, 3) := by decide +kernel
theorem dX5_leap_13 : decode cX5_leap 13 = .ok (.iload_n 2, 1) := by decide +kernel
theorem dX5_leap_14 : decode cX5_leap 14 = .ok (.ireturn, 1) := by decide +kernel
theorem dX5_leap_15 : decode cX5_leap 15 = .ok (.aload_n 0, 1) := by decide +kernel
theorem dX5_leap_16 : decode cX5_leap 16 = .ok (.getfield 42, 3) := by decide +kernel
theorem dX5_leap_19 : decode cX5_leap 19 = .ok (.getfield 137, 3) := by decide +kernel
theorem dX5_leap_22 : decode cX5_leap 22 = .ok (.istore_n 3, 1) := by decide +kernel
theorem dX5_leap_23 : decode cX5_leap 23 = .ok (.aload_n 0, 1) := by decide +kernel
theorem dX5_leap_24 : decode cX5_leap 24 = .ok (.getfield 42, 3) := by decide +kernel
theorem dX5_leap_27 : decode cX5_leap 27 = .ok (.iload_n 1, 1) := by decide +kernel
theorem dX5_leap_28 : decode cX5_leap 28 = .ok (.putfield 137, 3) := by decide +kernel
theorem dX5_leap_31 : decode cX5_leap 31 = .ok (.iload_n 3, 1) := by decide +kernel
theorem dX5_leap_32 : decode cX5_leap 32 = .ok (.ireturn, 1) := by decide +kernel
theorem dX5_washed_0 : decode cX5_washed 0 = .ok (.aload_n 0, 1) := by decide +kernel
theorem dX5_washed_1 : decode cX5_washed 1 = .ok (.iload_n 1, 1) := by decide +kernel
theorem dX5_washed_2 : decode cX5_washed 2 = .ok (.invokestatic 124, 3) := by decide +kernel
theorem dX5_washed_5 : decode cX5_washed 5 = .ok (.invokevirtual 127, 3) := by decide +kernel
theorem dX5_washed_8 : decode cX5_washed 8 = .ok (.istore_n 2, 1) := by decide +kernel
theorem dX5_washed_9 : decode cX5_washed 9 = .ok (.iload_n 2, 1) := by decide +kernel
theorem dX5_washed_10 : decode cX5_washed 10 = .ok (.ifCond .eq 7, 3) := by decide +kernel
theorem dX5_washed_13 : decode cX5_washed 13 = .ok (.iload_n 2, 1) := by decide +kernel
theorem dX5_washed_14 : decode cX5_washed 14 = .ok (.goto 11, 3) := by decide +kernel
theorem dX5_washed_17 : decode cX5_washed 17 = .ok (.aload_n 0, 1) := by decide +kernel
theorem dX5_washed_18 : decode cX5_washed 18 = .ok (.getfield 42, 3) := by decide +kernel
theorem dX5_washed_21 : decode cX5_washed 21 = .ok (.iload_n 1, 1) := by decide +kernel
theorem dX5_washed_22 : decode cX5_washed 22 = .ok (.invokevirtual 140, 3) := by decide +kernel
theorem dX5_washed_25 : decode cX5_washed 25 = .ok (.ireturn, 1) := by decide +kernel
theorem dX5_carried_0 : decode cX5_carried 0 = .ok (.aload_n 0, 1) := by decide +kernel
theorem dX5_carried_1 : decode cX5_carried 1 = .ok (.iload_n 1, 1) := by decide +kernel
theorem dX5_carried_2 : decode cX5_carried 2 = .ok (.invokevirtual 105, 3) := by decide +kernel
theorem dX5_carried_5 : decode cX5_carried 5 = .ok (.ifCond .ne 5, 3) := by decide +kernel
theorem dX5_carried_8 : decode cX5_carried 8 = .ok (.iconst (-1), 1) := by decide +kernel
theorem dX5_carried_9 : decode cX5_carried 9 = .ok (.ireturn, 1) := by decide +kernel
theorem dX5_carried_10 : decode cX5_carried 10 = .ok (.iload_n 2, 1) := by decide +kernel
theorem dX5_carried_11 : decode cX5_carried 11 = .ok (.invokestatic 124, 3) := by decide +kernel
theorem dX5_carried_14 : decode cX5_carried 14 = .ok (.ifCond .eq 15, 3) := by decide +kernel
theorem dX5_carried_17 : decode cX5_carried 17 = .ok (.aload_n 0, 1) := by decide +kernel
theorem dX5_carried_18 : decode cX5_carried 18 = .ok (.getfield 42, 3) := by decide +kernel
theorem dX5_carried_21 : decode cX5_carried 21 = .ok (.iload_n 1, 1) := by decide +kernel
theorem dX5_carried_22 : decode cX5_carried 22 = .ok (.iload_n 2, 1) := by decide +kernel
theorem dX5_carried_23 : decode cX5_carried 23 = .ok (.invokevirtual 143, 3) := by decide +kernel
theorem dX5_carried_26 : decode cX5_carried 26 = .ok (.goto 5, 3) := by decide +kernel
theorem dX5_carried_29 : decode cX5_carried 29 = .ok (.bipush (-2), 2) := by decide +kernel
theorem dX5_carried_31 : decode cX5_carried 31 = .ok (.ireturn, 1) := by decide +kernel
theorem dX5_tide_0 : decode cX5_tide 0 = .ok (.aload_n 0, 1) := by decide +kernel
theorem dX5_tide_1 : decode cX5_tide 1 = .ok (.iload_n 1, 1) := by decide +kernel
theorem dX5_tide_2 : decode cX5_tide 2 = .ok (.invokestatic 124, 3) := by decide +kernel
theorem dX5_tide_5 : decode cX5_tide 5 = .ok (.invokevirtual 127, 3) := by decide +kernel
theorem dX5_tide_8 : decode cX5_tide 8 = .ok (.istore_n 2, 1) := by decide +kernel
theorem dX5_tide_9 : decode cX5_tide 9 = .ok (.iload_n 2, 1) := by decide +kernel
theorem dX5_tide_10 : decode cX5_tide 10 = .ok (.ifCond .eq 7, 3) := by decide +kernel
theorem dX5_tide_13 : decode cX5_tide 13 = .ok (.iload_n 2, 1) := by decide +kernel
theorem dX5_tide_14 : decode cX5_tide 14 = .ok (.goto 11, 3) := by decide +kernel
theorem dX5_tide_17 : decode cX5_tide 17 = .ok (.aload_n 0, 1) := by decide +kernel
theorem dX5_tide_18 : decode cX5_tide 18 = .ok (.getfield 42, 3) := by decide +kernel
theorem dX5_tide_21 : decode cX5_tide 21 = .ok (.iload_n 1, 1) := by decide +kernel
theorem dX5_tide_22 : decode cX5_tide 22 = .ok (.invokevirtual 147, 3) := by decide +kernel
theorem dX5_tide_25 : decode cX5_tide 25 = .ok (.ireturn, 1) := by decide +kernel
theorem dX5_ayes_0 : decode cX5_ayes 0 = .ok (.aload_n 0, 1) := by decide +kernel
theorem dX5_ayes_1 : decode cX5_ayes 1 = .ok (.iload_n 1, 1) := by decide +kernel
theorem dX5_ayes_2 : decode cX5_ayes 2 = .ok (.invokestatic 124, 3) := by decide +kernel
theorem dX5_ayes_5 : decode cX5_ayes 5 = .ok (.invokevirtual 127, 3) := by decide +kernel
theorem dX5_ayes_8 : decode cX5_ayes 8 = .ok (.istore_n 2, 1) := by decide +kernel
theorem dX5_ayes_9 : decode cX5_ayes 9 = .ok (.iload_n 2, 1) := by decide +kernel
theorem dX5_ayes_10 : decode cX5_ayes 10 = .ok (.ifCond .eq 7, 3) := by decide +kernel
theorem dX5_ayes_13 : decode cX5_ayes 13 = .ok (.iload_n 2, 1) := by decide +kernel
theorem dX5_ayes_14 : decode cX5_ayes 14 = .ok (.goto 11, 3) := by decide +kernel
theorem dX5_ayes_17 : decode cX5_ayes 17 = .ok (.aload_n 0, 1) := by decide +kernel
theorem dX5_ayes_18 : decode cX5_ayes 18 = .ok (.getfield 42, 3) := by decide +kernel
theorem dX5_ayes_21 : decode cX5_ayes 21 = .ok (.iload_n 1, 1) := by decide +kernel
theorem dX5_ayes_22 : decode cX5_ayes 22 = .ok (.invokevirtual 150, 3) := by decide +kernel
theorem dX5_ayes_25 : decode cX5_ayes 25 = .ok (.ireturn, 1) := by decide +kernel
theorem dX5_passes_0 : decode cX5_passes 0 = .ok (.aload_n 0, 1) := by decide +kernel
theorem dX5_passes_1 : decode cX5_passes 1 = .ok (.iload_n 1, 1) := by decide +kernel
theorem dX5_passes_2 : decode cX5_passes 2 = .ok (.invokestatic 124, 3) := by decide +kernel
theorem dX5_passes_5 : decode cX5_passes 5 = .ok (.invokevirtual 127, 3) := by decide +kernel
theorem dX5_passes_8 : decode cX5_passes 8 = .ok (.istore_n 2, 1) := by decide +kernel
theorem dX5_passes_9 : decode cX5_passes 9 = .ok (.iload_n 2, 1) := by decide +kernel
theorem dX5_passes_10 : decode cX5_passes 10 = .ok (.ifCond .eq 7, 3) := by decide +kernel
theorem dX5_passes_13 : decode cX5_passes 13 = .ok (.iload_n 2, 1) := by decide +kernel
theorem dX5_passes_14 : decode cX5_passes 14 = .ok (.goto 18, 3) := by decide +kernel
theorem dX5_passes_17 : decode cX5_passes 17 = .ok (.aload_n 0, 1) := by decide +kernel
theorem dX5_passes_18 : decode cX5_passes 18 = .ok (.getfield 42, 3) := by decide +kernel
theorem dX5_passes_21 : decode cX5_passes 21 = .ok (.aload_n 0, 1) := by decide +kernel
theorem dX5_passes_22 : decode cX5_passes 22 = .ok (.getfield 42, 3) := by decide +kernel
theorem dX5_passes_25 : decode cX5_passes 25 = .ok (.iload_n 1, 1) := by decide +kernel
theorem dX5_passes_26 : decode cX5_passes 26 = .ok (.invokevirtual 150, 3) := by decide +kernel
theorem dX5_passes_29 : decode cX5_passes 29 = .ok (.invokevirtual 153, 3) := by decide +kernel
theorem dX5_passes_32 : decode cX5_passes 32 = .ok (.ireturn, 1) := by decide +kernel
theorem dX5_law_0 : decode cX5_law 0 = .ok (.aload_n 0, 1) := by decide +kernel
theorem dX5_law_1 : decode cX5_law 1 = .ok (.iload_n 1, 1) := by decide +kernel
theorem dX5_law_2 : decode cX5_law 2 = .ok (.invokestatic 124, 3) := by decide +kernel
theorem dX5_law_5 : decode cX5_law 5 = .ok (.invokevirtual 127, 3) := by decide +kernel
theorem dX5_law_8 : decode cX5_law 8 = .ok (.istore_n 2, 1) := by decide +kernel
theorem dX5_law_9 : decode cX5_law 9 = .ok (.iload_n 2, 1) := by decide +kernel
theorem dX5_law_10 : decode cX5_law 10 = .ok (.ifCond .eq 7, 3) := by decide +kernel
theorem dX5_law_13 : decode cX5_law 13 = .ok (.iload_n 2, 1) := by decide +kernel
theorem dX5_law_14 : decode cX5_law 14 = .ok (.goto 21, 3) := by decide +kernel
theorem dX5_law_17 : decode cX5_law 17 = .ok (.aload_n 0, 1) := by decide +kernel
theorem dX5_law_18 : decode cX5_law 18 = .ok (.getfield 42, 3) := by decide +kernel
theorem dX5_law_21 : decode cX5_law 21 = .ok (.aload_n 0, 1) := by decide +kernel
theorem dX5_law_22 : decode cX5_law 22 = .ok (.getfield 42, 3) := by decide +kernel
theorem dX5_law_25 : decode cX5_law 25 = .ok (.iload_n 1, 1) := by decide +kernel
theorem dX5_law_26 : decode cX5_law 26 = .ok (.invokevirtual 150, 3) := by decide +kernel
theorem dX5_law_29 : decode cX5_law 29 = .ok (.invokevirtual 156, 3) := by decide +kernel
theorem dX5_law_32 : decode cX5_law 32 = .ok (.invokestatic 159, 3) := by decide +kernel
theorem dX5_law_35 : decode cX5_law 35 = .ok (.ireturn, 1) := by decide +kernel
theorem dX5_year_0 : decode cX5_year 0 = .ok (.aload_n 0, 1) := by decide +kernel
theorem dX5_year_1 : decode cX5_year 1 = .ok (.iload_n 1, 1) := by decide +kernel
theorem dX5_year_2 : decode cX5_year 2 = .ok (.iload_n 2, 1) := by decide +kernel
theorem dX5_year_3 : decode cX5_year 3 = .ok (.iload_n 3, 1) := by decide +kernel
theorem dX5_year_4 : decode cX5_year 4 = .ok (.iload 4, 2) := by decide +kernel
theorem dX5_year_6 : decode cX5_year 6 = .ok (.iload 5, 2) := by decide +kernel
theorem dX5_year_8 : decode cX5_year 8 = .ok (.invokestatic 162, 3) := by decide +kernel
theorem dX5_year_11 : decode cX5_year 11 = .ok (.invokevirtual 165, 3) := by decide +kernel
theorem dX5_year_14 : decode cX5_year 14 = .ok (.istore 6, 2) := by decide +kernel
theorem dX5_year_16 : decode cX5_year 16 = .ok (.iload 6, 2) := by decide +kernel
theorem dX5_year_18 : decode cX5_year 18 = .ok (.ifCond .eq 6, 3) := by decide +kernel
theorem dX5_year_21 : decode cX5_year 21 = .ok (.iload 6, 2) := by decide +kernel
theorem dX5_year_23 : decode cX5_year 23 = .ok (.ireturn, 1) := by decide +kernel
theorem dX5_year_24 : decode cX5_year 24 = .ok (.aload_n 0, 1) := by decide +kernel
theorem dX5_year_25 : decode cX5_year 25 = .ok (.getfield 13, 3) := by decide +kernel
theorem dX5_year_28 : decode cX5_year 28 = .ok (.iload_n 1, 1) := by decide +kernel
theorem dX5_year_29 : decode cX5_year 29 = .ok (.aaload, 1) := by decide +kernel
theorem dX5_year_30 : decode cX5_year 30 = .ok (.iload_n 3, 1) := by decide +kernel
theorem dX5_year_31 : decode cX5_year 31 = .ok (.iload 4, 2) := by decide +kernel
theorem dX5_year_33 : decode cX5_year 33 = .ok (.bipush 9, 2) := by decide +kernel
theorem dX5_year_35 : decode cX5_year 35 = .ok (.invokevirtual 169, 3) := by decide +kernel
theorem dX5_year_38 : decode cX5_year 38 = .ok (.ifCond .ne 6, 3) := by decide +kernel
theorem dX5_year_41 : decode cX5_year 41 = .ok (.bipush (-2), 2) := by decide +kernel
theorem dX5_year_43 : decode cX5_year 43 = .ok (.ireturn, 1) := by decide +kernel
theorem dX5_year_44 : decode cX5_year 44 = .ok (.aload_n 0, 1) := by decide +kernel
theorem dX5_year_45 : decode cX5_year 45 = .ok (.aload_n 0, 1) := by decide +kernel
theorem dX5_year_46 : decode cX5_year 46 = .ok (.getfield 13, 3) := by decide +kernel
theorem dX5_year_49 : decode cX5_year 49 = .ok (.iload_n 1, 1) := by decide +kernel
theorem dX5_year_50 : decode cX5_year 50 = .ok (.aaload, 1) := by decide +kernel
theorem dX5_year_51 : decode cX5_year 51 = .ok (.iload_n 3, 1) := by decide +kernel
theorem dX5_year_52 : decode cX5_year 52 = .ok (.iload 4, 2) := by decide +kernel
theorem dX5_year_54 : decode cX5_year 54 = .ok (.iload 5, 2) := by decide +kernel
theorem dX5_year_56 : decode cX5_year 56 = .ok (.invokevirtual 172, 3) := by decide +kernel
theorem dX5_year_59 : decode cX5_year 59 = .ok (.ireturn, 1) := by decide +kernel
theorem dX5_yearTold_0 : decode cX5_yearTold 0 = .ok (.aload_n 0, 1) := by decide +kernel
theorem dX5_yearTold_1 : decode cX5_yearTold 1 = .ok (.aload_n 1, 1) := by decide +kernel
theorem dX5_yearTold_2 : decode cX5_yearTold 2 = .ok (.iload_n 2, 1) := by decide +kernel
theorem dX5_yearTold_3 : decode cX5_yearTold 3 = .ok (.iload_n 3, 1) := by decide +kernel
theorem dX5_yearTold_4 : decode cX5_yearTold 4 = .ok (.invokevirtual 175, 3) := by decide +kernel
theorem dX5_yearTold_7 : decode cX5_yearTold 7 = .ok (.istore 5, 2) := by decide +kernel
theorem dX5_yearTold_9 : decode cX5_yearTold 9 = .ok (.iload 4, 2) := by decide +kernel
theorem dX5_yearTold_11 : decode cX5_yearTold 11 = .ok (.iconst 1, 1) := by decide +kernel
theorem dX5_yearTold_12 : decode cX5_yearTold 12 = .ok (.if_icmp .ne 6, 3) := by decide +kernel
theorem dX5_yearTold_15 : decode cX5_yearTold 15 = .ok (.iload 5, 2) := by decide +kernel
theorem dX5_yearTold_17 : decode cX5_yearTold 17 = .ok (.ireturn, 1) := by decide +kernel
theorem dX5_yearTold_18 : decode cX5_yearTold 18 = .ok (.iload 5, 2) := by decide +kernel
theorem dX5_yearTold_20 : decode cX5_yearTold 20 = .ok (.bipush (-9), 2) := by decide +kernel
theorem dX5_yearTold_22 : decode cX5_yearTold 22 = .ok (.if_icmp .eq 9, 3) := by decide +kernel
theorem dX5_yearTold_25 : decode cX5_yearTold 25 = .ok (.bipush (-100), 2) := by decide +kernel
theorem dX5_yearTold_27 : decode cX5_yearTold 27 = .ok (.iload 5, 2) := by decide +kernel
theorem dX5_yearTold_29 : decode cX5_yearTold 29 = .ok (.isub, 1) := by decide +kernel
theorem dX5_yearTold_30 : decode cX5_yearTold 30 = .ok (.ireturn, 1) := by decide +kernel
theorem dX5_yearTold_31 : decode cX5_yearTold 31 = .ok (.aload_n 0, 1) := by decide +kernel
theorem dX5_yearTold_32 : decode cX5_yearTold 32 = .ok (.getfield 46, 3) := by decide +kernel
theorem dX5_yearTold_35 : decode cX5_yearTold 35 = .ok (.aload_n 0, 1) := by decide +kernel
theorem dX5_yearTold_36 : decode cX5_yearTold 36 = .ok (.getfield 42, 3) := by decide +kernel
theorem dX5_yearTold_39 : decode cX5_yearTold 39 = .ok (.invokevirtual 179, 3) := by decide +kernel
theorem dX5_yearTold_42 : decode cX5_yearTold 42 = .ok (.iconst 0, 1) := by decide +kernel
theorem dX5_yearTold_43 : decode cX5_yearTold 43 = .ok (.istore 6, 2) := by decide +kernel
theorem dX5_yearTold_45 : decode cX5_yearTold 45 = .ok (.iconst 0, 1) := by decide +kernel
theorem dX5_yearTold_46 : decode cX5_yearTold 46 = .ok (.istore 7, 2) := by decide +kernel
theorem dX5_yearTold_48 : decode cX5_yearTold 48 = .ok (.iload 7, 2) := by decide +kernel
theorem dX5_yearTold_50 : decode cX5_yearTold 50 = .ok (.iload_n 3, 1) := by decide +kernel
theorem dX5_yearTold_51 : decode cX5_yearTold 51 = .ok (.if_icmp .ge 30, 3) := by decide +kernel
theorem dX5_yearTold_54 : decode cX5_yearTold 54 = .ok (.iload 6, 2) := by decide +kernel
theorem dX5_yearTold_56 : decode cX5_yearTold 56 = .ok (.aload_n 0, 1) := by decide +kernel
theorem dX5_yearTold_57 : decode cX5_yearTold 57 = .ok (.getfield 46, 3) := by decide +kernel
theorem dX5_yearTold_60 : decode cX5_yearTold 60 = .ok (.aload_n 1, 1) := by decide +kernel
theorem dX5_yearTold_61 : decode cX5_yearTold 61 = .ok (.getfield 183, 3) := by decide +kernel
theorem dX5_yearTold_64 : decode cX5_yearTold 64 = .ok (.iload_n 2, 1) := by decide +kernel
theorem dX5_yearTold_65 : decode cX5_yearTold 65 = .ok (.iload 7, 2) := by decide +kernel
theorem dX5_yearTold_67 : decode cX5_yearTold 67 = .ok (.iadd, 1) := by decide +kernel
theorem dX5_yearTold_68 : decode cX5_yearTold 68 = .ok (.iaload, 1) := by decide +kernel
theorem dX5_yearTold_69 : decode cX5_yearTold 69 = .ok (.invokevirtual 147, 3) := by decide +kernel
theorem dX5_yearTold_72 : decode cX5_yearTold 72 = .ok (.iadd, 1) := by decide +kernel
theorem dX5_yearTold_73 : decode cX5_yearTold 73 = .ok (.istore 6, 2) := by decide +kernel
theorem dX5_yearTold_75 : decode cX5_yearTold 75 = .ok (.iinc 7 1, 3) := by decide +kernel
theorem dX5_yearTold_78 : decode cX5_yearTold 78 = .ok (.goto (-30), 3) := by decide +kernel
theorem dX5_yearTold_81 : decode cX5_yearTold 81 = .ok (.iload 4, 2) := by decide +kernel
theorem dX5_yearTold_83 : decode cX5_yearTold 83 = .ok (.ifCond .ne 8, 3) := by decide +kernel
theorem dX5_yearTold_86 : decode cX5_yearTold 86 = .ok (.iload 6, 2) := by decide +kernel
theorem dX5_yearTold_88 : decode cX5_yearTold 88 = .ok (.goto 9, 3) := by decide +kernel
theorem dX5_yearTold_91 : decode cX5_yearTold 91 = .ok (.aload_n 0, 1) := by decide +kernel
theorem dX5_yearTold_92 : decode cX5_yearTold 92 = .ok (.iload 4, 2) := by decide +kernel
theorem dX5_yearTold_94 : decode cX5_yearTold 94 = .ok (.invokevirtual 186, 3) := by decide +kernel
theorem dX5_yearTold_97 : decode cX5_yearTold 97 = .ok (.ireturn, 1) := by decide +kernel
theorem dX5_firstWrong_0 : decode cX5_firstWrong 0 = .ok (.iconst 0, 1) := by decide +kernel
theorem dX5_firstWrong_1 : decode cX5_firstWrong 1 = .ok (.istore 4, 2) := by decide +kernel
theorem dX5_firstWrong_3 : decode cX5_firstWrong 3 = .ok (.iload 4, 2) := by decide +kernel
theorem dX5_firstWrong_5 : decode cX5_firstWrong 5 = .ok (.iload_n 3, 1) := by decide +kernel
theorem dX5_firstWrong_6 : decode cX5_firstWrong 6 = .ok (.if_icmp .ge 31, 3) := by decide +kernel
theorem dX5_firstWrong_9 : decode cX5_firstWrong 9 = .ok (.aload_n 0, 1) := by decide +kernel
theorem dX5_firstWrong_10 : decode cX5_firstWrong 10 = .ok (.getfield 42, 3) := by decide +kernel
theorem dX5_firstWrong_13 : decode cX5_firstWrong 13 = .ok (.aload_n 1, 1) := by decide +kernel
theorem dX5_firstWrong_14 : decode cX5_firstWrong 14 = .ok (.getfield 183, 3) := by decide +kernel
theorem dX5_firstWrong_17 : decode cX5_firstWrong 17 = .ok (.iload_n 2, 1) := by decide +kernel
theorem dX5_firstWrong_18 : decode cX5_firstWrong 18 = .ok (.iload 4, 2) := by decide +kernel
theorem dX5_firstWrong_20 : decode cX5_firstWrong 20 = .ok (.iadd, 1) := by decide +kernel
theorem dX5_firstWrong_21 : decode cX5_firstWrong 21 = .ok (.iaload, 1) := by decide +kernel
theorem dX5_firstWrong_22 : decode cX5_firstWrong 22 = .ok (.invokevirtual 140, 3) := by decide +kernel
theorem dX5_firstWrong_25 : decode cX5_firstWrong 25 = .ok (.ifCond .ne 6, 3) := by decide +kernel
theorem dX5_firstWrong_28 : decode cX5_firstWrong 28 = .ok (.iload 4, 2) := by decide +kernel
theorem dX5_firstWrong_30 : decode cX5_firstWrong 30 = .ok (.ireturn, 1) := by decide +kernel
theorem dX5_firstWrong_31 : decode cX5_firstWrong 31 = .ok (.iinc 4 1, 3) := by decide +kernel
theorem dX5_firstWrong_34 : decode cX5_firstWrong 34 = .ok (.goto (-31), 3) := by decide +kernel
theorem dX5_firstWrong_37 : decode cX5_firstWrong 37 = .ok (.bipush (-9), 2) := by decide +kernel
theorem dX5_firstWrong_39 : decode cX5_firstWrong 39 = .ok (.ireturn, 1) := by decide +kernel
theorem dX5_endOfYear_0 : decode cX5_endOfYear 0 = .ok (.iload_n 1, 1) := by decide +kernel
theorem dX5_endOfYear_1 : decode cX5_endOfYear 1 = .ok (.iconst 2, 1) := by decide +kernel
theorem dX5_endOfYear_2 : decode cX5_endOfYear 2 = .ok (.if_icmp .ne 11, 3) := by decide +kernel
theorem dX5_endOfYear_5 : decode cX5_endOfYear 5 = .ok (.aload_n 0, 1) := by decide +kernel
theorem dX5_endOfYear_6 : decode cX5_endOfYear 6 = .ok (.getfield 46, 3) := by decide +kernel
theorem dX5_endOfYear_9 : decode cX5_endOfYear 9 = .ok (.invokevirtual 189, 3) := by decide +kernel
theorem dX5_endOfYear_12 : decode cX5_endOfYear 12 = .ok (.ireturn, 1) := by decide +kernel
theorem dX5_endOfYear_13 : decode cX5_endOfYear 13 = .ok (.iload_n 1, 1) := by decide +kernel
theorem dX5_endOfYear_14 : decode cX5_endOfYear 14 = .ok (.iconst 3, 1) := by decide +kernel
theorem dX5_endOfYear_15 : decode cX5_endOfYear 15 = .ok (.if_icmp .ne 11, 3) := by decide +kernel
theorem dX5_endOfYear_18 : decode cX5_endOfYear 18 = .ok (.aload_n 0, 1) := by decide +kernel
theorem dX5_endOfYear_19 : decode cX5_endOfYear 19 = .ok (.getfield 46, 3) := by decide +kernel
theorem dX5_endOfYear_22 : decode cX5_endOfYear 22 = .ok (.invokevirtual 192, 3) := by decide +kernel
theorem dX5_endOfYear_25 : decode cX5_endOfYear 25 = .ok (.ireturn, 1) := by decide +kernel
theorem dX5_endOfYear_26 : decode cX5_endOfYear 26 = .ok (.iload_n 1, 1) := by decide +kernel
theorem dX5_endOfYear_27 : decode cX5_endOfYear 27 = .ok (.bipush 20, 2) := by decide +kernel
theorem dX5_endOfYear_29 : decode cX5_endOfYear 29 = .ok (.if_icmp .lt 25, 3) := by decide +kernel
theorem dX5_endOfYear_32 : decode cX5_endOfYear 32 = .ok (.aload_n 0, 1) := by decide +kernel
theorem dX5_endOfYear_33 : decode cX5_endOfYear 33 = .ok (.getfield 46, 3) := by decide +kernel
theorem dX5_endOfYear_36 : decode cX5_endOfYear 36 = .ok (.aload_n 0, 1) := by decide +kernel
theorem dX5_endOfYear_37 : decode cX5_endOfYear 37 = .ok (.getfield 46, 3) := by decide +kernel
theorem dX5_endOfYear_40 : decode cX5_endOfYear 40 = .ok (.iload_n 1, 1) := by decide +kernel
theorem dX5_endOfYear_41 : decode cX5_endOfYear 41 = .ok (.bipush 20, 2) := by decide +kernel
theorem dX5_endOfYear_43 : decode cX5_endOfYear 43 = .ok (.isub, 1) := by decide +kernel
theorem dX5_endOfYear_44 : decode cX5_endOfYear 44 = .ok (.invokevirtual 150, 3) := by decide +kernel
theorem dX5_endOfYear_47 : decode cX5_endOfYear 47 = .ok (.invokevirtual 156, 3) := by decide +kernel
theorem dX5_endOfYear_50 : decode cX5_endOfYear 50 = .ok (.invokestatic 159, 3) := by decide +kernel
theorem dX5_endOfYear_53 : decode cX5_endOfYear 53 = .ok (.ireturn, 1) := by decide +kernel
theorem dX5_endOfYear_54 : decode cX5_endOfYear 54 = .ok (.iload_n 1, 1) := by decide +kernel
theorem dX5_endOfYear_55 : decode cX5_endOfYear 55 = .ok (.bipush 10, 2) := by decide +kernel
theorem dX5_endOfYear_57 : decode cX5_endOfYear 57 = .ok (.isub, 1) := by decide +kernel
theorem dX5_endOfYear_58 : decode cX5_endOfYear 58 = .ok (.istore_n 2, 1) := by decide +kernel
theorem dX5_endOfYear_59 : decode cX5_endOfYear 59 = .ok (.aload_n 0, 1) := by decide +kernel
theorem dX5_endOfYear_60 : decode cX5_endOfYear 60 = .ok (.iload_n 2, 1) := by decide +kernel
theorem dX5_endOfYear_61 : decode cX5_endOfYear 61 = .ok (.invokevirtual 105, 3) := by decide +kernel
theorem dX5_endOfYear_64 : decode cX5_endOfYear 64 = .ok (.ifCond .eq 15, 3) := by decide +kernel
theorem dX5_endOfYear_67 : decode cX5_endOfYear 67 = .ok (.aload_n 0, 1) := by decide +kernel
theorem dX5_endOfYear_68 : decode cX5_endOfYear 68 = .ok (.getfield 46, 3) := by decide +kernel
theorem dX5_endOfYear_71 : decode cX5_endOfYear 71 = .ok (.getfield 111, 3) := by decide +kernel
theorem dX5_endOfYear_74 : decode cX5_endOfYear 74 = .ok (.iload_n 2, 1) := by decide +kernel
theorem dX5_endOfYear_75 : decode cX5_endOfYear 75 = .ok (.iaload, 1) := by decide +kernel
theorem dX5_endOfYear_76 : decode cX5_endOfYear 76 = .ok (.goto 5, 3) := by decide +kernel
theorem dX5_endOfYear_79 : decode cX5_endOfYear 79 = .ok (.bipush (-9), 2) := by decide +kernel
theorem dX5_endOfYear_81 : decode cX5_endOfYear 81 = .ok (.ireturn, 1) := by decide +kernel
theorem dX5_best_0 : decode cX5_best 0 = .ok (.aload_n 0, 1) := by decide +kernel
theorem dX5_best_1 : decode cX5_best 1 = .ok (.iload_n 1, 1) := by decide +kernel
theorem dX5_best_2 : decode cX5_best 2 = .ok (.iconst 0, 1) := by decide +kernel
theorem dX5_best_3 : decode cX5_best 3 = .ok (.iconst 1, 1) := by decide +kernel
theorem dX5_best_4 : decode cX5_best 4 = .ok (.invokestatic 120, 3) := by decide +kernel
theorem dX5_best_7 : decode cX5_best 7 = .ok (.invokevirtual 127, 3) := by decide +kernel
theorem dX5_best_10 : decode cX5_best 10 = .ok (.istore_n 2, 1) := by decide +kernel
theorem dX5_best_11 : decode cX5_best 11 = .ok (.iload_n 2, 1) := by decide +kernel
theorem dX5_best_12 : decode cX5_best 12 = .ok (.ifCond .eq 5, 3) := by decide +kernel
theorem dX5_best_15 : decode cX5_best 15 = .ok (.iload_n 2, 1) := by decide +kernel
theorem dX5_best_16 : decode cX5_best 16 = .ok (.ireturn, 1) := by decide +kernel
theorem dX5_best_17 : decode cX5_best 17 = .ok (.iconst 0, 1) := by decide +kernel
theorem dX5_best_18 : decode cX5_best 18 = .ok (.istore_n 3, 1) := by decide +kernel
theorem dX5_best_19 : decode cX5_best 19 = .ok (.iconst (-1), 1) := by decide +kernel
theorem dX5_best_20 : decode cX5_best 20 = .ok (.istore 4, 2) := by decide +kernel
theorem dX5_best_22 : decode cX5_best 22 = .ok (.iconst 0, 1) := by decide +kernel
theorem dX5_best_23 : decode cX5_best 23 = .ok (.istore 5, 2) := by decide +kernel
theorem dX5_best_25 : decode cX5_best 25 = .ok (.iload 5, 2) := by decide +kernel
theorem dX5_best_27 : decode cX5_best 27 = .ok (.bipush 9, 2) := by decide +kernel
theorem dX5_best_29 : decode cX5_best 29 = .ok (.if_icmp .gt 44, 3) := by decide +kernel
theorem dX5_best_32 : decode cX5_best 32 = .ok (.aload_n 0, 1) := by decide +kernel
theorem dX5_best_33 : decode cX5_best 33 = .ok (.getfield 42, 3) := by decide +kernel
theorem dX5_best_36 : decode cX5_best 36 = .ok (.aload_n 0, 1) := by decide +kernel
theorem dX5_best_37 : decode cX5_best 37 = .ok (.getfield 42, 3) := by decide +kernel
theorem dX5_best_40 : decode cX5_best 40 = .ok (.iload 5, 2) := by decide +kernel
theorem dX5_best_42 : decode cX5_best 42 = .ok (.invokevirtual 150, 3) := by decide +kernel
theorem dX5_best_45 : decode cX5_best 45 = .ok (.invokevirtual 153, 3) := by decide +kernel
theorem dX5_best_48 : decode cX5_best 48 = .ok (.invokestatic 195, 3) := by decide +kernel
theorem dX5_best_51 : decode cX5_best 51 = .ok (.istore 6, 2) := by decide +kernel
theorem dX5_best_53 : decode cX5_best 53 = .ok (.iload 6, 2) := by decide +kernel
theorem dX5_best_55 : decode cX5_best 55 = .ok (.iload 4, 2) := by decide +kernel
theorem dX5_best_57 : decode cX5_best 57 = .ok (.if_icmp .le 10, 3) := by decide +kernel
theorem dX5_best_60 : decode cX5_best 60 = .ok (.iload 5, 2) := by decide +kernel
theorem dX5_best_62 : decode cX5_best 62 = .ok (.istore_n 3, 1) := by decide +kernel
theorem dX5_best_63 : decode cX5_best 63 = .ok (.iload 6, 2) := by decide +kernel
theorem dX5_best_65 : decode cX5_best 65 = .ok (.istore 4, 2) := by decide +kernel
theorem dX5_best_67 : decode cX5_best 67 = .ok (.iinc 5 1, 3) := by decide +kernel
theorem dX5_best_70 : decode cX5_best 70 = .ok (.goto (-45), 3) := by decide +kernel
theorem dX5_best_73 : decode cX5_best 73 = .ok (.iload_n 1, 1) := by decide +kernel
theorem dX5_best_74 : decode cX5_best 74 = .ok (.ifCond .ne 7, 3) := by decide +kernel
theorem dX5_best_77 : decode cX5_best 77 = .ok (.iload_n 3, 1) := by decide +kernel
theorem dX5_best_78 : decode cX5_best 78 = .ok (.goto 5, 3) := by decide +kernel
theorem dX5_best_81 : decode cX5_best 81 = .ok (.iload 4, 2) := by decide +kernel
theorem dX5_best_83 : decode cX5_best 83 = .ok (.ireturn, 1) := by decide +kernel
theorem dX5_turn_0 : decode cX5_turn 0 = .ok (.aload_n 0, 1) := by decide +kernel
theorem dX5_turn_1 : decode cX5_turn 1 = .ok (.iload_n 1, 1) := by decide +kernel
theorem dX5_turn_2 : decode cX5_turn 2 = .ok (.invokestatic 124, 3) := by decide +kernel
theorem dX5_turn_5 : decode cX5_turn 5 = .ok (.invokevirtual 127, 3) := by decide +kernel
theorem dX5_turn_8 : decode cX5_turn 8 = .ok (.istore_n 2, 1) := by decide +kernel
theorem dX5_turn_9 : decode cX5_turn 9 = .ok (.iload_n 2, 1) := by decide +kernel
theorem dX5_turn_10 : decode cX5_turn 10 = .ok (.ifCond .eq 7, 3) := by decide +kernel
theorem dX5_turn_13 : decode cX5_turn 13 = .ok (.iload_n 2, 1) := by decide +kernel
theorem dX5_turn_14 : decode cX5_turn 14 = .ok (.goto 15, 3) := by decide +kernel
theorem dX5_turn_17 : decode cX5_turn 17 = .ok (.aload_n 0, 1) := by decide +kernel
theorem dX5_turn_18 : decode cX5_turn 18 = .ok (.aload_n 0, 1) := by decide +kernel
theorem dX5_turn_19 : decode cX5_turn 19 = .ok (.getfield 42, 3) := by decide +kernel
theorem dX5_turn_22 : decode cX5_turn 22 = .ok (.iload_n 1, 1) := by decide +kernel
theorem dX5_turn_23 : decode cX5_turn 23 = .ok (.invokevirtual 150, 3) := by decide +kernel
theorem dX5_turn_26 : decode cX5_turn 26 = .ok (.invokevirtual 200, 3) := by decide +kernel
theorem dX5_turn_29 : decode cX5_turn 29 = .ok (.ireturn, 1) := by decide +kernel
theorem dX5_fewestToTurn_0 : decode cX5_fewestToTurn 0 = .ok (.bipush (-9), 2) := by decide +kernel
theorem dX5_fewestToTurn_2 : decode cX5_fewestToTurn 2 = .ok (.istore_n 2, 1) := by decide +kernel
theorem dX5_fewestToTurn_3 : decode cX5_fewestToTurn 3 = .ok (.iconst 0, 1) := by decide +kernel
theorem dX5_fewestToTurn_4 : decode cX5_fewestToTurn 4 = .ok (.istore_n 3, 1) := by decide +kernel
theorem dX5_fewestToTurn_5 : decode cX5_fewestToTurn 5 = .ok (.iload_n 3, 1) := by decide +kernel
theorem dX5_fewestToTurn_6 : decode cX5_fewestToTurn 6 = .ok (.iconst 1, 1) := by decide +kernel
theorem dX5_fewestToTurn_7 : decode cX5_fewestToTurn 7 = .ok (.aload_n 0, 1) := by decide +kernel
theorem dX5_fewestToTurn_8 : decode cX5_fewestToTurn 8 = .ok (.getfield 42, 3) := by decide +kernel
theorem dX5_fewestToTurn_11 : decode cX5_fewestToTurn 11 = .ok (.getfield 86, 3) := by decide +kernel
theorem dX5_fewestToTurn_14 : decode cX5_fewestToTurn 14 = .ok (.ishl, 1) := by decide +kernel
theorem dX5_fewestToTurn_15 : decode cX5_fewestToTurn 15 = .ok (.if_icmp .ge 47, 3) := by decide +kernel
theorem dX5_fewestToTurn_18 : decode cX5_fewestToTurn 18 = .ok (.iload_n 3, 1) := by decide +kernel
theorem dX5_fewestToTurn_19 : decode cX5_fewestToTurn 19 = .ok (.iload_n 1, 1) := by decide +kernel
theorem dX5_fewestToTurn_20 : decode cX5_fewestToTurn 20 = .ok (.iand, 1) := by decide +kernel
theorem dX5_fewestToTurn_21 : decode cX5_fewestToTurn 21 = .ok (.ifCond .ne 35, 3) := by decide +kernel
theorem dX5_fewestToTurn_24 : decode cX5_fewestToTurn 24 = .ok (.aload_n 0, 1) := by decide +kernel
theorem dX5_fewestToTurn_25 : decode cX5_fewestToTurn 25 = .ok (.getfield 42, 3) := by decide +kernel
theorem dX5_fewestToTurn_28 : decode cX5_fewestToTurn 28 = .ok (.iload_n 3, 1) := by decide +kernel
theorem dX5_fewestToTurn_29 : decode cX5_fewestToTurn 29 = .ok (.iload_n 1, 1) := by decide +kernel
theorem dX5_fewestToTurn_30 : decode cX5_fewestToTurn 30 = .ok (.ior, 1) := by decide +kernel
theorem dX5_fewestToTurn_31 : decode cX5_fewestToTurn 31 = .ok (.invokevirtual 156, 3) := by decide +kernel
theorem dX5_fewestToTurn_34 : decode cX5_fewestToTurn 34 = .ok (.ifCond .eq 22, 3) := by decide +kernel
theorem dX5_fewestToTurn_37 : decode cX5_fewestToTurn 37 = .ok (.iload_n 2, 1) := by decide +kernel
theorem dX5_fewestToTurn_38 : decode cX5_fewestToTurn 38 = .ok (.bipush (-9), 2) := by decide +kernel
theorem dX5_fewestToTurn_40 : decode cX5_fewestToTurn 40 = .ok (.if_icmp .eq 14, 3) := by decide +kernel
theorem dX5_fewestToTurn_43 : decode cX5_fewestToTurn 43 = .ok (.iload_n 3, 1) := by decide +kernel
theorem dX5_fewestToTurn_44 : decode cX5_fewestToTurn 44 = .ok (.invokestatic 195, 3) := by decide +kernel
theorem dX5_fewestToTurn_47 : decode cX5_fewestToTurn 47 = .ok (.iload_n 2, 1) := by decide +kernel
theorem dX5_fewestToTurn_48 : decode cX5_fewestToTurn 48 = .ok (.invokestatic 195, 3) := by decide +kernel
theorem dX5_fewestToTurn_51 : decode cX5_fewestToTurn 51 = .ok (.if_icmp .ge 5, 3) := by decide +kernel
theorem dX5_fewestToTurn_54 : decode cX5_fewestToTurn 54 = .ok (.iload_n 3, 1) := by decide +kernel
theorem dX5_fewestToTurn_55 : decode cX5_fewestToTurn 55 = .ok (.istore_n 2, 1) := by decide +kernel
theorem dX5_fewestToTurn_56 : decode cX5_fewestToTurn 56 = .ok (.iinc 3 1, 3) := by decide +kernel
theorem dX5_fewestToTurn_59 : decode cX5_fewestToTurn 59 = .ok (.goto (-54), 3) := by decide +kernel
theorem dX5_fewestToTurn_62 : decode cX5_fewestToTurn 62 = .ok (.iload_n 2, 1) := by decide +kernel
theorem dX5_fewestToTurn_63 : decode cX5_fewestToTurn 63 = .ok (.ireturn, 1) := by decide +kernel
theorem dX5_drift_0 : decode cX5_drift 0 = .ok (.aload_n 0, 1) := by decide +kernel
theorem dX5_drift_1 : decode cX5_drift 1 = .ok (.iload_n 1, 1) := by decide +kernel
theorem dX5_drift_2 : decode cX5_drift 2 = .ok (.iload_n 2, 1) := by decide +kernel
theorem dX5_drift_3 : decode cX5_drift 3 = .ok (.iload_n 3, 1) := by decide +kernel
theorem dX5_drift_4 : decode cX5_drift 4 = .ok (.iload 4, 2) := by decide +kernel
theorem dX5_drift_6 : decode cX5_drift 6 = .ok (.iload 5, 2) := by decide +kernel
theorem dX5_drift_8 : decode cX5_drift 8 = .ok (.invokestatic 124, 3) := by decide +kernel
theorem dX5_drift_11 : decode cX5_drift 11 = .ok (.ifCond .eq 17, 3) := by decide +kernel
theorem dX5_drift_14 : decode cX5_drift 14 = .ok (.iload 6, 2) := by decide +kernel
theorem dX5_drift_16 : decode cX5_drift 16 = .ok (.iconst 0, 1) := by decide +kernel
theorem dX5_drift_17 : decode cX5_drift 17 = .ok (.iconst 1, 1) := by decide +kernel
theorem dX5_drift_18 : decode cX5_drift 18 = .ok (.invokestatic 120, 3) := by decide +kernel
theorem dX5_drift_21 : decode cX5_drift 21 = .ok (.ifCond .eq 7, 3) := by decide +kernel
theorem dX5_drift_24 : decode cX5_drift 24 = .ok (.iconst 1, 1) := by decide +kernel
theorem dX5_drift_25 : decode cX5_drift 25 = .ok (.goto 4, 3) := by decide +kernel
theorem dX5_drift_28 : decode cX5_drift 28 = .ok (.iconst 0, 1) := by decide +kernel
theorem dX5_drift_29 : decode cX5_drift 29 = .ok (.invokevirtual 165, 3) := by decide +kernel
theorem dX5_drift_32 : decode cX5_drift 32 = .ok (.istore 7, 2) := by decide +kernel
theorem dX5_drift_34 : decode cX5_drift 34 = .ok (.iload 7, 2) := by decide +kernel
theorem dX5_drift_36 : decode cX5_drift 36 = .ok (.ifCond .eq 6, 3) := by decide +kernel
theorem dX5_drift_39 : decode cX5_drift 39 = .ok (.iload 7, 2) := by decide +kernel
theorem dX5_drift_41 : decode cX5_drift 41 = .ok (.ireturn, 1) := by decide +kernel
theorem dX5_drift_42 : decode cX5_drift 42 = .ok (.aload_n 0, 1) := by decide +kernel
theorem dX5_drift_43 : decode cX5_drift 43 = .ok (.getfield 13, 3) := by decide +kernel
theorem dX5_drift_46 : decode cX5_drift 46 = .ok (.iload_n 1, 1) := by decide +kernel
theorem dX5_drift_47 : decode cX5_drift 47 = .ok (.aaload, 1) := by decide +kernel
theorem dX5_drift_48 : decode cX5_drift 48 = .ok (.iload_n 3, 1) := by decide +kernel
theorem dX5_drift_49 : decode cX5_drift 49 = .ok (.iload 4, 2) := by decide +kernel
theorem dX5_drift_51 : decode cX5_drift 51 = .ok (.aload_n 0, 1) := by decide +kernel
theorem dX5_drift_52 : decode cX5_drift 52 = .ok (.getfield 42, 3) := by decide +kernel
theorem dX5_drift_55 : decode cX5_drift 55 = .ok (.getfield 203, 3) := by decide +kernel
theorem dX5_drift_58 : decode cX5_drift 58 = .ok (.iconst 1, 1) := by decide +kernel
theorem dX5_drift_59 : decode cX5_drift 59 = .ok (.isub, 1) := by decide +kernel
theorem dX5_drift_60 : decode cX5_drift 60 = .ok (.invokevirtual 169, 3) := by decide +kernel
theorem dX5_drift_63 : decode cX5_drift 63 = .ok (.ifCond .ne 5, 3) := by decide +kernel
theorem dX5_drift_66 : decode cX5_drift 66 = .ok (.iconst (-1), 1) := by decide +kernel
theorem dX5_drift_67 : decode cX5_drift 67 = .ok (.ireturn, 1) := by decide +kernel
theorem dX5_drift_68 : decode cX5_drift 68 = .ok (.iload 6, 2) := by decide +kernel
theorem dX5_drift_70 : decode cX5_drift 70 = .ok (.ifCond .ne 21, 3) := by decide +kernel
theorem dX5_drift_73 : decode cX5_drift 73 = .ok (.aload_n 0, 1) := by decide +kernel
theorem dX5_drift_74 : decode cX5_drift 74 = .ok (.iload 5, 2) := by decide +kernel
theorem dX5_drift_76 : decode cX5_drift 76 = .ok (.aload_n 0, 1) := by decide +kernel
theorem dX5_drift_77 : decode cX5_drift 77 = .ok (.getfield 13, 3) := by decide +kernel
theorem dX5_drift_80 : decode cX5_drift 80 = .ok (.iload_n 1, 1) := by decide +kernel
theorem dX5_drift_81 : decode cX5_drift 81 = .ok (.aaload, 1) := by decide +kernel
theorem dX5_drift_82 : decode cX5_drift 82 = .ok (.iload_n 3, 1) := by decide +kernel
theorem dX5_drift_83 : decode cX5_drift 83 = .ok (.iload 4, 2) := by decide +kernel
theorem dX5_drift_85 : decode cX5_drift 85 = .ok (.invokevirtual 206, 3) := by decide +kernel
theorem dX5_drift_88 : decode cX5_drift 88 = .ok (.goto 18, 3) := by decide +kernel
theorem dX5_drift_91 : decode cX5_drift 91 = .ok (.aload_n 0, 1) := by decide +kernel
theorem dX5_drift_92 : decode cX5_drift 92 = .ok (.iload 5, 2) := by decide +kernel
theorem dX5_drift_94 : decode cX5_drift 94 = .ok (.aload_n 0, 1) := by decide +kernel
theorem dX5_drift_95 : decode cX5_drift 95 = .ok (.getfield 13, 3) := by decide +kernel
theorem dX5_drift_98 : decode cX5_drift 98 = .ok (.iload_n 1, 1) := by decide +kernel
theorem dX5_drift_99 : decode cX5_drift 99 = .ok (.aaload, 1) := by decide +kernel
theorem dX5_drift_100 : decode cX5_drift 100 = .ok (.iload_n 3, 1) := by decide +kernel
theorem dX5_drift_101 : decode cX5_drift 101 = .ok (.iload 4, 2) := by decide +kernel
theorem dX5_drift_103 : decode cX5_drift 103 = .ok (.invokevirtual 210, 3) := by decide +kernel
theorem dX5_drift_106 : decode cX5_drift 106 = .ok (.ireturn, 1) := by decide +kernel
theorem dX5_driftOf_0 : decode cX5_driftOf 0 = .ok (.iload_n 1, 1) := by decide +kernel
theorem dX5_driftOf_1 : decode cX5_driftOf 1 = .ok (.istore 5, 2) := by decide +kernel
theorem dX5_driftOf_3 : decode cX5_driftOf 3 = .ok (.iconst 0, 1) := by decide +kernel
theorem dX5_driftOf_4 : decode cX5_driftOf 4 = .ok (.istore 6, 2) := by decide +kernel
theorem dX5_driftOf_6 : decode cX5_driftOf 6 = .ok (.iload 6, 2) := by decide +kernel
theorem dX5_driftOf_8 : decode cX5_driftOf 8 = .ok (.iload 4, 2) := by decide +kernel
theorem dX5_driftOf_10 : decode cX5_driftOf 10 = .ok (.if_icmp .ge 29, 3) := by decide +kernel
theorem dX5_driftOf_13 : decode cX5_driftOf 13 = .ok (.aload_n 0, 1) := by decide +kernel
theorem dX5_driftOf_14 : decode cX5_driftOf 14 = .ok (.getfield 42, 3) := by decide +kernel
theorem dX5_driftOf_17 : decode cX5_driftOf 17 = .ok (.aload_n 2, 1) := by decide +kernel
theorem dX5_driftOf_18 : decode cX5_driftOf 18 = .ok (.getfield 183, 3) := by decide +kernel
theorem dX5_driftOf_21 : decode cX5_driftOf 21 = .ok (.iload_n 3, 1) := by decide +kernel
theorem dX5_driftOf_22 : decode cX5_driftOf 22 = .ok (.iload 6, 2) := by decide +kernel
theorem dX5_driftOf_24 : decode cX5_driftOf 24 = .ok (.iadd, 1) := by decide +kernel
theorem dX5_driftOf_25 : decode cX5_driftOf 25 = .ok (.iaload, 1) := by decide +kernel
theorem dX5_driftOf_26 : decode cX5_driftOf 26 = .ok (.iload 5, 2) := by decide +kernel
theorem dX5_driftOf_28 : decode cX5_driftOf 28 = .ok (.invokevirtual 213, 3) := by decide +kernel
theorem dX5_driftOf_31 : decode cX5_driftOf 31 = .ok (.istore 5, 2) := by decide +kernel
theorem dX5_driftOf_33 : decode cX5_driftOf 33 = .ok (.iinc 6 1, 3) := by decide +kernel
theorem dX5_driftOf_36 : decode cX5_driftOf 36 = .ok (.goto (-30), 3) := by decide +kernel
theorem dX5_driftOf_39 : decode cX5_driftOf 39 = .ok (.iload 5, 2) := by decide +kernel
theorem dX5_driftOf_41 : decode cX5_driftOf 41 = .ok (.ireturn, 1) := by decide +kernel
theorem dX5_originsOf_0 : decode cX5_originsOf 0 = .ok (.iconst 0, 1) := by decide +kernel
theorem dX5_originsOf_1 : decode cX5_originsOf 1 = .ok (.istore 5, 2) := by decide +kernel
theorem dX5_originsOf_3 : decode cX5_originsOf 3 = .ok (.iconst 0, 1) := by decide +kernel
theorem dX5_originsOf_4 : decode cX5_originsOf 4 = .ok (.istore 6, 2) := by decide +kernel
theorem dX5_originsOf_6 : decode cX5_originsOf 6 = .ok (.iload 6, 2) := by decide +kernel
theorem dX5_originsOf_8 : decode cX5_originsOf 8 = .ok (.bipush 9, 2) := by decide +kernel
theorem dX5_originsOf_10 : decode cX5_originsOf 10 = .ok (.if_icmp .gt 32, 3) := by decide +kernel
theorem dX5_originsOf_13 : decode cX5_originsOf 13 = .ok (.aload_n 0, 1) := by decide +kernel
theorem dX5_originsOf_14 : decode cX5_originsOf 14 = .ok (.iload 6, 2) := by decide +kernel
theorem dX5_originsOf_16 : decode cX5_originsOf 16 = .ok (.aload_n 2, 1) := by decide +kernel
theorem dX5_originsOf_17 : decode cX5_originsOf 17 = .ok (.iload_n 3, 1) := by decide +kernel
theorem dX5_originsOf_18 : decode cX5_originsOf 18 = .ok (.iload 4, 2) := by decide +kernel
theorem dX5_originsOf_20 : decode cX5_originsOf 20 = .ok (.invokevirtual 206, 3) := by decide +kernel
theorem dX5_originsOf_23 : decode cX5_originsOf 23 = .ok (.iload_n 1, 1) := by decide +kernel
theorem dX5_originsOf_24 : decode cX5_originsOf 24 = .ok (.if_icmp .ne 12, 3) := by decide +kernel
theorem dX5_originsOf_27 : decode cX5_originsOf 27 = .ok (.iload 5, 2) := by decide +kernel
theorem dX5_originsOf_29 : decode cX5_originsOf 29 = .ok (.iconst 1, 1) := by decide +kernel
theorem dX5_originsOf_30 : decode cX5_originsOf 30 = .ok (.iload 6, 2) := by decide +kernel
theorem dX5_originsOf_32 : decode cX5_originsOf 32 = .ok (.ishl, 1) := by decide +kernel
theorem dX5_originsOf_33 : decode cX5_originsOf 33 = .ok (.ior, 1) := by decide +kernel
theorem dX5_originsOf_34 : decode cX5_originsOf 34 = .ok (.istore 5, 2) := by decide +kernel
theorem dX5_originsOf_36 : decode cX5_originsOf 36 = .ok (.iinc 6 1, 3) := by decide +kernel
theorem dX5_originsOf_39 : decode cX5_originsOf 39 = .ok (.goto (-33), 3) := by decide +kernel
theorem dX5_originsOf_42 : decode cX5_originsOf 42 = .ok (.iload 5, 2) := by decide +kernel
theorem dX5_originsOf_44 : decode cX5_originsOf 44 = .ok (.ireturn, 1) := by decide +kernel
theorem dX5_leaps_0 : decode cX5_leaps 0 = .ok (.aload_n 0, 1) := by decide +kernel
theorem dX5_leaps_1 : decode cX5_leaps 1 = .ok (.iload_n 1, 1) := by decide +kernel
theorem dX5_leaps_2 : decode cX5_leaps 2 = .ok (.invokevirtual 89, 3) := by decide +kernel
theorem dX5_leaps_5 : decode cX5_leaps 5 = .ok (.ifCond .eq 11, 3) := by decide +kernel
theorem dX5_leaps_8 : decode cX5_leaps 8 = .ok (.aload_n 0, 1) := by decide +kernel
theorem dX5_leaps_9 : decode cX5_leaps 9 = .ok (.iload_n 2, 1) := by decide +kernel
theorem dX5_leaps_10 : decode cX5_leaps 10 = .ok (.invokevirtual 89, 3) := by decide +kernel
theorem dX5_leaps_13 : decode cX5_leaps 13 = .ok (.ifCond .ne 5, 3) := by decide +kernel
theorem dX5_leaps_16 : decode cX5_leaps 16 = .ok (.iconst (-1), 1) := by decide +kernel
theorem dX5_leaps_17 : decode cX5_leaps 17 = .ok (.ireturn, 1) := by decide +kernel
theorem dX5_leaps_18 : decode cX5_leaps 18 = .ok (.iload_n 3, 1) := by decide +kernel
theorem dX5_leaps_19 : decode cX5_leaps 19 = .ok (.iconst (-1), 1) := by decide +kernel
theorem dX5_leaps_20 : decode cX5_leaps 20 = .ok (.iconst 5, 1) := by decide +kernel
theorem dX5_leaps_21 : decode cX5_leaps 21 = .ok (.invokestatic 120, 3) := by decide +kernel
theorem dX5_leaps_24 : decode cX5_leaps 24 = .ok (.ifCond .ne 6, 3) := by decide +kernel
theorem dX5_leaps_27 : decode cX5_leaps 27 = .ok (.bipush (-2), 2) := by decide +kernel
theorem dX5_leaps_29 : decode cX5_leaps 29 = .ok (.ireturn, 1) := by decide +kernel
theorem dX5_leaps_30 : decode cX5_leaps 30 = .ok (.aload_n 0, 1) := by decide +kernel
theorem dX5_leaps_31 : decode cX5_leaps 31 = .ok (.invokevirtual 216, 3) := by decide +kernel
theorem dX5_leaps_34 : decode cX5_leaps 34 = .ok (.aload_n 0, 1) := by decide +kernel
theorem dX5_leaps_35 : decode cX5_leaps 35 = .ok (.getfield 35, 3) := by decide +kernel
theorem dX5_leaps_38 : decode cX5_leaps 38 = .ok (.iload_n 1, 1) := by decide +kernel
theorem dX5_leaps_39 : decode cX5_leaps 39 = .ok (.iload_n 2, 1) := by decide +kernel
theorem dX5_leaps_40 : decode cX5_leaps 40 = .ok (.invokevirtual 219, 3) := by decide +kernel
theorem dX5_leaps_43 : decode cX5_leaps 43 = .ok (.iload_n 3, 1) := by decide +kernel
theorem dX5_leaps_44 : decode cX5_leaps 44 = .ok (.ifCond .ne 17, 3) := by decide +kernel
theorem dX5_leaps_47 : decode cX5_leaps 47 = .ok (.aload_n 0, 1) := by decide +kernel
theorem dX5_leaps_48 : decode cX5_leaps 48 = .ok (.getfield 35, 3) := by decide +kernel
theorem dX5_leaps_51 : decode cX5_leaps 51 = .ok (.getfield 223, 3) := by decide +kernel
theorem dX5_leaps_54 : decode cX5_leaps 54 = .ok (.bipush (-9), 2) := by decide +kernel
theorem dX5_leaps_56 : decode cX5_leaps 56 = .ok (.if_icmp .eq 5, 3) := by decide +kernel
theorem dX5_leaps_59 : decode cX5_leaps 59 = .ok (.iload_n 1, 1) := by decide +kernel
theorem dX5_leaps_60 : decode cX5_leaps 60 = .ok (.ireturn, 1) := by decide +kernel
theorem dX5_leaps_61 : decode cX5_leaps 61 = .ok (.iload_n 3, 1) := by decide +kernel
theorem dX5_leaps_62 : decode cX5_leaps 62 = .ok (.ifCond .ge 13, 3) := by decide +kernel
theorem dX5_leaps_65 : decode cX5_leaps 65 = .ok (.aload_n 0, 1) := by decide +kernel
theorem dX5_leaps_66 : decode cX5_leaps 66 = .ok (.getfield 35, 3) := by decide +kernel
theorem dX5_leaps_69 : decode cX5_leaps 69 = .ok (.getfield 223, 3) := by decide +kernel
theorem dX5_leaps_72 : decode cX5_leaps 72 = .ok (.goto 13, 3) := by decide +kernel
theorem dX5_leaps_75 : decode cX5_leaps 75 = .ok (.aload_n 0, 1) := by decide +kernel
theorem dX5_leaps_76 : decode cX5_leaps 76 = .ok (.getfield 35, 3) := by decide +kernel
theorem dX5_leaps_79 : decode cX5_leaps 79 = .ok (.iload_n 3, 1) := by decide +kernel
theorem dX5_leaps_80 : decode cX5_leaps 80 = .ok (.iconst 1, 1) := by decide +kernel
theorem dX5_leaps_81 : decode cX5_leaps 81 = .ok (.isub, 1) := by decide +kernel
theorem dX5_leaps_82 : decode cX5_leaps 82 = .ok (.invokevirtual 226, 3) := by decide +kernel
theorem dX5_leaps_85 : decode cX5_leaps 85 = .ok (.ireturn, 1) := by decide +kernel
theorem dX5_layLeaps_0 : decode cX5_layLeaps 0 = .ok (.aload_n 0, 1) := by decide +kernel
theorem dX5_layLeaps_1 : decode cX5_layLeaps 1 = .ok (.getfield 35, 3) := by decide +kernel
theorem dX5_layLeaps_4 : decode cX5_layLeaps 4 = .ok (.aload_n 0, 1) := by decide +kernel
theorem dX5_layLeaps_5 : decode cX5_layLeaps 5 = .ok (.getfield 42, 3) := by decide +kernel
theorem dX5_layLeaps_8 : decode cX5_layLeaps 8 = .ok (.getfield 203, 3) := by decide +kernel
theorem dX5_layLeaps_11 : decode cX5_layLeaps 11 = .ok (.aload_n 0, 1) := by decide +kernel
theorem dX5_layLeaps_12 : decode cX5_layLeaps 12 = .ok (.getfield 42, 3) := by decide +kernel
theorem dX5_layLeaps_15 : decode cX5_layLeaps 15 = .ok (.getfield 203, 3) := by decide +kernel
theorem dX5_layLeaps_18 : decode cX5_layLeaps 18 = .ok (.invokevirtual 229, 3) := by decide +kernel
theorem dX5_layLeaps_21 : decode cX5_layLeaps 21 = .ok (.iconst 0, 1) := by decide +kernel
theorem dX5_layLeaps_22 : decode cX5_layLeaps 22 = .ok (.istore_n 1, 1) := by decide +kernel
theorem dX5_layLeaps_23 : decode cX5_layLeaps 23 = .ok (.iload_n 1, 1) := by decide +kernel
theorem dX5_layLeaps_24 : decode cX5_layLeaps 24 = .ok (.aload_n 0, 1) := by decide +kernel
theorem dX5_layLeaps_25 : decode cX5_layLeaps 25 = .ok (.getfield 42, 3) := by decide +kernel
theorem dX5_layLeaps_28 : decode cX5_layLeaps 28 = .ok (.getfield 203, 3) := by decide +kernel
theorem dX5_layLeaps_31 : decode cX5_layLeaps 31 = .ok (.if_icmp .ge 54, 3) := by decide +kernel
theorem dX5_layLeaps_34 : decode cX5_layLeaps 34 = .ok (.iconst 0, 1) := by decide +kernel
theorem dX5_layLeaps_35 : decode cX5_layLeaps 35 = .ok (.istore_n 2, 1) := by decide +kernel
theorem dX5_layLeaps_36 : decode cX5_layLeaps 36 = .ok (.iload_n 2, 1) := by decide +kernel
theorem dX5_layLeaps_37 : decode cX5_layLeaps 37 = .ok (.aload_n 0, 1) := by decide +kernel
theorem dX5_layLeaps_38 : decode cX5_layLeaps 38 = .ok (.getfield 42, 3) := by decide +kernel
theorem dX5_layLeaps_41 : decode cX5_layLeaps 41 = .ok (.getfield 203, 3) := by decide +kernel
theorem dX5_layLeaps_44 : decode cX5_layLeaps 44 = .ok (.if_icmp .ge 35, 3) := by decide +kernel
theorem dX5_layLeaps_47 : decode cX5_layLeaps 47 = .ok (.aload_n 0, 1) := by decide +kernel
theorem dX5_layLeaps_48 : decode cX5_layLeaps 48 = .ok (.getfield 35, 3) := by decide +kernel
theorem dX5_layLeaps_51 : decode cX5_layLeaps 51 = .ok (.iload_n 1, 1) := by decide +kernel
theorem dX5_layLeaps_52 : decode cX5_layLeaps 52 = .ok (.iload_n 2, 1) := by decide +kernel
theorem dX5_layLeaps_53 : decode cX5_layLeaps 53 = .ok (.aload_n 0, 1) := by decide +kernel
theorem dX5_layLeaps_54 : decode cX5_layLeaps 54 = .ok (.getfield 42, 3) := by decide +kernel
theorem dX5_layLeaps_57 : decode cX5_layLeaps 57 = .ok (.iload_n 1, 1) := by decide +kernel
theorem dX5_layLeaps_58 : decode cX5_layLeaps 58 = .ok (.iload_n 2, 1) := by decide +kernel
theorem dX5_layLeaps_59 : decode cX5_layLeaps 59 = .ok (.invokevirtual 231, 3) := by decide +kernel
theorem dX5_layLeaps_62 : decode cX5_layLeaps 62 = .ok (.ifCond .eq 7, 3) := by decide +kernel
theorem dX5_layLeaps_65 : decode cX5_layLeaps 65 = .ok (.iload_n 2, 1) := by decide +kernel
theorem dX5_layLeaps_66 : decode cX5_layLeaps 66 = .ok (.goto 4, 3) := by decide +kernel
theorem dX5_layLeaps_69 : decode cX5_layLeaps 69 = .ok (.iload_n 1, 1) := by decide +kernel
theorem dX5_layLeaps_70 : decode cX5_layLeaps 70 = .ok (.invokevirtual 235, 3) := by decide +kernel
theorem dX5_layLeaps_73 : decode cX5_layLeaps 73 = .ok (.iinc 2 1, 3) := by decide +kernel
theorem dX5_layLeaps_76 : decode cX5_layLeaps 76 = .ok (.goto (-40), 3) := by decide +kernel
theorem dX5_layLeaps_79 : decode cX5_layLeaps 79 = .ok (.iinc 1 1, 3) := by decide +kernel
theorem dX5_layLeaps_82 : decode cX5_layLeaps 82 = .ok (.goto (-59), 3) := by decide +kernel
theorem dX5_layLeaps_85 : decode cX5_layLeaps 85 = .ok (.return_, 1) := by decide +kernel
theorem dX5_elect_0 : decode cX5_elect 0 = .ok (.aload_n 0, 1) := by decide +kernel
theorem dX5_elect_1 : decode cX5_elect 1 = .ok (.iload_n 1, 1) := by decide +kernel
theorem dX5_elect_2 : decode cX5_elect 2 = .ok (.invokevirtual 105, 3) := by decide +kernel
theorem dX5_elect_5 : decode cX5_elect 5 = .ok (.ifCond .eq 11, 3) := by decide +kernel
theorem dX5_elect_8 : decode cX5_elect 8 = .ok (.aload_n 0, 1) := by decide +kernel
theorem dX5_elect_9 : decode cX5_elect 9 = .ok (.iload_n 2, 1) := by decide +kernel
theorem dX5_elect_10 : decode cX5_elect 10 = .ok (.invokevirtual 89, 3) := by decide +kernel
theorem dX5_elect_13 : decode cX5_elect 13 = .ok (.ifCond .ne 5, 3) := by decide +kernel
theorem dX5_elect_16 : decode cX5_elect 16 = .ok (.iconst (-1), 1) := by decide +kernel
theorem dX5_elect_17 : decode cX5_elect 17 = .ok (.ireturn, 1) := by decide +kernel
theorem dX5_elect_18 : decode cX5_elect 18 = .ok (.iload_n 3, 1) := by decide +kernel
theorem dX5_elect_19 : decode cX5_elect 19 = .ok (.iconst (-1), 1) := by decide +kernel
theorem dX5_elect_20 : decode cX5_elect 20 = .ok (.iconst 4, 1) := by decide +kernel
theorem dX5_elect_21 : decode cX5_elect 21 = .ok (.invokestatic 120, 3) := by decide +kernel
theorem dX5_elect_24 : decode cX5_elect 24 = .ok (.ifCond .ne 6, 3) := by decide +kernel
theorem dX5_elect_27 : decode cX5_elect 27 = .ok (.bipush (-2), 2) := by decide +kernel
theorem dX5_elect_29 : decode cX5_elect 29 = .ok (.ireturn, 1) := by decide +kernel
theorem dX5_elect_30 : decode cX5_elect 30 = .ok (.aload_n 0, 1) := by decide +kernel
theorem dX5_elect_31 : decode cX5_elect 31 = .ok (.aload_n 0, 1) := by decide +kernel
theorem dX5_elect_32 : decode cX5_elect 32 = .ok (.getfield 42, 3) := by decide +kernel
theorem dX5_elect_35 : decode cX5_elect 35 = .ok (.getfield 108, 3) := by decide +kernel
theorem dX5_elect_38 : decode cX5_elect 38 = .ok (.iload_n 1, 1) := by decide +kernel
theorem dX5_elect_39 : decode cX5_elect 39 = .ok (.iaload, 1) := by decide +kernel
theorem dX5_elect_40 : decode cX5_elect 40 = .ok (.invokevirtual 239, 3) := by decide +kernel
theorem dX5_elect_43 : decode cX5_elect 43 = .ok (.aload_n 0, 1) := by decide +kernel
theorem dX5_elect_44 : decode cX5_elect 44 = .ok (.getfield 35, 3) := by decide +kernel
theorem dX5_elect_47 : decode cX5_elect 47 = .ok (.aload_n 0, 1) := by decide +kernel
theorem dX5_elect_48 : decode cX5_elect 48 = .ok (.getfield 42, 3) := by decide +kernel
theorem dX5_elect_51 : decode cX5_elect 51 = .ok (.getfield 111, 3) := by decide +kernel
theorem dX5_elect_54 : decode cX5_elect 54 = .ok (.iload_n 1, 1) := by decide +kernel
theorem dX5_elect_55 : decode cX5_elect 55 = .ok (.iaload, 1) := by decide +kernel
theorem dX5_elect_56 : decode cX5_elect 56 = .ok (.iload_n 2, 1) := by decide +kernel
theorem dX5_elect_57 : decode cX5_elect 57 = .ok (.invokevirtual 219, 3) := by decide +kernel
theorem dX5_elect_60 : decode cX5_elect 60 = .ok (.iload_n 3, 1) := by decide +kernel
theorem dX5_elect_61 : decode cX5_elect 61 = .ok (.ifCond .ge 13, 3) := by decide +kernel
theorem dX5_elect_64 : decode cX5_elect 64 = .ok (.aload_n 0, 1) := by decide +kernel
theorem dX5_elect_65 : decode cX5_elect 65 = .ok (.getfield 35, 3) := by decide +kernel
theorem dX5_elect_68 : decode cX5_elect 68 = .ok (.getfield 223, 3) := by decide +kernel
theorem dX5_elect_71 : decode cX5_elect 71 = .ok (.goto 11, 3) := by decide +kernel
theorem dX5_elect_74 : decode cX5_elect 74 = .ok (.aload_n 0, 1) := by decide +kernel
theorem dX5_elect_75 : decode cX5_elect 75 = .ok (.getfield 35, 3) := by decide +kernel
theorem dX5_elect_78 : decode cX5_elect 78 = .ok (.iload_n 3, 1) := by decide +kernel
theorem dX5_elect_79 : decode cX5_elect 79 = .ok (.invokevirtual 226, 3) := by decide +kernel
theorem dX5_elect_82 : decode cX5_elect 82 = .ok (.ireturn, 1) := by decide +kernel
theorem dX5_layTides_0 : decode cX5_layTides 0 = .ok (.aload_n 0, 1) := by decide +kernel
theorem dX5_layTides_1 : decode cX5_layTides 1 = .ok (.getfield 35, 3) := by decide +kernel
theorem dX5_layTides_4 : decode cX5_layTides 4 = .ok (.aload_n 0, 1) := by decide +kernel
theorem dX5_layTides_5 : decode cX5_layTides 5 = .ok (.getfield 42, 3) := by decide +kernel
theorem dX5_layTides_8 : decode cX5_layTides 8 = .ok (.getfield 203, 3) := by decide +kernel
theorem dX5_layTides_11 : decode cX5_layTides 11 = .ok (.bipush 10, 2) := by decide +kernel
theorem dX5_layTides_13 : decode cX5_layTides 13 = .ok (.invokevirtual 229, 3) := by decide +kernel
theorem dX5_layTides_16 : decode cX5_layTides 16 = .ok (.iconst 0, 1) := by decide +kernel
theorem dX5_layTides_17 : decode cX5_layTides 17 = .ok (.istore_n 2, 1) := by decide +kernel
theorem dX5_layTides_18 : decode cX5_layTides 18 = .ok (.iload_n 2, 1) := by decide +kernel
theorem dX5_layTides_19 : decode cX5_layTides 19 = .ok (.aload_n 0, 1) := by decide +kernel
theorem dX5_layTides_20 : decode cX5_layTides 20 = .ok (.getfield 42, 3) := by decide +kernel
theorem dX5_layTides_23 : decode cX5_layTides 23 = .ok (.getfield 203, 3) := by decide +kernel
theorem dX5_layTides_26 : decode cX5_layTides 26 = .ok (.if_icmp .ge 42, 3) := by decide +kernel
theorem dX5_layTides_29 : decode cX5_layTides 29 = .ok (.iconst 0, 1) := by decide +kernel
theorem dX5_layTides_30 : decode cX5_layTides 30 = .ok (.istore_n 3, 1) := by decide +kernel
theorem dX5_layTides_31 : decode cX5_layTides 31 = .ok (.iload_n 3, 1) := by decide +kernel
theorem dX5_layTides_32 : decode cX5_layTides 32 = .ok (.bipush 9, 2) := by decide +kernel
theorem dX5_layTides_34 : decode cX5_layTides 34 = .ok (.if_icmp .gt 28, 3) := by decide +kernel
theorem dX5_layTides_37 : decode cX5_layTides 37 = .ok (.aload_n 0, 1) := by decide +kernel
theorem dX5_layTides_38 : decode cX5_layTides 38 = .ok (.getfield 35, 3) := by decide +kernel
theorem dX5_layTides_41 : decode cX5_layTides 41 = .ok (.iload_n 2, 1) := by decide +kernel
theorem dX5_layTides_42 : decode cX5_layTides 42 = .ok (.iload_n 3, 1) := by decide +kernel
theorem dX5_layTides_43 : decode cX5_layTides 43 = .ok (.aload_n 0, 1) := by decide +kernel
theorem dX5_layTides_44 : decode cX5_layTides 44 = .ok (.getfield 42, 3) := by decide +kernel
theorem dX5_layTides_47 : decode cX5_layTides 47 = .ok (.iload_n 2, 1) := by decide +kernel
theorem dX5_layTides_48 : decode cX5_layTides 48 = .ok (.iload_n 1, 1) := by decide +kernel
theorem dX5_layTides_49 : decode cX5_layTides 49 = .ok (.iload_n 3, 1) := by decide +kernel
theorem dX5_layTides_50 : decode cX5_layTides 50 = .ok (.invokevirtual 243, 3) := by decide +kernel
theorem dX5_layTides_53 : decode cX5_layTides 53 = .ok (.invokevirtual 235, 3) := by decide +kernel
theorem dX5_layTides_56 : decode cX5_layTides 56 = .ok (.iinc 3 1, 3) := by decide +kernel
theorem dX5_layTides_59 : decode cX5_layTides 59 = .ok (.goto (-28), 3) := by decide +kernel
theorem dX5_layTides_62 : decode cX5_layTides 62 = .ok (.iinc 2 1, 3) := by decide +kernel
theorem dX5_layTides_65 : decode cX5_layTides 65 = .ok (.goto (-47), 3) := by decide +kernel
theorem dX5_layTides_68 : decode cX5_layTides 68 = .ok (.return_, 1) := by decide +kernel
theorem dX5_reading_0 : decode cX5_reading 0 = .ok (.aload_n 0, 1) := by decide +kernel
theorem dX5_reading_1 : decode cX5_reading 1 = .ok (.iload_n 1, 1) := by decide +kernel
theorem dX5_reading_2 : decode cX5_reading 2 = .ok (.invokevirtual 105, 3) := by decide +kernel
theorem dX5_reading_5 : decode cX5_reading 5 = .ok (.ifCond .ne 5, 3) := by decide +kernel
theorem dX5_reading_8 : decode cX5_reading 8 = .ok (.iconst (-1), 1) := by decide +kernel
theorem dX5_reading_9 : decode cX5_reading 9 = .ok (.ireturn, 1) := by decide +kernel
theorem dX5_reading_10 : decode cX5_reading 10 = .ok (.iload_n 2, 1) := by decide +kernel
theorem dX5_reading_11 : decode cX5_reading 11 = .ok (.invokestatic 124, 3) := by decide +kernel
theorem dX5_reading_14 : decode cX5_reading 14 = .ok (.ifCond .ne 6, 3) := by decide +kernel
theorem dX5_reading_17 : decode cX5_reading 17 = .ok (.bipush (-2), 2) := by decide +kernel
theorem dX5_reading_19 : decode cX5_reading 19 = .ok (.ireturn, 1) := by decide +kernel
theorem dX5_reading_20 : decode cX5_reading 20 = .ok (.aload_n 0, 1) := by decide +kernel
theorem dX5_reading_21 : decode cX5_reading 21 = .ok (.iload_n 3, 1) := by decide +kernel
theorem dX5_reading_22 : decode cX5_reading 22 = .ok (.invokevirtual 89, 3) := by decide +kernel
theorem dX5_reading_25 : decode cX5_reading 25 = .ok (.ifCond .ne 5, 3) := by decide +kernel
theorem dX5_reading_28 : decode cX5_reading 28 = .ok (.iconst (-1), 1) := by decide +kernel
theorem dX5_reading_29 : decode cX5_reading 29 = .ok (.ireturn, 1) := by decide +kernel
theorem dX5_reading_30 : decode cX5_reading 30 = .ok (.aload_n 0, 1) := by decide +kernel
theorem dX5_reading_31 : decode cX5_reading 31 = .ok (.getfield 28, 3) := by decide +kernel
theorem dX5_reading_34 : decode cX5_reading 34 = .ok (.getfield 83, 3) := by decide +kernel
theorem dX5_reading_37 : decode cX5_reading 37 = .ok (.bipush 8, 2) := by decide +kernel
theorem dX5_reading_39 : decode cX5_reading 39 = .ok (.if_icmp .ge 16, 3) := by decide +kernel
theorem dX5_reading_42 : decode cX5_reading 42 = .ok (.aload_n 0, 1) := by decide +kernel
theorem dX5_reading_43 : decode cX5_reading 43 = .ok (.getfield 28, 3) := by decide +kernel
theorem dX5_reading_46 : decode cX5_reading 46 = .ok (.iload_n 1, 1) := by decide +kernel
theorem dX5_reading_47 : decode cX5_reading 47 = .ok (.iload_n 2, 1) := by decide +kernel
theorem dX5_reading_48 : decode cX5_reading 48 = .ok (.iload_n 3, 1) := by decide +kernel
theorem dX5_reading_49 : decode cX5_reading 49 = .ok (.invokevirtual 247, 3) := by decide +kernel
theorem dX5_reading_52 : decode cX5_reading 52 = .ok (.goto 5, 3) := by decide +kernel
theorem dX5_reading_55 : decode cX5_reading 55 = .ok (.bipush (-4), 2) := by decide +kernel
theorem dX5_reading_57 : decode cX5_reading 57 = .ok (.ireturn, 1) := by decide +kernel
theorem dX5_back_0 : decode cX5_back 0 = .ok (.iload_n 1, 1) := by decide +kernel
theorem dX5_back_1 : decode cX5_back 1 = .ok (.iconst 0, 1) := by decide +kernel
theorem dX5_back_2 : decode cX5_back 2 = .ok (.aload_n 0, 1) := by decide +kernel
theorem dX5_back_3 : decode cX5_back 3 = .ok (.getfield 28, 3) := by decide +kernel
theorem dX5_back_6 : decode cX5_back 6 = .ok (.getfield 83, 3) := by decide +kernel
theorem dX5_back_9 : decode cX5_back 9 = .ok (.invokestatic 120, 3) := by decide +kernel
theorem dX5_back_12 : decode cX5_back 12 = .ok (.ifCond .ne 6, 3) := by decide +kernel
theorem dX5_back_15 : decode cX5_back 15 = .ok (.bipush (-2), 2) := by decide +kernel
theorem dX5_back_17 : decode cX5_back 17 = .ok (.ireturn, 1) := by decide +kernel
theorem dX5_back_18 : decode cX5_back 18 = .ok (.aload_n 0, 1) := by decide +kernel
theorem dX5_back_19 : decode cX5_back 19 = .ok (.getfield 28, 3) := by decide +kernel
theorem dX5_back_22 : decode cX5_back 22 = .ok (.dup, 1) := by decide +kernel
theorem dX5_back_23 : decode cX5_back 23 = .ok (.getfield 83, 3) := by decide +kernel
theorem dX5_back_26 : decode cX5_back 26 = .ok (.iload_n 1, 1) := by decide +kernel
theorem dX5_back_27 : decode cX5_back 27 = .ok (.isub, 1) := by decide +kernel
theorem dX5_back_28 : decode cX5_back 28 = .ok (.putfield 83, 3) := by decide +kernel
theorem dX5_back_31 : decode cX5_back 31 = .ok (.aload_n 0, 1) := by decide +kernel
theorem dX5_back_32 : decode cX5_back 32 = .ok (.getfield 28, 3) := by decide +kernel
theorem dX5_back_35 : decode cX5_back 35 = .ok (.getfield 83, 3) := by decide +kernel
theorem dX5_back_38 : decode cX5_back 38 = .ok (.ireturn, 1) := by decide +kernel
theorem dX5_heights_0 : decode cX5_heights 0 = .ok (.aload_n 0, 1) := by decide +kernel
theorem dX5_heights_1 : decode cX5_heights 1 = .ok (.iload_n 1, 1) := by decide +kernel
theorem dX5_heights_2 : decode cX5_heights 2 = .ok (.invokevirtual 89, 3) := by decide +kernel
theorem dX5_heights_5 : decode cX5_heights 5 = .ok (.ifCond .ne 5, 3) := by decide +kernel
theorem dX5_heights_8 : decode cX5_heights 8 = .ok (.iconst (-1), 1) := by decide +kernel
theorem dX5_heights_9 : decode cX5_heights 9 = .ok (.ireturn, 1) := by decide +kernel
theorem dX5_heights_10 : decode cX5_heights 10 = .ok (.aload_n 0, 1) := by decide +kernel
theorem dX5_heights_11 : decode cX5_heights 11 = .ok (.getfield 46, 3) := by decide +kernel
theorem dX5_heights_14 : decode cX5_heights 14 = .ok (.aload_n 0, 1) := by decide +kernel
theorem dX5_heights_15 : decode cX5_heights 15 = .ok (.getfield 42, 3) := by decide +kernel
theorem dX5_heights_18 : decode cX5_heights 18 = .ok (.invokevirtual 179, 3) := by decide +kernel
theorem dX5_heights_21 : decode cX5_heights 21 = .ok (.iconst 0, 1) := by decide +kernel
theorem dX5_heights_22 : decode cX5_heights 22 = .ok (.istore_n 2, 1) := by decide +kernel
theorem dX5_heights_23 : decode cX5_heights 23 = .ok (.iconst 1, 1) := by decide +kernel
theorem dX5_heights_24 : decode cX5_heights 24 = .ok (.istore_n 3, 1) := by decide +kernel
theorem dX5_heights_25 : decode cX5_heights 25 = .ok (.iload_n 3, 1) := by decide +kernel
theorem dX5_heights_26 : decode cX5_heights 26 = .ok (.bipush 9, 2) := by decide +kernel
theorem dX5_heights_28 : decode cX5_heights 28 = .ok (.if_icmp .gt 43, 3) := by decide +kernel
theorem dX5_heights_31 : decode cX5_heights 31 = .ok (.aload_n 0, 1) := by decide +kernel
theorem dX5_heights_32 : decode cX5_heights 32 = .ok (.getfield 46, 3) := by decide +kernel
theorem dX5_heights_35 : decode cX5_heights 35 = .ok (.getfield 92, 3) := by decide +kernel
theorem dX5_heights_38 : decode cX5_heights 38 = .ok (.iload_n 1, 1) := by decide +kernel
theorem dX5_heights_39 : decode cX5_heights 39 = .ok (.iload_n 3, 1) := by decide +kernel
theorem dX5_heights_40 : decode cX5_heights 40 = .ok (.iastore, 1) := by decide +kernel
theorem dX5_heights_41 : decode cX5_heights 41 = .ok (.iload_n 2, 1) := by decide +kernel
theorem dX5_heights_42 : decode cX5_heights 42 = .ok (.aload_n 0, 1) := by decide +kernel
theorem dX5_heights_43 : decode cX5_heights 43 = .ok (.getfield 28, 3) := by decide +kernel
theorem dX5_heights_46 : decode cX5_heights 46 = .ok (.aload_n 0, 1) := by decide +kernel
theorem dX5_heights_47 : decode cX5_heights 47 = .ok (.getfield 46, 3) := by decide +kernel
theorem dX5_heights_50 : decode cX5_heights 50 = .ok (.invokevirtual 250, 3) := by decide +kernel
theorem dX5_heights_53 : decode cX5_heights 53 = .ok (.ifCond .eq 9, 3) := by decide +kernel
theorem dX5_heights_56 : decode cX5_heights 56 = .ok (.iconst 1, 1) := by decide +kernel
theorem dX5_heights_57 : decode cX5_heights 57 = .ok (.iload_n 3, 1) := by decide +kernel
theorem dX5_heights_58 : decode cX5_heights 58 = .ok (.ishl, 1) := by decide +kernel
theorem dX5_heights_59 : decode cX5_heights 59 = .ok (.goto 4, 3) := by decide +kernel
theorem dX5_heights_62 : decode cX5_heights 62 = .ok (.iconst 0, 1) := by decide +kernel
theorem dX5_heights_63 : decode cX5_heights 63 = .ok (.ior, 1) := by decide +kernel
theorem dX5_heights_64 : decode cX5_heights 64 = .ok (.istore_n 2, 1) := by decide +kernel
theorem dX5_heights_65 : decode cX5_heights 65 = .ok (.iinc 3 1, 3) := by decide +kernel
theorem dX5_heights_68 : decode cX5_heights 68 = .ok (.goto (-43), 3) := by decide +kernel
theorem dX5_heights_71 : decode cX5_heights 71 = .ok (.iload_n 2, 1) := by decide +kernel
theorem dX5_heights_72 : decode cX5_heights 72 = .ok (.ireturn, 1) := by decide +kernel
theorem dX5_kinds_0 : decode cX5_kinds 0 = .ok (.aload_n 0, 1) := by decide +kernel
theorem dX5_kinds_1 : decode cX5_kinds 1 = .ok (.iload_n 1, 1) := by decide +kernel
theorem dX5_kinds_2 : decode cX5_kinds 2 = .ok (.invokevirtual 105, 3) := by decide +kernel
theorem dX5_kinds_5 : decode cX5_kinds 5 = .ok (.ifCond .ne 5, 3) := by decide +kernel
theorem dX5_kinds_8 : decode cX5_kinds 8 = .ok (.iconst (-1), 1) := by decide +kernel
theorem dX5_kinds_9 : decode cX5_kinds 9 = .ok (.ireturn, 1) := by decide +kernel
theorem dX5_kinds_10 : decode cX5_kinds 10 = .ok (.aload_n 0, 1) := by decide +kernel
theorem dX5_kinds_11 : decode cX5_kinds 11 = .ok (.getfield 46, 3) := by decide +kernel
theorem dX5_kinds_14 : decode cX5_kinds 14 = .ok (.aload_n 0, 1) := by decide +kernel
theorem dX5_kinds_15 : decode cX5_kinds 15 = .ok (.getfield 42, 3) := by decide +kernel
theorem dX5_kinds_18 : decode cX5_kinds 18 = .ok (.invokevirtual 179, 3) := by decide +kernel
theorem dX5_kinds_21 : decode cX5_kinds 21 = .ok (.iconst 0, 1) := by decide +kernel
theorem dX5_kinds_22 : decode cX5_kinds 22 = .ok (.istore_n 2, 1) := by decide +kernel
theorem dX5_kinds_23 : decode cX5_kinds 23 = .ok (.iconst 0, 1) := by decide +kernel
theorem dX5_kinds_24 : decode cX5_kinds 24 = .ok (.istore_n 3, 1) := by decide +kernel
theorem dX5_kinds_25 : decode cX5_kinds 25 = .ok (.iload_n 3, 1) := by decide +kernel
theorem dX5_kinds_26 : decode cX5_kinds 26 = .ok (.iconst 2, 1) := by decide +kernel
theorem dX5_kinds_27 : decode cX5_kinds 27 = .ok (.if_icmp .gt 43, 3) := by decide +kernel
theorem dX5_kinds_30 : decode cX5_kinds 30 = .ok (.aload_n 0, 1) := by decide +kernel
theorem dX5_kinds_31 : decode cX5_kinds 31 = .ok (.getfield 46, 3) := by decide +kernel
theorem dX5_kinds_34 : decode cX5_kinds 34 = .ok (.getfield 108, 3) := by decide +kernel
theorem dX5_kinds_37 : decode cX5_kinds 37 = .ok (.iload_n 1, 1) := by decide +kernel
theorem dX5_kinds_38 : decode cX5_kinds 38 = .ok (.iload_n 3, 1) := by decide +kernel
theorem dX5_kinds_39 : decode cX5_kinds 39 = .ok (.iastore, 1) := by decide +kernel
theorem dX5_kinds_40 : decode cX5_kinds 40 = .ok (.iload_n 2, 1) := by decide +kernel
theorem dX5_kinds_41 : decode cX5_kinds 41 = .ok (.aload_n 0, 1) := by decide +kernel
theorem dX5_kinds_42 : decode cX5_kinds 42 = .ok (.getfield 28, 3) := by decide +kernel
theorem dX5_kinds_45 : decode cX5_kinds 45 = .ok (.aload_n 0, 1) := by decide +kernel
theorem dX5_kinds_46 : decode cX5_kinds 46 = .ok (.getfield 46, 3) := by decide +kernel
theorem dX5_kinds_49 : decode cX5_kinds 49 = .ok (.invokevirtual 250, 3) := by decide +kernel
theorem dX5_kinds_52 : decode cX5_kinds 52 = .ok (.ifCond .eq 9, 3) := by decide +kernel
theorem dX5_kinds_55 : decode cX5_kinds 55 = .ok (.iconst 1, 1) := by decide +kernel
theorem dX5_kinds_56 : decode cX5_kinds 56 = .ok (.iload_n 3, 1) := by decide +kernel
theorem dX5_kinds_57 : decode cX5_kinds 57 = .ok (.ishl, 1) := by decide +kernel
theorem dX5_kinds_58 : decode cX5_kinds 58 = .ok (.goto 4, 3) := by decide +kernel
theorem dX5_kinds_61 : decode cX5_kinds 61 = .ok (.iconst 0, 1) := by decide +kernel
theorem dX5_kinds_62 : decode cX5_kinds 62 = .ok (.ior, 1) := by decide +kernel
theorem dX5_kinds_63 : decode cX5_kinds 63 = .ok (.istore_n 2, 1) := by decide +kernel
theorem dX5_kinds_64 : decode cX5_kinds 64 = .ok (.iinc 3 1, 3) := by decide +kernel
theorem dX5_kinds_67 : decode cX5_kinds 67 = .ok (.goto (-42), 3) := by decide +kernel
theorem dX5_kinds_70 : decode cX5_kinds 70 = .ok (.iload_n 2, 1) := by decide +kernel
theorem dX5_kinds_71 : decode cX5_kinds 71 = .ok (.ireturn, 1) := by decide +kernel
theorem dX5_streams_0 : decode cX5_streams 0 = .ok (.aload_n 0, 1) := by decide +kernel
theorem dX5_streams_1 : decode cX5_streams 1 = .ok (.invokevirtual 254, 3) := by decide +kernel
theorem dX5_streams_4 : decode cX5_streams 4 = .ok (.ifCond .ne 6, 3) := by decide +kernel
theorem dX5_streams_7 : decode cX5_streams 7 = .ok (.bipush (-3), 2) := by decide +kernel
theorem dX5_streams_9 : decode cX5_streams 9 = .ok (.ireturn, 1) := by decide +kernel
theorem dX5_streams_10 : decode cX5_streams 10 = .ok (.aload_n 0, 1) := by decide +kernel
theorem dX5_streams_11 : decode cX5_streams 11 = .ok (.getfield 46, 3) := by decide +kernel
theorem dX5_streams_14 : decode cX5_streams 14 = .ok (.aload_n 0, 1) := by decide +kernel
theorem dX5_streams_15 : decode cX5_streams 15 = .ok (.getfield 42, 3) := by decide +kernel
theorem dX5_streams_18 : decode cX5_streams 18 = .ok (.invokevirtual 179, 3) := by decide +kernel
theorem dX5_streams_21 : decode cX5_streams 21 = .ok (.iconst 0, 1) := by decide +kernel
theorem dX5_streams_22 : decode cX5_streams 22 = .ok (.istore_n 1, 1) := by decide +kernel
theorem dX5_streams_23 : decode cX5_streams 23 = .ok (.iconst 1, 1) := by decide +kernel
theorem dX5_streams_24 : decode cX5_streams 24 = .ok (.istore_n 2, 1) := by decide +kernel
theorem dX5_streams_25 : decode cX5_streams 25 = .ok (.iload_n 2, 1) := by decide +kernel
theorem dX5_streams_26 : decode cX5_streams 26 = .ok (.iconst 3, 1) := by decide +kernel
theorem dX5_streams_27 : decode cX5_streams 27 = .ok (.if_icmp .gt 41, 3) := by decide +kernel
theorem dX5_streams_30 : decode cX5_streams 30 = .ok (.aload_n 0, 1) := by decide +kernel
theorem dX5_streams_31 : decode cX5_streams 31 = .ok (.getfield 46, 3) := by decide +kernel
theorem dX5_streams_34 : decode cX5_streams 34 = .ok (.iload_n 2, 1) := by decide +kernel
theorem dX5_streams_35 : decode cX5_streams 35 = .ok (.putfield 131, 3) := by decide +kernel
theorem dX5_streams_38 : decode cX5_streams 38 = .ok (.iload_n 1, 1) := by decide +kernel
theorem dX5_streams_39 : decode cX5_streams 39 = .ok (.aload_n 0, 1) := by decide +kernel
theorem dX5_streams_40 : decode cX5_streams 40 = .ok (.getfield 28, 3) := by decide +kernel
theorem dX5_streams_43 : decode cX5_streams 43 = .ok (.aload_n 0, 1) := by decide +kernel
theorem dX5_streams_44 : decode cX5_streams 44 = .ok (.getfield 46, 3) := by decide +kernel
theorem dX5_streams_47 : decode cX5_streams 47 = .ok (.invokevirtual 250, 3) := by decide +kernel
theorem dX5_streams_50 : decode cX5_streams 50 = .ok (.ifCond .eq 9, 3) := by decide +kernel
theorem dX5_streams_53 : decode cX5_streams 53 = .ok (.iconst 1, 1) := by decide +kernel
theorem dX5_streams_54 : decode cX5_streams 54 = .ok (.iload_n 2, 1) := by decide +kernel
theorem dX5_streams_55 : decode cX5_streams 55 = .ok (.ishl, 1) := by decide +kernel
theorem dX5_streams_56 : decode cX5_streams 56 = .ok (.goto 4, 3) := by decide +kernel
theorem dX5_streams_59 : decode cX5_streams 59 = .ok (.iconst 0, 1) := by decide +kernel
theorem dX5_streams_60 : decode cX5_streams 60 = .ok (.ior, 1) := by decide +kernel
theorem dX5_streams_61 : decode cX5_streams 61 = .ok (.istore_n 1, 1) := by decide +kernel
theorem dX5_streams_62 : decode cX5_streams 62 = .ok (.iinc 2 1, 3) := by decide +kernel
theorem dX5_streams_65 : decode cX5_streams 65 = .ok (.goto (-40), 3) := by decide +kernel
theorem dX5_streams_68 : decode cX5_streams 68 = .ok (.iload_n 1, 1) := by decide +kernel
theorem dX5_streams_69 : decode cX5_streams 69 = .ok (.ireturn, 1) := by decide +kernel
theorem dX5_odds_0 : decode cX5_odds 0 = .ok (.aload_n 0, 1) := by decide +kernel
theorem dX5_odds_1 : decode cX5_odds 1 = .ok (.iload_n 1, 1) := by decide +kernel
theorem dX5_odds_2 : decode cX5_odds 2 = .ok (.invokevirtual 105, 3) := by decide +kernel
theorem dX5_odds_5 : decode cX5_odds 5 = .ok (.ifCond .eq 20, 3) := by decide +kernel
theorem dX5_odds_8 : decode cX5_odds 8 = .ok (.aload_n 0, 1) := by decide +kernel
theorem dX5_odds_9 : decode cX5_odds 9 = .ok (.iload_n 2, 1) := by decide +kernel
theorem dX5_odds_10 : decode cX5_odds 10 = .ok (.invokevirtual 89, 3) := by decide +kernel
theorem dX5_odds_13 : decode cX5_odds 13 = .ok (.ifCond .eq 12, 3) := by decide +kernel
theorem dX5_odds_16 : decode cX5_odds 16 = .ok (.iload_n 3, 1) := by decide +kernel
theorem dX5_odds_17 : decode cX5_odds 17 = .ok (.iconst 0, 1) := by decide +kernel
theorem dX5_odds_18 : decode cX5_odds 18 = .ok (.iconst 1, 1) := by decide +kernel
theorem dX5_odds_19 : decode cX5_odds 19 = .ok (.invokestatic 120, 3) := by decide +kernel
theorem dX5_odds_22 : decode cX5_odds 22 = .ok (.ifCond .ne 7, 3) := by decide +kernel
theorem dX5_odds_25 : decode cX5_odds 25 = .ok (.ldc2_w 258, 3) := by decide +kernel
theorem dX5_odds_28 : decode cX5_odds 28 = .ok (.lreturn, 1) := by decide +kernel
theorem dX5_odds_29 : decode cX5_odds 29 = .ok (.aload_n 0, 1) := by decide +kernel
theorem dX5_odds_30 : decode cX5_odds 30 = .ok (.iload_n 1, 1) := by decide +kernel
theorem dX5_odds_31 : decode cX5_odds 31 = .ok (.iload_n 2, 1) := by decide +kernel
theorem dX5_odds_32 : decode cX5_odds 32 = .ok (.invokevirtual 260, 3) := by decide +kernel
theorem dX5_odds_35 : decode cX5_odds 35 = .ok (.istore 4, 2) := by decide +kernel
theorem dX5_odds_37 : decode cX5_odds 37 = .ok (.bipush 100, 2) := by decide +kernel
theorem dX5_odds_39 : decode cX5_odds 39 = .ok (.istore 5, 2) := by decide +kernel
theorem dX5_odds_41 : decode cX5_odds 41 = .ok (.iload 4, 2) := by decide +kernel
theorem dX5_odds_43 : decode cX5_odds 43 = .ok (.iload 5, 2) := by decide +kernel
theorem dX5_odds_45 : decode cX5_odds 45 = .ok (.invokestatic 263, 3) := by decide +kernel
theorem dX5_odds_48 : decode cX5_odds 48 = .ok (.istore 6, 2) := by decide +kernel
theorem dX5_odds_50 : decode cX5_odds 50 = .ok (.iload_n 3, 1) := by decide +kernel
theorem dX5_odds_51 : decode cX5_odds 51 = .ok (.ifCond .ne 8, 3) := by decide +kernel
theorem dX5_odds_54 : decode cX5_odds 54 = .ok (.iload 4, 2) := by decide +kernel
theorem dX5_odds_56 : decode cX5_odds 56 = .ok (.goto 5, 3) := by decide +kernel
theorem dX5_odds_59 : decode cX5_odds 59 = .ok (.iload 5, 2) := by decide +kernel
theorem dX5_odds_61 : decode cX5_odds 61 = .ok (.iload 6, 2) := by decide +kernel
theorem dX5_odds_63 : decode cX5_odds 63 = .ok (.idiv, 1) := by decide +kernel
theorem dX5_odds_64 : decode cX5_odds 64 = .ok (.i2l, 1) := by decide +kernel
theorem dX5_odds_65 : decode cX5_odds 65 = .ok (.lreturn, 1) := by decide +kernel
theorem dX5_pairsOfTides_0 : decode cX5_pairsOfTides 0 = .ok (.aload_n 0, 1) := by decide +kernel
theorem dX5_pairsOfTides_1 : decode cX5_pairsOfTides 1 = .ok (.getfield 42, 3) := by decide +kernel
theorem dX5_pairsOfTides_4 : decode cX5_pairsOfTides 4 = .ok (.getfield 108, 3) := by decide +kernel
theorem dX5_pairsOfTides_7 : decode cX5_pairsOfTides 7 = .ok (.iload_n 1, 1) := by decide +kernel
theorem dX5_pairsOfTides_8 : decode cX5_pairsOfTides 8 = .ok (.iaload, 1) := by decide +kernel
theorem dX5_pairsOfTides_9 : decode cX5_pairsOfTides 9 = .ok (.istore_n 3, 1) := by decide +kernel
theorem dX5_pairsOfTides_10 : decode cX5_pairsOfTides 10 = .ok (.iconst 0, 1) := by decide +kernel
theorem dX5_pairsOfTides_11 : decode cX5_pairsOfTides 11 = .ok (.istore 4, 2) := by decide +kernel
theorem dX5_pairsOfTides_13 : decode cX5_pairsOfTides 13 = .ok (.iconst 0, 1) := by decide +kernel
theorem dX5_pairsOfTides_14 : decode cX5_pairsOfTides 14 = .ok (.istore 5, 2) := by decide +kernel
theorem dX5_pairsOfTides_16 : decode cX5_pairsOfTides 16 = .ok (.iload 5, 2) := by decide +kernel
theorem dX5_pairsOfTides_18 : decode cX5_pairsOfTides 18 = .ok (.bipush 9, 2) := by decide +kernel
theorem dX5_pairsOfTides_20 : decode cX5_pairsOfTides 20 = .ok (.if_icmp .gt 66, 3) := by decide +kernel
theorem dX5_pairsOfTides_23 : decode cX5_pairsOfTides 23 = .ok (.aload_n 0, 1) := by decide +kernel
theorem dX5_pairsOfTides_24 : decode cX5_pairsOfTides 24 = .ok (.getfield 42, 3) := by decide +kernel
theorem dX5_pairsOfTides_27 : decode cX5_pairsOfTides 27 = .ok (.iload_n 1, 1) := by decide +kernel
theorem dX5_pairsOfTides_28 : decode cX5_pairsOfTides 28 = .ok (.iload 5, 2) := by decide +kernel
theorem dX5_pairsOfTides_30 : decode cX5_pairsOfTides 30 = .ok (.invokevirtual 143, 3) := by decide +kernel
theorem dX5_pairsOfTides_33 : decode cX5_pairsOfTides 33 = .ok (.istore 6, 2) := by decide +kernel
theorem dX5_pairsOfTides_35 : decode cX5_pairsOfTides 35 = .ok (.iconst 0, 1) := by decide +kernel
theorem dX5_pairsOfTides_36 : decode cX5_pairsOfTides 36 = .ok (.istore 7, 2) := by decide +kernel
theorem dX5_pairsOfTides_38 : decode cX5_pairsOfTides 38 = .ok (.iload 7, 2) := by decide +kernel
theorem dX5_pairsOfTides_40 : decode cX5_pairsOfTides 40 = .ok (.bipush 9, 2) := by decide +kernel
theorem dX5_pairsOfTides_42 : decode cX5_pairsOfTides 42 = .ok (.if_icmp .gt 38, 3) := by decide +kernel
theorem dX5_pairsOfTides_45 : decode cX5_pairsOfTides 45 = .ok (.iload 4, 2) := by decide +kernel
theorem dX5_pairsOfTides_47 : decode cX5_pairsOfTides 47 = .ok (.aload_n 0, 1) := by decide +kernel
theorem dX5_pairsOfTides_48 : decode cX5_pairsOfTides 48 = .ok (.getfield 42, 3) := by decide +kernel
theorem dX5_pairsOfTides_51 : decode cX5_pairsOfTides 51 = .ok (.iload 6, 2) := by decide +kernel
theorem dX5_pairsOfTides_53 : decode cX5_pairsOfTides 53 = .ok (.iload_n 3, 1) := by decide +kernel
theorem dX5_pairsOfTides_54 : decode cX5_pairsOfTides 54 = .ok (.iload 7, 2) := by decide +kernel
theorem dX5_pairsOfTides_56 : decode cX5_pairsOfTides 56 = .ok (.invokevirtual 243, 3) := by decide +kernel
theorem dX5_pairsOfTides_59 : decode cX5_pairsOfTides 59 = .ok (.iload_n 2, 1) := by decide +kernel
theorem dX5_pairsOfTides_60 : decode cX5_pairsOfTides 60 = .ok (.if_icmp .ne 7, 3) := by decide +kernel
theorem dX5_pairsOfTides_63 : decode cX5_pairsOfTides 63 = .ok (.iconst 1, 1) := by decide +kernel
theorem dX5_pairsOfTides_64 : decode cX5_pairsOfTides 64 = .ok (.goto 4, 3) := by decide +kernel
theorem dX5_pairsOfTides_67 : decode cX5_pairsOfTides 67 = .ok (.iconst 0, 1) := by decide +kernel
theorem dX5_pairsOfTides_68 : decode cX5_pairsOfTides 68 = .ok (.invokestatic 159, 3) := by decide +kernel
theorem dX5_pairsOfTides_71 : decode cX5_pairsOfTides 71 = .ok (.iadd, 1) := by decide +kernel
theorem dX5_pairsOfTides_72 : decode cX5_pairsOfTides 72 = .ok (.istore 4, 2) := by decide +kernel
theorem dX5_pairsOfTides_74 : decode cX5_pairsOfTides 74 = .ok (.iinc 7 1, 3) := by decide +kernel
theorem dX5_pairsOfTides_77 : decode cX5_pairsOfTides 77 = .ok (.goto (-39), 3) := by decide +kernel
theorem dX5_pairsOfTides_80 : decode cX5_pairsOfTides 80 = .ok (.iinc 5 1, 3) := by decide +kernel
theorem dX5_pairsOfTides_83 : decode cX5_pairsOfTides 83 = .ok (.goto (-67), 3) := by decide +kernel
theorem dX5_pairsOfTides_86 : decode cX5_pairsOfTides 86 = .ok (.iload 4, 2) := by decide +kernel
theorem dX5_pairsOfTides_88 : decode cX5_pairsOfTides 88 = .ok (.ireturn, 1) := by decide +kernel
theorem dX5_commonDivisor_0 : decode cX5_commonDivisor 0 = .ok (.iload_n 1, 1) := by decide +kernel
theorem dX5_commonDivisor_1 : decode cX5_commonDivisor 1 = .ok (.istore_n 2, 1) := by decide +kernel
theorem dX5_commonDivisor_2 : decode cX5_commonDivisor 2 = .ok (.iload_n 2, 1) := by decide +kernel
theorem dX5_commonDivisor_3 : decode cX5_commonDivisor 3 = .ok (.iconst 1, 1) := by decide +kernel
theorem dX5_commonDivisor_4 : decode cX5_commonDivisor 4 = .ok (.if_icmp .le 23, 3) := by decide +kernel
theorem dX5_commonDivisor_7 : decode cX5_commonDivisor 7 = .ok (.iload_n 0, 1) := by decide +kernel
theorem dX5_commonDivisor_8 : decode cX5_commonDivisor 8 = .ok (.iload_n 2, 1) := by decide +kernel
theorem dX5_commonDivisor_9 : decode cX5_commonDivisor 9 = .ok (.irem, 1) := by decide +kernel
theorem dX5_commonDivisor_10 : decode cX5_commonDivisor 10 = .ok (.ifCond .ne 11, 3) := by decide +kernel
theorem dX5_commonDivisor_13 : decode cX5_commonDivisor 13 = .ok (.iload_n 1, 1) := by decide +kernel
theorem dX5_commonDivisor_14 : decode cX5_commonDivisor 14 = .ok (.iload_n 2, 1) := by decide +kernel
theorem dX5_commonDivisor_15 : decode cX5_commonDivisor 15 = .ok (.irem, 1) := by decide +kernel
theorem dX5_commonDivisor_16 : decode cX5_commonDivisor 16 = .ok (.ifCond .ne 5, 3) := by decide +kernel
theorem dX5_commonDivisor_19 : decode cX5_commonDivisor 19 = .ok (.iload_n 2, 1) := by decide +kernel
theorem dX5_commonDivisor_20 : decode cX5_commonDivisor 20 = .ok (.ireturn, 1) := by decide +kernel
theorem dX5_commonDivisor_21 : decode cX5_commonDivisor 21 = .ok (.iinc 2 (-1), 3) := by decide +kernel
theorem dX5_commonDivisor_24 : decode cX5_commonDivisor 24 = .ok (.goto (-22), 3) := by decide +kernel
theorem dX5_commonDivisor_27 : decode cX5_commonDivisor 27 = .ok (.iconst 1, 1) := by decide +kernel
theorem dX5_commonDivisor_28 : decode cX5_commonDivisor 28 = .ok (.ireturn, 1) := by decide +kernel
theorem dX5_sheet_0 : decode cX5_sheet 0 = .ok (.aload_n 0, 1) := by decide +kernel
theorem dX5_sheet_1 : decode cX5_sheet 1 = .ok (.iconst 0, 1) := by decide +kernel
theorem dX5_sheet_2 : decode cX5_sheet 2 = .ok (.putfield 49, 3) := by decide +kernel
theorem dX5_sheet_5 : decode cX5_sheet 5 = .ok (.iload_n 1, 1) := by decide +kernel
theorem dX5_sheet_6 : decode cX5_sheet 6 = .ok (.invokestatic 53, 3) := by decide +kernel
theorem dX5_sheet_9 : decode cX5_sheet 9 = .ok (.ifCond .ne 5, 3) := by decide +kernel
theorem dX5_sheet_12 : decode cX5_sheet 12 = .ok (.iconst (-1), 1) := by decide +kernel
theorem dX5_sheet_13 : decode cX5_sheet 13 = .ok (.ireturn, 1) := by decide +kernel
theorem dX5_sheet_14 : decode cX5_sheet 14 = .ok (.iload_n 2, 1) := by decide +kernel
theorem dX5_sheet_15 : decode cX5_sheet 15 = .ok (.invokestatic 57, 3) := by decide +kernel
theorem dX5_sheet_18 : decode cX5_sheet 18 = .ok (.ifCond .eq 9, 3) := by decide +kernel
theorem dX5_sheet_21 : decode cX5_sheet 21 = .ok (.iload_n 3, 1) := by decide +kernel
theorem dX5_sheet_22 : decode cX5_sheet 22 = .ok (.bipush 60, 2) := by decide +kernel
theorem dX5_sheet_24 : decode cX5_sheet 24 = .ok (.if_icmp .le 6, 3) := by decide +kernel
theorem dX5_sheet_27 : decode cX5_sheet 27 = .ok (.bipush (-2), 2) := by decide +kernel
theorem dX5_sheet_29 : decode cX5_sheet 29 = .ok (.ireturn, 1) := by decide +kernel
theorem dX5_sheet_30 : decode cX5_sheet 30 = .ok (.iload_n 3, 1) := by decide +kernel
theorem dX5_sheet_31 : decode cX5_sheet 31 = .ok (.ifCond .ge 9, 3) := by decide +kernel
theorem dX5_sheet_34 : decode cX5_sheet 34 = .ok (.aload_n 0, 1) := by decide +kernel
theorem dX5_sheet_35 : decode cX5_sheet 35 = .ok (.iconst 4, 1) := by decide +kernel
theorem dX5_sheet_36 : decode cX5_sheet 36 = .ok (.invokevirtual 64, 3) := by decide +kernel
theorem dX5_sheet_39 : decode cX5_sheet 39 = .ok (.ireturn, 1) := by decide +kernel
theorem dX5_sheet_40 : decode cX5_sheet 40 = .ok (.aload_n 0, 1) := by decide +kernel
theorem dX5_sheet_41 : decode cX5_sheet 41 = .ok (.getfield 13, 3) := by decide +kernel
theorem dX5_sheet_44 : decode cX5_sheet 44 = .ok (.iload_n 1, 1) := by decide +kernel
theorem dX5_sheet_45 : decode cX5_sheet 45 = .ok (.aaload, 1) := by decide +kernel
theorem dX5_sheet_46 : decode cX5_sheet 46 = .ok (.iload_n 2, 1) := by decide +kernel
theorem dX5_sheet_47 : decode cX5_sheet 47 = .ok (.iload_n 3, 1) := by decide +kernel
theorem dX5_sheet_48 : decode cX5_sheet 48 = .ok (.invokevirtual 266, 3) := by decide +kernel
theorem dX5_sheet_51 : decode cX5_sheet 51 = .ok (.iconst 1, 1) := by decide +kernel
theorem dX5_sheet_52 : decode cX5_sheet 52 = .ok (.ireturn, 1) := by decide +kernel
theorem dX5_lose_0 : decode cX5_lose 0 = .ok (.iload_n 1, 1) := by decide +kernel
theorem dX5_lose_1 : decode cX5_lose 1 = .ok (.invokestatic 53, 3) := by decide +kernel
theorem dX5_lose_4 : decode cX5_lose 4 = .ok (.ifCond .ne 5, 3) := by decide +kernel
theorem dX5_lose_7 : decode cX5_lose 7 = .ok (.iconst (-1), 1) := by decide +kernel
theorem dX5_lose_8 : decode cX5_lose 8 = .ok (.ireturn, 1) := by decide +kernel
theorem dX5_lose_9 : decode cX5_lose 9 = .ok (.aload_n 0, 1) := by decide +kernel
theorem dX5_lose_10 : decode cX5_lose 10 = .ok (.getfield 13, 3) := by decide +kernel
theorem dX5_lose_13 : decode cX5_lose 13 = .ok (.iload_n 1, 1) := by decide +kernel
theorem dX5_lose_14 : decode cX5_lose 14 = .ok (.aaload, 1) := by decide +kernel
theorem dX5_lose_15 : decode cX5_lose 15 = .ok (.getfield 269, 3) := by decide +kernel
theorem dX5_lose_18 : decode cX5_lose 18 = .ok (.invokestatic 159, 3) := by decide +kernel
theorem dX5_lose_21 : decode cX5_lose 21 = .ok (.istore_n 2, 1) := by decide +kernel
theorem dX5_lose_22 : decode cX5_lose 22 = .ok (.aload_n 0, 1) := by decide +kernel
theorem dX5_lose_23 : decode cX5_lose 23 = .ok (.getfield 13, 3) := by decide +kernel
theorem dX5_lose_26 : decode cX5_lose 26 = .ok (.iload_n 1, 1) := by decide +kernel
theorem dX5_lose_27 : decode cX5_lose 27 = .ok (.aaload, 1) := by decide +kernel
theorem dX5_lose_28 : decode cX5_lose 28 = .ok (.iconst 0, 1) := by decide +kernel
theorem dX5_lose_29 : decode cX5_lose 29 = .ok (.putfield 269, 3) := by decide +kernel
theorem dX5_lose_32 : decode cX5_lose 32 = .ok (.iload_n 2, 1) := by decide +kernel
theorem dX5_lose_33 : decode cX5_lose 33 = .ok (.ireturn, 1) := by decide +kernel
theorem dX5_put_0 : decode cX5_put 0 = .ok (.aload_n 0, 1) := by decide +kernel
theorem dX5_put_1 : decode cX5_put 1 = .ok (.iconst 0, 1) := by decide +kernel
theorem dX5_put_2 : decode cX5_put 2 = .ok (.putfield 49, 3) := by decide +kernel
theorem dX5_put_5 : decode cX5_put 5 = .ok (.iload_n 1, 1) := by decide +kernel
theorem dX5_put_6 : decode cX5_put 6 = .ok (.invokestatic 53, 3) := by decide +kernel
theorem dX5_put_9 : decode cX5_put 9 = .ok (.ifCond .ne 5, 3) := by decide +kernel
theorem dX5_put_12 : decode cX5_put 12 = .ok (.iconst (-1), 1) := by decide +kernel
theorem dX5_put_13 : decode cX5_put 13 = .ok (.ireturn, 1) := by decide +kernel
theorem dX5_put_14 : decode cX5_put 14 = .ok (.aload_n 0, 1) := by decide +kernel
theorem dX5_put_15 : decode cX5_put 15 = .ok (.getfield 13, 3) := by decide +kernel
theorem dX5_put_18 : decode cX5_put 18 = .ok (.iload_n 1, 1) := by decide +kernel
theorem dX5_put_19 : decode cX5_put 19 = .ok (.aaload, 1) := by decide +kernel
theorem dX5_put_20 : decode cX5_put 20 = .ok (.getfield 269, 3) := by decide +kernel
theorem dX5_put_23 : decode cX5_put 23 = .ok (.ifCond .ne 9, 3) := by decide +kernel
theorem dX5_put_26 : decode cX5_put 26 = .ok (.aload_n 0, 1) := by decide +kernel
theorem dX5_put_27 : decode cX5_put 27 = .ok (.iconst 1, 1) := by decide +kernel
theorem dX5_put_28 : decode cX5_put 28 = .ok (.invokevirtual 64, 3) := by decide +kernel
theorem dX5_put_31 : decode cX5_put 31 = .ok (.ireturn, 1) := by decide +kernel
theorem dX5_put_32 : decode cX5_put 32 = .ok (.aload_n 0, 1) := by decide +kernel
theorem dX5_put_33 : decode cX5_put 33 = .ok (.getfield 13, 3) := by decide +kernel
theorem dX5_put_36 : decode cX5_put 36 = .ok (.iload_n 1, 1) := by decide +kernel
theorem dX5_put_37 : decode cX5_put 37 = .ok (.aaload, 1) := by decide +kernel
theorem dX5_put_38 : decode cX5_put 38 = .ok (.iload_n 2, 1) := by decide +kernel
theorem dX5_put_39 : decode cX5_put 39 = .ok (.iconst 1, 1) := by decide +kernel
theorem dX5_put_40 : decode cX5_put 40 = .ok (.invokevirtual 273, 3) := by decide +kernel
theorem dX5_put_43 : decode cX5_put 43 = .ok (.ifCond .ne 9, 3) := by decide +kernel
theorem dX5_put_46 : decode cX5_put 46 = .ok (.aload_n 0, 1) := by decide +kernel
theorem dX5_put_47 : decode cX5_put 47 = .ok (.iconst 3, 1) := by decide +kernel
theorem dX5_put_48 : decode cX5_put 48 = .ok (.invokevirtual 64, 3) := by decide +kernel
theorem dX5_put_51 : decode cX5_put 51 = .ok (.ireturn, 1) := by decide +kernel
theorem dX5_put_52 : decode cX5_put 52 = .ok (.aload_n 0, 1) := by decide +kernel
theorem dX5_put_53 : decode cX5_put 53 = .ok (.getfield 13, 3) := by decide +kernel
theorem dX5_put_56 : decode cX5_put 56 = .ok (.iload_n 1, 1) := by decide +kernel
theorem dX5_put_57 : decode cX5_put 57 = .ok (.aaload, 1) := by decide +kernel
theorem dX5_put_58 : decode cX5_put 58 = .ok (.getfield 183, 3) := by decide +kernel
theorem dX5_put_61 : decode cX5_put 61 = .ok (.iload_n 2, 1) := by decide +kernel
theorem dX5_put_62 : decode cX5_put 62 = .ok (.aload_n 0, 1) := by decide +kernel
theorem dX5_put_63 : decode cX5_put 63 = .ok (.getfield 13, 3) := by decide +kernel
theorem dX5_put_66 : decode cX5_put 66 = .ok (.iload_n 1, 1) := by decide +kernel
theorem dX5_put_67 : decode cX5_put 67 = .ok (.aaload, 1) := by decide +kernel
theorem dX5_put_68 : decode cX5_put 68 = .ok (.iload_n 3, 1) := by decide +kernel
theorem dX5_put_69 : decode cX5_put 69 = .ok (.invokevirtual 276, 3) := by decide +kernel
theorem dX5_put_72 : decode cX5_put 72 = .ok (.iastore, 1) := by decide +kernel
theorem dX5_put_73 : decode cX5_put 73 = .ok (.iconst 1, 1) := by decide +kernel
theorem dX5_put_74 : decode cX5_put 74 = .ok (.ireturn, 1) := by decide +kernel
theorem dX5_cell_0 : decode cX5_cell 0 = .ok (.aload_n 0, 1) := by decide +kernel
theorem dX5_cell_1 : decode cX5_cell 1 = .ok (.iconst 0, 1) := by decide +kernel
theorem dX5_cell_2 : decode cX5_cell 2 = .ok (.putfield 49, 3) := by decide +kernel
theorem dX5_cell_5 : decode cX5_cell 5 = .ok (.iload_n 1, 1) := by decide +kernel
theorem dX5_cell_6 : decode cX5_cell 6 = .ok (.invokestatic 53, 3) := by decide +kernel
theorem dX5_cell_9 : decode cX5_cell 9 = .ok (.ifCond .eq 10, 3) := by decide +kernel
theorem dX5_cell_12 : decode cX5_cell 12 = .ok (.iload_n 3, 1) := by decide +kernel
theorem dX5_cell_13 : decode cX5_cell 13 = .ok (.invokestatic 57, 3) := by decide +kernel
theorem dX5_cell_16 : decode cX5_cell 16 = .ok (.ifCond .ne 7, 3) := by decide +kernel
theorem dX5_cell_19 : decode cX5_cell 19 = .ok (.ldc2_w 258, 3) := by decide +kernel
theorem dX5_cell_22 : decode cX5_cell 22 = .ok (.lreturn, 1) := by decide +kernel
theorem dX5_cell_23 : decode cX5_cell 23 = .ok (.aload_n 0, 1) := by decide +kernel
theorem dX5_cell_24 : decode cX5_cell 24 = .ok (.getfield 13, 3) := by decide +kernel
theorem dX5_cell_27 : decode cX5_cell 27 = .ok (.iload_n 1, 1) := by decide +kernel
theorem dX5_cell_28 : decode cX5_cell 28 = .ok (.aaload, 1) := by decide +kernel
theorem dX5_cell_29 : decode cX5_cell 29 = .ok (.iload_n 3, 1) := by decide +kernel
theorem dX5_cell_30 : decode cX5_cell 30 = .ok (.iload_n 2, 1) := by decide +kernel
theorem dX5_cell_31 : decode cX5_cell 31 = .ok (.iconst 1, 1) := by decide +kernel
theorem dX5_cell_32 : decode cX5_cell 32 = .ok (.invokestatic 60, 3) := by decide +kernel
theorem dX5_cell_35 : decode cX5_cell 35 = .ok (.istore 4, 2) := by decide +kernel
theorem dX5_cell_37 : decode cX5_cell 37 = .ok (.iload 4, 2) := by decide +kernel
theorem dX5_cell_39 : decode cX5_cell 39 = .ok (.ifCond .eq 13, 3) := by decide +kernel
theorem dX5_cell_42 : decode cX5_cell 42 = .ok (.aload_n 0, 1) := by decide +kernel
theorem dX5_cell_43 : decode cX5_cell 43 = .ok (.iload 4, 2) := by decide +kernel
theorem dX5_cell_45 : decode cX5_cell 45 = .ok (.putfield 49, 3) := by decide +kernel
theorem dX5_cell_48 : decode cX5_cell 48 = .ok (.ldc2_w 258, 3) := by decide +kernel
theorem dX5_cell_51 : decode cX5_cell 51 = .ok (.lreturn, 1) := by decide +kernel
theorem dX5_cell_52 : decode cX5_cell 52 = .ok (.aload_n 0, 1) := by decide +kernel
theorem dX5_cell_53 : decode cX5_cell 53 = .ok (.getfield 13, 3) := by decide +kernel
theorem dX5_cell_56 : decode cX5_cell 56 = .ok (.iload_n 1, 1) := by decide +kernel
theorem dX5_cell_57 : decode cX5_cell 57 = .ok (.aaload, 1) := by decide +kernel
theorem dX5_cell_58 : decode cX5_cell 58 = .ok (.getfield 183, 3) := by decide +kernel
theorem dX5_cell_61 : decode cX5_cell 61 = .ok (.iload_n 2, 1) := by decide +kernel
theorem dX5_cell_62 : decode cX5_cell 62 = .ok (.iaload, 1) := by decide +kernel
theorem dX5_cell_63 : decode cX5_cell 63 = .ok (.i2l, 1) := by decide +kernel
theorem dX5_cell_64 : decode cX5_cell 64 = .ok (.lreturn, 1) := by decide +kernel
theorem dX5_copy_0 : decode cX5_copy 0 = .ok (.aload_n 0, 1) := by decide +kernel
theorem dX5_copy_1 : decode cX5_copy 1 = .ok (.iconst 0, 1) := by decide +kernel
theorem dX5_copy_2 : decode cX5_copy 2 = .ok (.putfield 49, 3) := by decide +kernel
theorem dX5_copy_5 : decode cX5_copy 5 = .ok (.iload_n 1, 1) := by decide +kernel
theorem dX5_copy_6 : decode cX5_copy 6 = .ok (.invokestatic 53, 3) := by decide +kernel
theorem dX5_copy_9 : decode cX5_copy 9 = .ok (.ifCond .eq 10, 3) := by decide +kernel
theorem dX5_copy_12 : decode cX5_copy 12 = .ok (.iload_n 3, 1) := by decide +kernel
theorem dX5_copy_13 : decode cX5_copy 13 = .ok (.invokestatic 53, 3) := by decide +kernel
theorem dX5_copy_16 : decode cX5_copy 16 = .ok (.ifCond .ne 5, 3) := by decide +kernel
theorem dX5_copy_19 : decode cX5_copy 19 = .ok (.iconst (-1), 1) := by decide +kernel
theorem dX5_copy_20 : decode cX5_copy 20 = .ok (.ireturn, 1) := by decide +kernel
theorem dX5_copy_21 : decode cX5_copy 21 = .ok (.aload_n 0, 1) := by decide +kernel
theorem dX5_copy_22 : decode cX5_copy 22 = .ok (.getfield 13, 3) := by decide +kernel
theorem dX5_copy_25 : decode cX5_copy 25 = .ok (.iload_n 1, 1) := by decide +kernel
theorem dX5_copy_26 : decode cX5_copy 26 = .ok (.aaload, 1) := by decide +kernel
theorem dX5_copy_27 : decode cX5_copy 27 = .ok (.astore 6, 2) := by decide +kernel
theorem dX5_copy_29 : decode cX5_copy 29 = .ok (.aload_n 0, 1) := by decide +kernel
theorem dX5_copy_30 : decode cX5_copy 30 = .ok (.getfield 13, 3) := by decide +kernel
theorem dX5_copy_33 : decode cX5_copy 33 = .ok (.iload_n 3, 1) := by decide +kernel
theorem dX5_copy_34 : decode cX5_copy 34 = .ok (.aaload, 1) := by decide +kernel
theorem dX5_copy_35 : decode cX5_copy 35 = .ok (.astore 7, 2) := by decide +kernel
theorem dX5_copy_37 : decode cX5_copy 37 = .ok (.aload 6, 2) := by decide +kernel
theorem dX5_copy_39 : decode cX5_copy 39 = .ok (.getfield 269, 3) := by decide +kernel
theorem dX5_copy_42 : decode cX5_copy 42 = .ok (.ifCond .eq 11, 3) := by decide +kernel
theorem dX5_copy_45 : decode cX5_copy 45 = .ok (.aload 7, 2) := by decide +kernel
theorem dX5_copy_47 : decode cX5_copy 47 = .ok (.getfield 269, 3) := by decide +kernel
theorem dX5_copy_50 : decode cX5_copy 50 = .ok (.ifCond .ne 9, 3) := by decide +kernel
theorem dX5_copy_53 : decode cX5_copy 53 = .ok (.aload_n 0, 1) := by decide +kernel
theorem dX5_copy_54 : decode cX5_copy 54 = .ok (.iconst 1, 1) := by decide +kernel
theorem dX5_copy_55 : decode cX5_copy 55 = .ok (.invokevirtual 64, 3) := by decide +kernel
theorem dX5_copy_58 : decode cX5_copy 58 = .ok (.ireturn, 1) := by decide +kernel
theorem dX5_copy_59 : decode cX5_copy 59 = .ok (.aload 6, 2) := by decide +kernel
theorem dX5_copy_61 : decode cX5_copy 61 = .ok (.getfield 279, 3) := by decide +kernel
theorem dX5_copy_64 : decode cX5_copy 64 = .ok (.aload 7, 2) := by decide +kernel
theorem dX5_copy_66 : decode cX5_copy 66 = .ok (.getfield 279, 3) := by decide +kernel
theorem dX5_copy_69 : decode cX5_copy 69 = .ok (.if_icmp .eq 9, 3) := by decide +kernel
theorem dX5_copy_72 : decode cX5_copy 72 = .ok (.aload_n 0, 1) := by decide +kernel
theorem dX5_copy_73 : decode cX5_copy 73 = .ok (.iconst 2, 1) := by decide +kernel
theorem dX5_copy_74 : decode cX5_copy 74 = .ok (.invokevirtual 64, 3) := by decide +kernel
theorem dX5_copy_77 : decode cX5_copy 77 = .ok (.ireturn, 1) := by decide +kernel
theorem dX5_copy_78 : decode cX5_copy 78 = .ok (.aload 6, 2) := by decide +kernel
theorem dX5_copy_80 : decode cX5_copy 80 = .ok (.iload_n 2, 1) := by decide +kernel
theorem dX5_copy_81 : decode cX5_copy 81 = .ok (.iload 5, 2) := by decide +kernel
theorem dX5_copy_83 : decode cX5_copy 83 = .ok (.invokevirtual 273, 3) := by decide +kernel
theorem dX5_copy_86 : decode cX5_copy 86 = .ok (.ifCond .eq 15, 3) := by decide +kernel
theorem dX5_copy_89 : decode cX5_copy 89 = .ok (.aload 7, 2) := by decide +kernel
theorem dX5_copy_91 : decode cX5_copy 91 = .ok (.iload 4, 2) := by decide +kernel
theorem dX5_copy_93 : decode cX5_copy 93 = .ok (.iload 5, 2) := by decide +kernel
theorem dX5_copy_95 : decode cX5_copy 95 = .ok (.invokevirtual 273, 3) := by decide +kernel
theorem dX5_copy_98 : decode cX5_copy 98 = .ok (.ifCond .ne 9, 3) := by decide +kernel
theorem dX5_copy_101 : decode cX5_copy 101 = .ok (.aload_n 0, 1) := by decide +kernel
theorem dX5_copy_102 : decode cX5_copy 102 = .ok (.iconst 3, 1) := by decide +kernel
theorem dX5_copy_103 : decode cX5_copy 103 = .ok (.invokevirtual 64, 3) := by decide +kernel
theorem dX5_copy_106 : decode cX5_copy 106 = .ok (.ireturn, 1) := by decide +kernel
theorem dX5_copy_107 : decode cX5_copy 107 = .ok (.aload 6, 2) := by decide +kernel
theorem dX5_copy_109 : decode cX5_copy 109 = .ok (.getfield 183, 3) := by decide +kernel
theorem dX5_copy_112 : decode cX5_copy 112 = .ok (.iload_n 2, 1) := by decide +kernel
theorem dX5_copy_113 : decode cX5_copy 113 = .ok (.aload 7, 2) := by decide +kernel
theorem dX5_copy_115 : decode cX5_copy 115 = .ok (.getfield 183, 3) := by decide +kernel
theorem dX5_copy_118 : decode cX5_copy 118 = .ok (.iload 4, 2) := by decide +kernel
theorem dX5_copy_120 : decode cX5_copy 120 = .ok (.iload 5, 2) := by decide +kernel
theorem dX5_copy_122 : decode cX5_copy 122 = .ok (.invokestatic 282, 3) := by decide +kernel
theorem dX5_copy_125 : decode cX5_copy 125 = .ok (.iload 5, 2) := by decide +kernel
theorem dX5_copy_127 : decode cX5_copy 127 = .ok (.ireturn, 1) := by decide +kernel
theorem dX5_tell_0 : decode cX5_tell 0 = .ok (.aload_n 0, 1) := by decide +kernel
theorem dX5_tell_1 : decode cX5_tell 1 = .ok (.iload_n 1, 1) := by decide +kernel
theorem dX5_tell_2 : decode cX5_tell 2 = .ok (.invokevirtual 105, 3) := by decide +kernel
theorem dX5_tell_5 : decode cX5_tell 5 = .ok (.ifCond .ne 5, 3) := by decide +kernel
theorem dX5_tell_8 : decode cX5_tell 8 = .ok (.iconst (-1), 1) := by decide +kernel
theorem dX5_tell_9 : decode cX5_tell 9 = .ok (.ireturn, 1) := by decide +kernel
theorem dX5_tell_10 : decode cX5_tell 10 = .ok (.aload_n 0, 1) := by decide +kernel
theorem dX5_tell_11 : decode cX5_tell 11 = .ok (.getfield 42, 3) := by decide +kernel
theorem dX5_tell_14 : decode cX5_tell 14 = .ok (.getfield 108, 3) := by decide +kernel
theorem dX5_tell_17 : decode cX5_tell 17 = .ok (.iload_n 1, 1) := by decide +kernel
theorem dX5_tell_18 : decode cX5_tell 18 = .ok (.iaload, 1) := by decide +kernel
theorem dX5_tell_19 : decode cX5_tell 19 = .ok (.lookupswitch 37 #[(0, 25), (1, 31)], 25) := by decide +kernel
theorem dX5_tell_44 : decode cX5_tell 44 = .ok (.aload_n 0, 1) := by decide +kernel
theorem dX5_tell_45 : decode cX5_tell 45 = .ok (.iload_n 1, 1) := by decide +kernel
theorem dX5_tell_46 : decode cX5_tell 46 = .ok (.invokevirtual 288, 3) := by decide +kernel
theorem dX5_tell_49 : decode cX5_tell 49 = .ok (.ireturn, 1) := by decide +kernel
theorem dX5_tell_50 : decode cX5_tell 50 = .ok (.aload_n 0, 1) := by decide +kernel
theorem dX5_tell_51 : decode cX5_tell 51 = .ok (.iload_n 1, 1) := by decide +kernel
theorem dX5_tell_52 : decode cX5_tell 52 = .ok (.invokevirtual 291, 3) := by decide +kernel
theorem dX5_tell_55 : decode cX5_tell 55 = .ok (.ireturn, 1) := by decide +kernel
theorem dX5_tell_56 : decode cX5_tell 56 = .ok (.aload_n 0, 1) := by decide +kernel
theorem dX5_tell_57 : decode cX5_tell 57 = .ok (.iload_n 1, 1) := by decide +kernel
theorem dX5_tell_58 : decode cX5_tell 58 = .ok (.invokevirtual 294, 3) := by decide +kernel
theorem dX5_tell_61 : decode cX5_tell 61 = .ok (.ireturn, 1) := by decide +kernel
theorem dX5_shrimpBody_0 : decode cX5_shrimpBody 0 = .ok (.aload_n 0, 1) := by decide +kernel
theorem dX5_shrimpBody_1 : decode cX5_shrimpBody 1 = .ok (.iconst 1, 1) := by decide +kernel
theorem dX5_shrimpBody_2 : decode cX5_shrimpBody 2 = .ok (.invokevirtual 297, 3) := by decide +kernel
theorem dX5_shrimpBody_5 : decode cX5_shrimpBody 5 = .ok (.aload_n 0, 1) := by decide +kernel
theorem dX5_shrimpBody_6 : decode cX5_shrimpBody 6 = .ok (.getfield 42, 3) := by decide +kernel
theorem dX5_shrimpBody_9 : decode cX5_shrimpBody 9 = .ok (.getfield 114, 3) := by decide +kernel
theorem dX5_shrimpBody_12 : decode cX5_shrimpBody 12 = .ok (.iload_n 1, 1) := by decide +kernel
theorem dX5_shrimpBody_13 : decode cX5_shrimpBody 13 = .ok (.iaload, 1) := by decide +kernel
theorem dX5_shrimpBody_14 : decode cX5_shrimpBody 14 = .ok (.ireturn, 1) := by decide +kernel
theorem dX5_crabBody_0 : decode cX5_crabBody 0 = .ok (.aload_n 0, 1) := by decide +kernel
theorem dX5_crabBody_1 : decode cX5_crabBody 1 = .ok (.iconst 2, 1) := by decide +kernel
theorem dX5_crabBody_2 : decode cX5_crabBody 2 = .ok (.invokevirtual 297, 3) := by decide +kernel
theorem dX5_crabBody_5 : decode cX5_crabBody 5 = .ok (.aload_n 0, 1) := by decide +kernel
theorem dX5_crabBody_6 : decode cX5_crabBody 6 = .ok (.iload_n 1, 1) := by decide +kernel
theorem dX5_crabBody_7 : decode cX5_crabBody 7 = .ok (.invokevirtual 288, 3) := by decide +kernel
theorem dX5_crabBody_10 : decode cX5_crabBody 10 = .ok (.bipush 100, 2) := by decide +kernel
theorem dX5_crabBody_12 : decode cX5_crabBody 12 = .ok (.iadd, 1) := by decide +kernel
theorem dX5_crabBody_13 : decode cX5_crabBody 13 = .ok (.ireturn, 1) := by decide +kernel
theorem dX5_limpetBody_0 : decode cX5_limpetBody 0 = .ok (.aload_n 0, 1) := by decide +kernel
theorem dX5_limpetBody_1 : decode cX5_limpetBody 1 = .ok (.iconst 3, 1) := by decide +kernel
theorem dX5_limpetBody_2 : decode cX5_limpetBody 2 = .ok (.invokevirtual 297, 3) := by decide +kernel
theorem dX5_limpetBody_5 : decode cX5_limpetBody 5 = .ok (.aload_n 0, 1) := by decide +kernel
theorem dX5_limpetBody_6 : decode cX5_limpetBody 6 = .ok (.iload_n 1, 1) := by decide +kernel
theorem dX5_limpetBody_7 : decode cX5_limpetBody 7 = .ok (.invokevirtual 291, 3) := by decide +kernel
theorem dX5_limpetBody_10 : decode cX5_limpetBody 10 = .ok (.istore_n 2, 1) := by decide +kernel
theorem dX5_limpetBody_11 : decode cX5_limpetBody 11 = .ok (.iload_n 2, 1) := by decide +kernel
theorem dX5_limpetBody_12 : decode cX5_limpetBody 12 = .ok (.aload_n 0, 1) := by decide +kernel
theorem dX5_limpetBody_13 : decode cX5_limpetBody 13 = .ok (.iload_n 1, 1) := by decide +kernel
theorem dX5_limpetBody_14 : decode cX5_limpetBody 14 = .ok (.invokevirtual 288, 3) := by decide +kernel
theorem dX5_limpetBody_17 : decode cX5_limpetBody 17 = .ok (.iadd, 1) := by decide +kernel
theorem dX5_limpetBody_18 : decode cX5_limpetBody 18 = .ok (.ireturn, 1) := by decide +kernel
theorem dX5_name_0 : decode cX5_name 0 = .ok (.aload_n 0, 1) := by decide +kernel
theorem dX5_name_1 : decode cX5_name 1 = .ok (.iload_n 1, 1) := by decide +kernel
theorem dX5_name_2 : decode cX5_name 2 = .ok (.invokevirtual 105, 3) := by decide +kernel
theorem dX5_name_5 : decode cX5_name 5 = .ok (.ifCond .ne 5, 3) := by decide +kernel
theorem dX5_name_8 : decode cX5_name 8 = .ok (.iconst (-1), 1) := by decide +kernel
theorem dX5_name_9 : decode cX5_name 9 = .ok (.ireturn, 1) := by decide +kernel
theorem dX5_name_10 : decode cX5_name 10 = .ok (.aload_n 0, 1) := by decide +kernel
theorem dX5_name_11 : decode cX5_name 11 = .ok (.getfield 42, 3) := by decide +kernel
theorem dX5_name_14 : decode cX5_name 14 = .ok (.getfield 108, 3) := by decide +kernel
theorem dX5_name_17 : decode cX5_name 17 = .ok (.iload_n 1, 1) := by decide +kernel
theorem dX5_name_18 : decode cX5_name 18 = .ok (.iaload, 1) := by decide +kernel
theorem dX5_name_19 : decode cX5_name 19 = .ok (.iconst 2, 1) := by decide +kernel
theorem dX5_name_20 : decode cX5_name 20 = .ok (.if_icmp .ne 7, 3) := by decide +kernel
theorem dX5_name_23 : decode cX5_name 23 = .ok (.iconst 1, 1) := by decide +kernel
theorem dX5_name_24 : decode cX5_name 24 = .ok (.goto 4, 3) := by decide +kernel
theorem dX5_name_27 : decode cX5_name 27 = .ok (.iconst 0, 1) := by decide +kernel
theorem dX5_name_28 : decode cX5_name 28 = .ok (.istore_n 2, 1) := by decide +kernel
theorem dX5_name_29 : decode cX5_name 29 = .ok (.aload_n 0, 1) := by decide +kernel
theorem dX5_name_30 : decode cX5_name 30 = .ok (.iload_n 2, 1) := by decide +kernel
theorem dX5_name_31 : decode cX5_name 31 = .ok (.ifCond .eq 7, 3) := by decide +kernel
theorem dX5_name_34 : decode cX5_name 34 = .ok (.iconst 5, 1) := by decide +kernel
theorem dX5_name_35 : decode cX5_name 35 = .ok (.goto 4, 3) := by decide +kernel
theorem dX5_name_38 : decode cX5_name 38 = .ok (.iconst 4, 1) := by decide +kernel
theorem dX5_name_39 : decode cX5_name 39 = .ok (.invokevirtual 297, 3) := by decide +kernel
theorem dX5_name_42 : decode cX5_name 42 = .ok (.iload_n 2, 1) := by decide +kernel
theorem dX5_name_43 : decode cX5_name 43 = .ok (.ifCond .eq 8, 3) := by decide +kernel
theorem dX5_name_46 : decode cX5_name 46 = .ok (.bipush 60, 2) := by decide +kernel
theorem dX5_name_48 : decode cX5_name 48 = .ok (.goto 4, 3) := by decide +kernel
theorem dX5_name_51 : decode cX5_name 51 = .ok (.iload_n 1, 1) := by decide +kernel
theorem dX5_name_52 : decode cX5_name 52 = .ok (.ireturn, 1) := by decide +kernel
theorem dX5_leave_0 : decode cX5_leave 0 = .ok (.aload_n 0, 1) := by decide +kernel
theorem dX5_leave_1 : decode cX5_leave 1 = .ok (.bipush 31, 2) := by decide +kernel
theorem dX5_leave_3 : decode cX5_leave 3 = .ok (.aload_n 0, 1) := by decide +kernel
theorem dX5_leave_4 : decode cX5_leave 4 = .ok (.getfield 300, 3) := by decide +kernel
theorem dX5_leave_7 : decode cX5_leave 7 = .ok (.imul, 1) := by decide +kernel
theorem dX5_leave_8 : decode cX5_leave 8 = .ok (.iload_n 1, 1) := by decide +kernel
theorem dX5_leave_9 : decode cX5_leave 9 = .ok (.iadd, 1) := by decide +kernel
theorem dX5_leave_10 : decode cX5_leave 10 = .ok (.putfield 300, 3) := by decide +kernel
theorem dX5_leave_13 : decode cX5_leave 13 = .ok (.return_, 1) := by decide +kernel
theorem dX5_as_0 : decode cX5_as 0 = .ok (.aload_n 0, 1) := by decide +kernel
theorem dX5_as_1 : decode cX5_as 1 = .ok (.iconst 0, 1) := by decide +kernel
theorem dX5_as_2 : decode cX5_as 2 = .ok (.putfield 49, 3) := by decide +kernel
theorem dX5_as_5 : decode cX5_as 5 = .ok (.aload_n 0, 1) := by decide +kernel
theorem dX5_as_6 : decode cX5_as 6 = .ok (.iload_n 1, 1) := by decide +kernel
theorem dX5_as_7 : decode cX5_as 7 = .ok (.invokevirtual 105, 3) := by decide +kernel
theorem dX5_as_10 : decode cX5_as 10 = .ok (.ifCond .ne 5, 3) := by decide +kernel
theorem dX5_as_13 : decode cX5_as 13 = .ok (.iconst (-1), 1) := by decide +kernel
theorem dX5_as_14 : decode cX5_as 14 = .ok (.ireturn, 1) := by decide +kernel
theorem dX5_as_15 : decode cX5_as 15 = .ok (.iload_n 2, 1) := by decide +kernel
theorem dX5_as_16 : decode cX5_as 16 = .ok (.iconst 0, 1) := by decide +kernel
theorem dX5_as_17 : decode cX5_as 17 = .ok (.iconst 2, 1) := by decide +kernel
theorem dX5_as_18 : decode cX5_as 18 = .ok (.invokestatic 120, 3) := by decide +kernel
theorem dX5_as_21 : decode cX5_as 21 = .ok (.ifCond .ne 6, 3) := by decide +kernel
theorem dX5_as_24 : decode cX5_as 24 = .ok (.bipush (-2), 2) := by decide +kernel
theorem dX5_as_26 : decode cX5_as 26 = .ok (.ireturn, 1) := by decide +kernel
theorem dX5_as_27 : decode cX5_as 27 = .ok (.iload_n 2, 1) := by decide +kernel
theorem dX5_as_28 : decode cX5_as 28 = .ok (.aload_n 0, 1) := by decide +kernel
theorem dX5_as_29 : decode cX5_as 29 = .ok (.getfield 42, 3) := by decide +kernel
theorem dX5_as_32 : decode cX5_as 32 = .ok (.getfield 108, 3) := by decide +kernel
theorem dX5_as_35 : decode cX5_as 35 = .ok (.iload_n 1, 1) := by decide +kernel
theorem dX5_as_36 : decode cX5_as 36 = .ok (.iaload, 1) := by decide +kernel
theorem dX5_as_37 : decode cX5_as 37 = .ok (.if_icmp .le 11, 3) := by decide +kernel
theorem dX5_as_40 : decode cX5_as 40 = .ok (.aload_n 0, 1) := by decide +kernel
theorem dX5_as_41 : decode cX5_as 41 = .ok (.iconst 2, 1) := by decide +kernel
theorem dX5_as_42 : decode cX5_as 42 = .ok (.invokevirtual 64, 3) := by decide +kernel
theorem dX5_as_45 : decode cX5_as 45 = .ok (.goto 4, 3) := by decide +kernel
theorem dX5_as_48 : decode cX5_as 48 = .ok (.iconst 1, 1) := by decide +kernel
theorem dX5_as_49 : decode cX5_as 49 = .ok (.ireturn, 1) := by decide +kernel
theorem dX5_trace_0 : decode cX5_trace 0 = .ok (.aload_n 0, 1) := by decide +kernel
theorem dX5_trace_1 : decode cX5_trace 1 = .ok (.getfield 300, 3) := by decide +kernel
theorem dX5_trace_4 : decode cX5_trace 4 = .ok (.ireturn, 1) := by decide +kernel
theorem dX5_fault_0 : decode cX5_fault 0 = .ok (.aload_n 0, 1) := by decide +kernel
theorem dX5_fault_1 : decode cX5_fault 1 = .ok (.getfield 49, 3) := by decide +kernel
theorem dX5_fault_4 : decode cX5_fault 4 = .ok (.ireturn, 1) := by decide +kernel
theorem dX5_many_0 : decode cX5_many 0 = .ok (.iload_n 1, 1) := by decide +kernel
theorem dX5_many_1 : decode cX5_many 1 = .ok (.tableswitch 87 0 5 #[39, 47, 55, 63, 71, 79], 39) := by decide +kernel
theorem dX5_many_40 : decode cX5_many 40 = .ok (.aload_n 0, 1) := by decide +kernel
theorem dX5_many_41 : decode cX5_many 41 = .ok (.getfield 42, 3) := by decide +kernel
theorem dX5_many_44 : decode cX5_many 44 = .ok (.getfield 86, 3) := by decide +kernel
theorem dX5_many_47 : decode cX5_many 47 = .ok (.ireturn, 1) := by decide +kernel
theorem dX5_many_48 : decode cX5_many 48 = .ok (.aload_n 0, 1) := by decide +kernel
theorem dX5_many_49 : decode cX5_many 49 = .ok (.getfield 42, 3) := by decide +kernel
theorem dX5_many_52 : decode cX5_many 52 = .ok (.getfield 203, 3) := by decide +kernel
theorem dX5_many_55 : decode cX5_many 55 = .ok (.ireturn, 1) := by decide +kernel
theorem dX5_many_56 : decode cX5_many 56 = .ok (.aload_n 0, 1) := by decide +kernel
theorem dX5_many_57 : decode cX5_many 57 = .ok (.getfield 42, 3) := by decide +kernel
theorem dX5_many_60 : decode cX5_many 60 = .ok (.getfield 131, 3) := by decide +kernel
theorem dX5_many_63 : decode cX5_many 63 = .ok (.ireturn, 1) := by decide +kernel
theorem dX5_many_64 : decode cX5_many 64 = .ok (.aload_n 0, 1) := by decide +kernel
theorem dX5_many_65 : decode cX5_many 65 = .ok (.getfield 42, 3) := by decide +kernel
theorem dX5_many_68 : decode cX5_many 68 = .ok (.getfield 134, 3) := by decide +kernel
theorem dX5_many_71 : decode cX5_many 71 = .ok (.ireturn, 1) := by decide +kernel
theorem dX5_many_72 : decode cX5_many 72 = .ok (.aload_n 0, 1) := by decide +kernel
theorem dX5_many_73 : decode cX5_many 73 = .ok (.getfield 42, 3) := by decide +kernel
theorem dX5_many_76 : decode cX5_many 76 = .ok (.getfield 137, 3) := by decide +kernel
theorem dX5_many_79 : decode cX5_many 79 = .ok (.ireturn, 1) := by decide +kernel
theorem dX5_many_80 : decode cX5_many 80 = .ok (.aload_n 0, 1) := by decide +kernel
theorem dX5_many_81 : decode cX5_many 81 = .ok (.getfield 28, 3) := by decide +kernel
theorem dX5_many_84 : decode cX5_many 84 = .ok (.getfield 83, 3) := by decide +kernel
theorem dX5_many_87 : decode cX5_many 87 = .ok (.ireturn, 1) := by decide +kernel
theorem dX5_many_88 : decode cX5_many 88 = .ok (.bipush (-2), 2) := by decide +kernel
theorem dX5_many_90 : decode cX5_many 90 = .ok (.ireturn, 1) := by decide +kernel
theorem dX5_isWithin_0 : decode cX5_isWithin 0 = .ok (.iload_n 0, 1) := by decide +kernel
theorem dX5_isWithin_1 : decode cX5_isWithin 1 = .ok (.iload_n 1, 1) := by decide +kernel
theorem dX5_isWithin_2 : decode cX5_isWithin 2 = .ok (.if_icmp .lt 12, 3) := by decide +kernel
theorem dX5_isWithin_5 : decode cX5_isWithin 5 = .ok (.iload_n 0, 1) := by decide +kernel
theorem dX5_isWithin_6 : decode cX5_isWithin 6 = .ok (.iload_n 2, 1) := by decide +kernel
theorem dX5_isWithin_7 : decode cX5_isWithin 7 = .ok (.if_icmp .gt 7, 3) := by decide +kernel
theorem dX5_isWithin_10 : decode cX5_isWithin 10 = .ok (.iconst 1, 1) := by decide +kernel
theorem dX5_isWithin_11 : decode cX5_isWithin 11 = .ok (.goto 4, 3) := by decide +kernel
theorem dX5_isWithin_14 : decode cX5_isWithin 14 = .ok (.iconst 0, 1) := by decide +kernel
theorem dX5_isWithin_15 : decode cX5_isWithin 15 = .ok (.ireturn, 1) := by decide +kernel
theorem dX5_isDigit_0 : decode cX5_isDigit 0 = .ok (.iload_n 0, 1) := by decide +kernel
theorem dX5_isDigit_1 : decode cX5_isDigit 1 = .ok (.iconst 0, 1) := by decide +kernel
theorem dX5_isDigit_2 : decode cX5_isDigit 2 = .ok (.bipush 9, 2) := by decide +kernel
theorem dX5_isDigit_4 : decode cX5_isDigit 4 = .ok (.invokestatic 120, 3) := by decide +kernel
theorem dX5_isDigit_7 : decode cX5_isDigit 7 = .ok (.ireturn, 1) := by decide +kernel
theorem dX5_isSheet_0 : decode cX5_isSheet 0 = .ok (.iload_n 0, 1) := by decide +kernel
theorem dX5_isSheet_1 : decode cX5_isSheet 1 = .ok (.iconst 0, 1) := by decide +kernel
theorem dX5_isSheet_2 : decode cX5_isSheet 2 = .ok (.iconst 3, 1) := by decide +kernel
theorem dX5_isSheet_3 : decode cX5_isSheet 3 = .ok (.invokestatic 120, 3) := by decide +kernel
theorem dX5_isSheet_6 : decode cX5_isSheet 6 = .ok (.ireturn, 1) := by decide +kernel
theorem dX5_isLane_0 : decode cX5_isLane 0 = .ok (.iload_n 0, 1) := by decide +kernel
theorem dX5_isLane_1 : decode cX5_isLane 1 = .ok (.iconst 0, 1) := by decide +kernel
theorem dX5_isLane_2 : decode cX5_isLane 2 = .ok (.iconst 2, 1) := by decide +kernel
theorem dX5_isLane_3 : decode cX5_isLane 3 = .ok (.invokestatic 120, 3) := by decide +kernel
theorem dX5_isLane_6 : decode cX5_isLane 6 = .ok (.ireturn, 1) := by decide +kernel
theorem dX5_isToldOfYears_0 : decode cX5_isToldOfYears 0 = .ok (.iload_n 0, 1) := by decide +kernel
theorem dX5_isToldOfYears_1 : decode cX5_isToldOfYears 1 = .ok (.iconst 0, 1) := by decide +kernel
theorem dX5_isToldOfYears_2 : decode cX5_isToldOfYears 2 = .ok (.iconst 3, 1) := by decide +kernel
theorem dX5_isToldOfYears_3 : decode cX5_isToldOfYears 3 = .ok (.invokestatic 120, 3) := by decide +kernel
theorem dX5_isToldOfYears_6 : decode cX5_isToldOfYears 6 = .ok (.ifCond .ne 25, 3) := by decide +kernel
theorem dX5_isToldOfYears_9 : decode cX5_isToldOfYears 9 = .ok (.iload_n 0, 1) := by decide +kernel
theorem dX5_isToldOfYears_10 : decode cX5_isToldOfYears 10 = .ok (.bipush 10, 2) := by decide +kernel
theorem dX5_isToldOfYears_12 : decode cX5_isToldOfYears 12 = .ok (.bipush 15, 2) := by decide +kernel
theorem dX5_isToldOfYears_14 : decode cX5_isToldOfYears 14 = .ok (.invokestatic 120, 3) := by decide +kernel
theorem dX5_isToldOfYears_17 : decode cX5_isToldOfYears 17 = .ok (.ifCond .ne 14, 3) := by decide +kernel
theorem dX5_isToldOfYears_20 : decode cX5_isToldOfYears 20 = .ok (.iload_n 0, 1) := by decide +kernel
theorem dX5_isToldOfYears_21 : decode cX5_isToldOfYears 21 = .ok (.bipush 20, 2) := by decide +kernel
theorem dX5_isToldOfYears_23 : decode cX5_isToldOfYears 23 = .ok (.bipush 29, 2) := by decide +kernel
theorem dX5_isToldOfYears_25 : decode cX5_isToldOfYears 25 = .ok (.invokestatic 120, 3) := by decide +kernel
theorem dX5_isToldOfYears_28 : decode cX5_isToldOfYears 28 = .ok (.ifCond .eq 7, 3) := by decide +kernel
theorem dX5_isToldOfYears_31 : decode cX5_isToldOfYears 31 = .ok (.iconst 1, 1) := by decide +kernel
theorem dX5_isToldOfYears_32 : decode cX5_isToldOfYears 32 = .ok (.goto 4, 3) := by decide +kernel
theorem dX5_isToldOfYears_35 : decode cX5_isToldOfYears 35 = .ok (.iconst 0, 1) := by decide +kernel
theorem dX5_isToldOfYears_36 : decode cX5_isToldOfYears 36 = .ok (.ireturn, 1) := by decide +kernel
theorem dX5_oneIf_0 : decode cX5_oneIf 0 = .ok (.iload_n 0, 1) := by decide +kernel
theorem dX5_oneIf_1 : decode cX5_oneIf 1 = .ok (.ifCond .eq 7, 3) := by decide +kernel
theorem dX5_oneIf_4 : decode cX5_oneIf 4 = .ok (.iconst 1, 1) := by decide +kernel
theorem dX5_oneIf_5 : decode cX5_oneIf 5 = .ok (.goto 4, 3) := by decide +kernel
theorem dX5_oneIf_8 : decode cX5_oneIf 8 = .ok (.iconst 0, 1) := by decide +kernel
theorem dX5_oneIf_9 : decode cX5_oneIf 9 = .ok (.ireturn, 1) := by decide +kernel
theorem dX5_isPool_0 : decode cX5_isPool 0 = .ok (.iload_n 1, 1) := by decide +kernel
theorem dX5_isPool_1 : decode cX5_isPool 1 = .ok (.iconst 0, 1) := by decide +kernel
theorem dX5_isPool_2 : decode cX5_isPool 2 = .ok (.aload_n 0, 1) := by decide +kernel
theorem dX5_isPool_3 : decode cX5_isPool 3 = .ok (.getfield 42, 3) := by decide +kernel
theorem dX5_isPool_6 : decode cX5_isPool 6 = .ok (.getfield 203, 3) := by decide +kernel
theorem dX5_isPool_9 : decode cX5_isPool 9 = .ok (.iconst 1, 1) := by decide +kernel
theorem dX5_isPool_10 : decode cX5_isPool 10 = .ok (.isub, 1) := by decide +kernel
theorem dX5_isPool_11 : decode cX5_isPool 11 = .ok (.invokestatic 120, 3) := by decide +kernel
theorem dX5_isPool_14 : decode cX5_isPool 14 = .ok (.ireturn, 1) := by decide +kernel
theorem dX5_isMember_0 : decode cX5_isMember 0 = .ok (.iload_n 1, 1) := by decide +kernel
theorem dX5_isMember_1 : decode cX5_isMember 1 = .ok (.iconst 0, 1) := by decide +kernel
theorem dX5_isMember_2 : decode cX5_isMember 2 = .ok (.aload_n 0, 1) := by decide +kernel
theorem dX5_isMember_3 : decode cX5_isMember 3 = .ok (.getfield 42, 3) := by decide +kernel
theorem dX5_isMember_6 : decode cX5_isMember 6 = .ok (.getfield 86, 3) := by decide +kernel
theorem dX5_isMember_9 : decode cX5_isMember 9 = .ok (.iconst 1, 1) := by decide +kernel
theorem dX5_isMember_10 : decode cX5_isMember 10 = .ok (.isub, 1) := by decide +kernel
theorem dX5_isMember_11 : decode cX5_isMember 11 = .ok (.invokestatic 120, 3) := by decide +kernel
theorem dX5_isMember_14 : decode cX5_isMember 14 = .ok (.ireturn, 1) := by decide +kernel
theorem dX5_hasShore_0 : decode cX5_hasShore 0 = .ok (.aload_n 0, 1) := by decide +kernel
theorem dX5_hasShore_1 : decode cX5_hasShore 1 = .ok (.getfield 42, 3) := by decide +kernel
theorem dX5_hasShore_4 : decode cX5_hasShore 4 = .ok (.getfield 203, 3) := by decide +kernel
theorem dX5_hasShore_7 : decode cX5_hasShore 7 = .ok (.ifCond .le 7, 3) := by decide +kernel
theorem dX5_hasShore_10 : decode cX5_hasShore 10 = .ok (.iconst 1, 1) := by decide +kernel
theorem dX5_hasShore_11 : decode cX5_hasShore 11 = .ok (.goto 4, 3) := by decide +kernel
theorem dX5_hasShore_14 : decode cX5_hasShore 14 = .ok (.iconst 0, 1) := by decide +kernel
theorem dX5_hasShore_15 : decode cX5_hasShore 15 = .ok (.ireturn, 1) := by decide +kernel
theorem dX5_refusalUnless_0 : decode cX5_refusalUnless 0 = .ok (.iload_n 1, 1) := by decide +kernel
theorem dX5_refusalUnless_1 : decode cX5_refusalUnless 1 = .ok (.ifCond .ne 6, 3) := by decide +kernel
theorem dX5_refusalUnless_4 : decode cX5_refusalUnless 4 = .ok (.bipush (-2), 2) := by decide +kernel
theorem dX5_refusalUnless_6 : decode cX5_refusalUnless 6 = .ok (.ireturn, 1) := by decide +kernel
theorem dX5_refusalUnless_7 : decode cX5_refusalUnless 7 = .ok (.aload_n 0, 1) := by decide +kernel
theorem dX5_refusalUnless_8 : decode cX5_refusalUnless 8 = .ok (.invokevirtual 254, 3) := by decide +kernel
theorem dX5_refusalUnless_11 : decode cX5_refusalUnless 11 = .ok (.ifCond .eq 7, 3) := by decide +kernel
theorem dX5_refusalUnless_14 : decode cX5_refusalUnless 14 = .ok (.iconst 0, 1) := by decide +kernel
theorem dX5_refusalUnless_15 : decode cX5_refusalUnless 15 = .ok (.goto 5, 3) := by decide +kernel
theorem dX5_refusalUnless_18 : decode cX5_refusalUnless 18 = .ok (.bipush (-3), 2) := by decide +kernel
theorem dX5_refusalUnless_20 : decode cX5_refusalUnless 20 = .ok (.ireturn, 1) := by decide +kernel
theorem dX5_refusalOfRow_0 : decode cX5_refusalOfRow 0 = .ok (.aload_n 0, 1) := by decide +kernel
theorem dX5_refusalOfRow_1 : decode cX5_refusalOfRow 1 = .ok (.iconst 0, 1) := by decide +kernel
theorem dX5_refusalOfRow_2 : decode cX5_refusalOfRow 2 = .ok (.putfield 49, 3) := by decide +kernel
theorem dX5_refusalOfRow_5 : decode cX5_refusalOfRow 5 = .ok (.iload_n 1, 1) := by decide +kernel
theorem dX5_refusalOfRow_6 : decode cX5_refusalOfRow 6 = .ok (.invokestatic 53, 3) := by decide +kernel
theorem dX5_refusalOfRow_9 : decode cX5_refusalOfRow 9 = .ok (.ifCond .ne 5, 3) := by decide +kernel
theorem dX5_refusalOfRow_12 : decode cX5_refusalOfRow 12 = .ok (.iconst (-1), 1) := by decide +kernel
theorem dX5_refusalOfRow_13 : decode cX5_refusalOfRow 13 = .ok (.ireturn, 1) := by decide +kernel
theorem dX5_refusalOfRow_14 : decode cX5_refusalOfRow 14 = .ok (.iload_n 2, 1) := by decide +kernel
theorem dX5_refusalOfRow_15 : decode cX5_refusalOfRow 15 = .ok (.invokestatic 57, 3) := by decide +kernel
theorem dX5_refusalOfRow_18 : decode cX5_refusalOfRow 18 = .ok (.ifCond .eq 19, 3) := by decide +kernel
theorem dX5_refusalOfRow_21 : decode cX5_refusalOfRow 21 = .ok (.iload 4, 2) := by decide +kernel
theorem dX5_refusalOfRow_23 : decode cX5_refusalOfRow 23 = .ok (.iconst 0, 1) := by decide +kernel
theorem dX5_refusalOfRow_24 : decode cX5_refusalOfRow 24 = .ok (.bipush 20, 2) := by decide +kernel
theorem dX5_refusalOfRow_26 : decode cX5_refusalOfRow 26 = .ok (.invokestatic 120, 3) := by decide +kernel
theorem dX5_refusalOfRow_29 : decode cX5_refusalOfRow 29 = .ok (.ifCond .eq 8, 3) := by decide +kernel
theorem dX5_refusalOfRow_32 : decode cX5_refusalOfRow 32 = .ok (.iload 5, 2) := by decide +kernel
theorem dX5_refusalOfRow_34 : decode cX5_refusalOfRow 34 = .ok (.ifCond .ne 6, 3) := by decide +kernel
theorem dX5_refusalOfRow_37 : decode cX5_refusalOfRow 37 = .ok (.bipush (-2), 2) := by decide +kernel
theorem dX5_refusalOfRow_39 : decode cX5_refusalOfRow 39 = .ok (.ireturn, 1) := by decide +kernel
theorem dX5_refusalOfRow_40 : decode cX5_refusalOfRow 40 = .ok (.aload_n 0, 1) := by decide +kernel
theorem dX5_refusalOfRow_41 : decode cX5_refusalOfRow 41 = .ok (.getfield 13, 3) := by decide +kernel
theorem dX5_refusalOfRow_44 : decode cX5_refusalOfRow 44 = .ok (.iload_n 1, 1) := by decide +kernel
theorem dX5_refusalOfRow_45 : decode cX5_refusalOfRow 45 = .ok (.aaload, 1) := by decide +kernel
theorem dX5_refusalOfRow_46 : decode cX5_refusalOfRow 46 = .ok (.iload_n 2, 1) := by decide +kernel
theorem dX5_refusalOfRow_47 : decode cX5_refusalOfRow 47 = .ok (.iload_n 3, 1) := by decide +kernel
theorem dX5_refusalOfRow_48 : decode cX5_refusalOfRow 48 = .ok (.iload 4, 2) := by decide +kernel
theorem dX5_refusalOfRow_50 : decode cX5_refusalOfRow 50 = .ok (.invokestatic 60, 3) := by decide +kernel
theorem dX5_refusalOfRow_53 : decode cX5_refusalOfRow 53 = .ok (.istore 6, 2) := by decide +kernel
theorem dX5_refusalOfRow_55 : decode cX5_refusalOfRow 55 = .ok (.iload 6, 2) := by decide +kernel
theorem dX5_refusalOfRow_57 : decode cX5_refusalOfRow 57 = .ok (.ifCond .eq 10, 3) := by decide +kernel
theorem dX5_refusalOfRow_60 : decode cX5_refusalOfRow 60 = .ok (.aload_n 0, 1) := by decide +kernel
theorem dX5_refusalOfRow_61 : decode cX5_refusalOfRow 61 = .ok (.iload 6, 2) := by decide +kernel
theorem dX5_refusalOfRow_63 : decode cX5_refusalOfRow 63 = .ok (.invokevirtual 64, 3) := by decide +kernel
theorem dX5_refusalOfRow_66 : decode cX5_refusalOfRow 66 = .ok (.ireturn, 1) := by decide +kernel
theorem dX5_refusalOfRow_67 : decode cX5_refusalOfRow 67 = .ok (.aload_n 0, 1) := by decide +kernel
theorem dX5_refusalOfRow_68 : decode cX5_refusalOfRow 68 = .ok (.invokevirtual 254, 3) := by decide +kernel
theorem dX5_refusalOfRow_71 : decode cX5_refusalOfRow 71 = .ok (.ifCond .eq 7, 3) := by decide +kernel
theorem dX5_refusalOfRow_74 : decode cX5_refusalOfRow 74 = .ok (.iconst 0, 1) := by decide +kernel
theorem dX5_refusalOfRow_75 : decode cX5_refusalOfRow 75 = .ok (.goto 5, 3) := by decide +kernel
theorem dX5_refusalOfRow_78 : decode cX5_refusalOfRow 78 = .ok (.bipush (-3), 2) := by decide +kernel
theorem dX5_refusalOfRow_80 : decode cX5_refusalOfRow 80 = .ok (.ireturn, 1) := by decide +kernel
theorem dX5_faulted_0 : decode cX5_faulted 0 = .ok (.aload_n 0, 1) := by decide +kernel
theorem dX5_faulted_1 : decode cX5_faulted 1 = .ok (.iload_n 1, 1) := by decide +kernel
theorem dX5_faulted_2 : decode cX5_faulted 2 = .ok (.putfield 49, 3) := by decide +kernel
theorem dX5_faulted_5 : decode cX5_faulted 5 = .ok (.bipush (-10), 2) := by decide +kernel
theorem dX5_faulted_7 : decode cX5_faulted 7 = .ok (.iload_n 1, 1) := by decide +kernel
theorem dX5_faulted_8 : decode cX5_faulted 8 = .ok (.isub, 1) := by decide +kernel
theorem dX5_faulted_9 : decode cX5_faulted 9 = .ok (.ireturn, 1) := by decide +kernel
theorem dX5_rowFault_0 : decode cX5_rowFault 0 = .ok (.aload_n 0, 1) := by decide +kernel
theorem dX5_rowFault_1 : decode cX5_rowFault 1 = .ok (.getfield 269, 3) := by decide +kernel
theorem dX5_rowFault_4 : decode cX5_rowFault 4 = .ok (.ifCond .eq 13, 3) := by decide +kernel
theorem dX5_rowFault_7 : decode cX5_rowFault 7 = .ok (.aload_n 0, 1) := by decide +kernel
theorem dX5_rowFault_8 : decode cX5_rowFault 8 = .ok (.getfield 279, 3) := by decide +kernel
theorem dX5_rowFault_11 : decode cX5_rowFault 11 = .ok (.iload_n 1, 1) := by decide +kernel
theorem dX5_rowFault_12 : decode cX5_rowFault 12 = .ok (.if_icmp .eq 5, 3) := by decide +kernel
theorem dX5_rowFault_15 : decode cX5_rowFault 15 = .ok (.iconst 2, 1) := by decide +kernel
theorem dX5_rowFault_16 : decode cX5_rowFault 16 = .ok (.ireturn, 1) := by decide +kernel
theorem dX5_rowFault_17 : decode cX5_rowFault 17 = .ok (.aload_n 0, 1) := by decide +kernel
theorem dX5_rowFault_18 : decode cX5_rowFault 18 = .ok (.getfield 269, 3) := by decide +kernel
theorem dX5_rowFault_21 : decode cX5_rowFault 21 = .ok (.ifCond .ne 5, 3) := by decide +kernel
theorem dX5_rowFault_24 : decode cX5_rowFault 24 = .ok (.iconst 1, 1) := by decide +kernel
theorem dX5_rowFault_25 : decode cX5_rowFault 25 = .ok (.ireturn, 1) := by decide +kernel
theorem dX5_rowFault_26 : decode cX5_rowFault 26 = .ok (.iload_n 3, 1) := by decide +kernel
theorem dX5_rowFault_27 : decode cX5_rowFault 27 = .ok (.ifCond .ge 5, 3) := by decide +kernel
theorem dX5_rowFault_30 : decode cX5_rowFault 30 = .ok (.iconst 4, 1) := by decide +kernel
theorem dX5_rowFault_31 : decode cX5_rowFault 31 = .ok (.ireturn, 1) := by decide +kernel
theorem dX5_rowFault_32 : decode cX5_rowFault 32 = .ok (.aload_n 0, 1) := by decide +kernel
theorem dX5_rowFault_33 : decode cX5_rowFault 33 = .ok (.iload_n 2, 1) := by decide +kernel
theorem dX5_rowFault_34 : decode cX5_rowFault 34 = .ok (.iload_n 3, 1) := by decide +kernel
theorem dX5_rowFault_35 : decode cX5_rowFault 35 = .ok (.invokevirtual 273, 3) := by decide +kernel
theorem dX5_rowFault_38 : decode cX5_rowFault 38 = .ok (.ifCond .eq 7, 3) := by decide +kernel
theorem dX5_rowFault_41 : decode cX5_rowFault 41 = .ok (.iconst 0, 1) := by decide +kernel
theorem dX5_rowFault_42 : decode cX5_rowFault 42 = .ok (.goto 4, 3) := by decide +kernel
theorem dX5_rowFault_45 : decode cX5_rowFault 45 = .ok (.iconst 3, 1) := by decide +kernel
theorem dX5_rowFault_46 : decode cX5_rowFault 46 = .ok (.ireturn, 1) := by decide +kernel
theorem dX5_swapShores_0 : decode cX5_swapShores 0 = .ok (.aload_n 0, 1) := by decide +kernel
theorem dX5_swapShores_1 : decode cX5_swapShores 1 = .ok (.getfield 42, 3) := by decide +kernel
theorem dX5_swapShores_4 : decode cX5_swapShores 4 = .ok (.astore_n 1, 1) := by decide +kernel
theorem dX5_swapShores_5 : decode cX5_swapShores 5 = .ok (.aload_n 0, 1) := by decide +kernel
theorem dX5_swapShores_6 : decode cX5_swapShores 6 = .ok (.aload_n 0, 1) := by decide +kernel
theorem dX5_swapShores_7 : decode cX5_swapShores 7 = .ok (.getfield 46, 3) := by decide +kernel
theorem dX5_swapShores_10 : decode cX5_swapShores 10 = .ok (.putfield 42, 3) := by decide +kernel
theorem dX5_swapShores_13 : decode cX5_swapShores 13 = .ok (.aload_n 0, 1) := by decide +kernel
theorem dX5_swapShores_14 : decode cX5_swapShores 14 = .ok (.aload_n 1, 1) := by decide +kernel
theorem dX5_swapShores_15 : decode cX5_swapShores 15 = .ok (.putfield 46, 3) := by decide +kernel
theorem dX5_swapShores_18 : decode cX5_swapShores 18 = .ok (.return_, 1) := by decide +kernel
theorem dJ6_bitCount_0f7a4_0 : decode cJ6_bitCount_0f7a4 0 = .ok (.iload_n 0, 1) := by decide +kernel
theorem dJ6_bitCount_0f7a4_1 : decode cJ6_bitCount_0f7a4 1 = .ok (.iload_n 0, 1) := by decide +kernel
theorem dJ6_bitCount_0f7a4_2 : decode cJ6_bitCount_0f7a4 2 = .ok (.iconst 1, 1) := by decide +kernel
theorem dJ6_bitCount_0f7a4_3 : decode cJ6_bitCount_0f7a4 3 = .ok (.iushr, 1) := by decide +kernel
theorem dJ6_bitCount_0f7a4_4 : decode cJ6_bitCount_0f7a4 4 = .ok (.ldc_w 265, 3) := by decide +kernel
theorem dJ6_bitCount_0f7a4_7 : decode cJ6_bitCount_0f7a4 7 = .ok (.iand, 1) := by decide +kernel
theorem dJ6_bitCount_0f7a4_8 : decode cJ6_bitCount_0f7a4 8 = .ok (.isub, 1) := by decide +kernel
theorem dJ6_bitCount_0f7a4_9 : decode cJ6_bitCount_0f7a4 9 = .ok (.istore_n 0, 1) := by decide +kernel
theorem dJ6_bitCount_0f7a4_10 : decode cJ6_bitCount_0f7a4 10 = .ok (.iload_n 0, 1) := by decide +kernel
theorem dJ6_bitCount_0f7a4_11 : decode cJ6_bitCount_0f7a4 11 = .ok (.ldc_w 266, 3) := by decide +kernel
theorem dJ6_bitCount_0f7a4_14 : decode cJ6_bitCount_0f7a4 14 = .ok (.iand, 1) := by decide +kernel
theorem dJ6_bitCount_0f7a4_15 : decode cJ6_bitCount_0f7a4 15 = .ok (.iload_n 0, 1) := by decide +kernel
theorem dJ6_bitCount_0f7a4_16 : decode cJ6_bitCount_0f7a4 16 = .ok (.iconst 2, 1) := by decide +kernel
theorem dJ6_bitCount_0f7a4_17 : decode cJ6_bitCount_0f7a4 17 = .ok (.iushr, 1) := by decide +kernel
theorem dJ6_bitCount_0f7a4_18 : decode cJ6_bitCount_0f7a4 18 = .ok (.ldc_w 266, 3) := by decide +kernel
theorem dJ6_bitCount_0f7a4_21 : decode cJ6_bitCount_0f7a4 21 = .ok (.iand, 1) := by decide +kernel
theorem dJ6_bitCount_0f7a4_22 : decode cJ6_bitCount_0f7a4 22 = .ok (.iadd, 1) := by decide +kernel
theorem dJ6_bitCount_0f7a4_23 : decode cJ6_bitCount_0f7a4 23 = .ok (.istore_n 0, 1) := by decide +kernel
theorem dJ6_bitCount_0f7a4_24 : decode cJ6_bitCount_0f7a4 24 = .ok (.iload_n 0, 1) := by decide +kernel
theorem dJ6_bitCount_0f7a4_25 : decode cJ6_bitCount_0f7a4 25 = .ok (.iload_n 0, 1) := by decide +kernel
theorem dJ6_bitCount_0f7a4_26 : decode cJ6_bitCount_0f7a4 26 = .ok (.iconst 4, 1) := by decide +kernel
theorem dJ6_bitCount_0f7a4_27 : decode cJ6_bitCount_0f7a4 27 = .ok (.iushr, 1) := by decide +kernel
theorem dJ6_bitCount_0f7a4_28 : decode cJ6_bitCount_0f7a4 28 = .ok (.iadd, 1) := by decide +kernel
theorem dJ6_bitCount_0f7a4_29 : decode cJ6_bitCount_0f7a4 29 = .ok (.ldc_w 267, 3) := by decide +kernel
theorem dJ6_bitCount_0f7a4_32 : decode cJ6_bitCount_0f7a4 32 = .ok (.iand, 1) := by decide +kernel
theorem dJ6_bitCount_0f7a4_33 : decode cJ6_bitCount_0f7a4 33 = .ok (.istore_n 0, 1) := by decide +kernel
theorem dJ6_bitCount_0f7a4_34 : decode cJ6_bitCount_0f7a4 34 = .ok (.iload_n 0, 1) := by decide +kernel
theorem dJ6_bitCount_0f7a4_35 : decode cJ6_bitCount_0f7a4 35 = .ok (.iload_n 0, 1) := by decide +kernel
theorem dJ6_bitCount_0f7a4_36 : decode cJ6_bitCount_0f7a4 36 = .ok (.bipush 8, 2) := by decide +kernel
theorem dJ6_bitCount_0f7a4_38 : decode cJ6_bitCount_0f7a4 38 = .ok (.iushr, 1) := by decide +kernel
theorem dJ6_bitCount_0f7a4_39 : decode cJ6_bitCount_0f7a4 39 = .ok (.iadd, 1) := by decide +kernel
theorem dJ6_bitCount_0f7a4_40 : decode cJ6_bitCount_0f7a4 40 = .ok (.istore_n 0, 1) := by decide +kernel
theorem dJ6_bitCount_0f7a4_41 : decode cJ6_bitCount_0f7a4 41 = .ok (.iload_n 0, 1) := by decide +kernel
theorem dJ6_bitCount_0f7a4_42 : decode cJ6_bitCount_0f7a4 42 = .ok (.iload_n 0, 1) := by decide +kernel
theorem dJ6_bitCount_0f7a4_43 : decode cJ6_bitCount_0f7a4 43 = .ok (.bipush 16, 2) := by decide +kernel
theorem dJ6_bitCount_0f7a4_45 : decode cJ6_bitCount_0f7a4 45 = .ok (.iushr, 1) := by decide +kernel
theorem dJ6_bitCount_0f7a4_46 : decode cJ6_bitCount_0f7a4 46 = .ok (.iadd, 1) := by decide +kernel
theorem dJ6_bitCount_0f7a4_47 : decode cJ6_bitCount_0f7a4 47 = .ok (.istore_n 0, 1) := by decide +kernel
theorem dJ6_bitCount_0f7a4_48 : decode cJ6_bitCount_0f7a4 48 = .ok (.iload_n 0, 1) := by decide +kernel
theorem dJ6_bitCount_0f7a4_49 : decode cJ6_bitCount_0f7a4 49 = .ok (.bipush 63, 2) := by decide +kernel
theorem dJ6_bitCount_0f7a4_51 : decode cJ6_bitCount_0f7a4 51 = .ok (.iand, 1) := by decide +kernel
theorem dJ6_bitCount_0f7a4_52 : decode cJ6_bitCount_0f7a4 52 = .ok (.ireturn, 1) := by decide +kernel
theorem dJ9_abs_0f7a4_0 : decode cJ9_abs_0f7a4 0 = .ok (.iload_n 0, 1) := by decide +kernel
theorem dJ9_abs_0f7a4_1 : decode cJ9_abs_0f7a4 1 = .ok (.ifCond .ge 8, 3) := by decide +kernel
theorem dJ9_abs_0f7a4_4 : decode cJ9_abs_0f7a4 4 = .ok (.iload_n 0, 1) := by decide +kernel
theorem dJ9_abs_0f7a4_5 : decode cJ9_abs_0f7a4 5 = .ok (.ineg, 1) := by decide +kernel
theorem dJ9_abs_0f7a4_6 : decode cJ9_abs_0f7a4 6 = .ok (.goto 4, 3) := by decide +kernel
theorem dJ9_abs_0f7a4_9 : decode cJ9_abs_0f7a4 9 = .ok (.iload_n 0, 1) := by decide +kernel
theorem dJ9_abs_0f7a4_10 : decode cJ9_abs_0f7a4 10 = .ok (.ireturn, 1) := by decide +kernel

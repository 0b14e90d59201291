theorem dX1_init_21 : decode cX1_init 21 = .ok (.aload_n 0, 1) := by decide +kernel
theorem dX1_init_22 : decode cX1_init 22 = .ok (.sipush 200, 3) := by decide +kernel
theorem dX1_init_25 : decode cX1_init 25 = .ok (.newarray .boolean, 2) := by decide +kernel
theorem dX1_init_27 : decode cX1_init 27 = .ok (.putfield 16, 3) := by decide +kernel
theorem dX1_init_30 : decode cX1_init 30 = .ok (.aload_n 0, 1) := by decide +kernel
theorem dX1_init_31 : decode cX1_init 31 = .ok (.bipush 9, 2) := by decide +kernel
theorem dX1_init_33 : decode cX1_init 33 = .ok (.newarray .int, 2) := by decide +kernel
theorem dX1_init_35 : decode cX1_init 35 = .ok (.putfield 20, 3) := by decide +kernel
theorem dX1_init_38 : decode cX1_init 38 = .ok (.aload_n 0, 1) := by decide +kernel
theorem dX1_init_39 : decode cX1_init 39 = .ok (.iconst 4, 1) := by decide +kernel
theorem dX1_init_40 : decode cX1_init 40 = .ok (.newarray .int, 2) := by decide +kernel
theorem dX1_init_42 : decode cX1_init 42 = .ok (.dup, 1) := by decide +kernel
theorem dX1_init_43 : decode cX1_init 43 = .ok (.iconst 0, 1) := by decide +kernel
theorem dX1_init_44 : decode cX1_init 44 = .ok (.iconst (-1), 1) := by decide +kernel
theorem dX1_init_45 : decode cX1_init 45 = .ok (.iastore, 1) := by decide +kernel
theorem dX1_init_46 : decode cX1_init 46 = .ok (.dup, 1) := by decide +kernel
theorem dX1_init_47 : decode cX1_init 47 = .ok (.iconst 1, 1) := by decide +kernel
theorem dX1_init_48 : decode cX1_init 48 = .ok (.iconst (-1), 1) := by decide +kernel
theorem dX1_init_49 : decode cX1_init 49 = .ok (.iastore, 1) := by decide +kernel
theorem dX1_init_50 : decode cX1_init 50 = .ok (.dup, 1) := by decide +kernel
theorem dX1_init_51 : decode cX1_init 51 = .ok (.iconst 2, 1) := by decide +kernel
theorem dX1_init_52 : decode cX1_init 52 = .ok (.iconst (-1), 1) := by decide +kernel
theorem dX1_init_53 : decode cX1_init 53 = .ok (.iastore, 1) := by decide +kernel
theorem dX1_init_54 : decode cX1_init 54 = .ok (.dup, 1) := by decide +kernel
theorem dX1_init_55 : decode cX1_init 55 = .ok (.iconst 3, 1) := by decide +kernel
theorem dX1_init_56 : decode cX1_init 56 = .ok (.iconst (-1), 1) := by decide +kernel
theorem dX1_init_57 : decode cX1_init 57 = .ok (.iastore, 1) := by decide +kernel
theorem dX1_init_58 : decode cX1_init 58 = .ok (.putfield 23, 3) := by decide +kernel
theorem dX1_init_61 : decode cX1_init 61 = .ok (.aload_n 0, 1) := by decide +kernel
theorem dX1_init_62 : decode cX1_init 62 = .ok (.iconst 4, 1) := by decide +kernel
theorem dX1_init_63 : decode cX1_init 63 = .ok (.newarray .int, 2) := by decide +kernel
theorem dX1_init_65 : decode cX1_init 65 = .ok (.putfield 26, 3) := by decide +kernel
theorem dX1_init_68 : decode cX1_init 68 = .ok (.return_, 1) := by decide +kernel
theorem dX1_thrown_0 : decode cX1_thrown 0 = .ok (.aload_n 0, 1) := by decide +kernel
theorem dX1_thrown_1 : decode cX1_thrown 1 = .ok (.getfield 29, 3) := by decide +kernel
theorem dX1_thrown_4 : decode cX1_thrown 4 = .ok (.ireturn, 1) := by decide +kernel
theorem dX1_limit_0 : decode cX1_limit 0 = .ok (.iload_n 0, 1) := by decide +kernel
theorem dX1_limit_1 : decode cX1_limit 1 = .ok (.ifCond .ne 7, 3) := by decide +kernel
theorem dX1_limit_4 : decode cX1_limit 4 = .ok (.iconst 1, 1) := by decide +kernel
theorem dX1_limit_5 : decode cX1_limit 5 = .ok (.goto 74, 3) := by decide +kernel
theorem dX1_limit_8 : decode cX1_limit 8 = .ok (.iload_n 0, 1) := by decide +kernel
theorem dX1_limit_9 : decode cX1_limit 9 = .ok (.iconst 1, 1) := by decide +kernel
theorem dX1_limit_10 : decode cX1_limit 10 = .ok (.if_icmp .ne 7, 3) := by decide +kernel
theorem dX1_limit_13 : decode cX1_limit 13 = .ok (.iconst 2, 1) := by decide +kernel
theorem dX1_limit_14 : decode cX1_limit 14 = .ok (.goto 65, 3) := by decide +kernel
theorem dX1_limit_17 : decode cX1_limit 17 = .ok (.iload_n 0, 1) := by decide +kernel
theorem dX1_limit_18 : decode cX1_limit 18 = .ok (.iconst 2, 1) := by decide +kernel
theorem dX1_limit_19 : decode cX1_limit 19 = .ok (.if_icmp .ne 7, 3) := by decide +kernel
theorem dX1_limit_22 : decode cX1_limit 22 = .ok (.iconst 3, 1) := by decide +kernel
theorem dX1_limit_23 : decode cX1_limit 23 = .ok (.goto 56, 3) := by decide +kernel
theorem dX1_limit_26 : decode cX1_limit 26 = .ok (.iload_n 0, 1) := by decide +kernel
theorem dX1_limit_27 : decode cX1_limit 27 = .ok (.iconst 3, 1) := by decide +kernel
theorem dX1_limit_28 : decode cX1_limit 28 = .ok (.if_icmp .ne 7, 3) := by decide +kernel
theorem dX1_limit_31 : decode cX1_limit 31 = .ok (.iconst 5, 1) := by decide +kernel
theorem dX1_limit_32 : decode cX1_limit 32 = .ok (.goto 47, 3) := by decide +kernel
theorem dX1_limit_35 : decode cX1_limit 35 = .ok (.iload_n 0, 1) := by decide +kernel
theorem dX1_limit_36 : decode cX1_limit 36 = .ok (.iconst 4, 1) := by decide +kernel
theorem dX1_limit_37 : decode cX1_limit 37 = .ok (.if_icmp .ne 8, 3) := by decide +kernel
theorem dX1_limit_40 : decode cX1_limit 40 = .ok (.bipush 8, 2) := by decide +kernel
theorem dX1_limit_42 : decode cX1_limit 42 = .ok (.goto 37, 3) := by decide +kernel
theorem dX1_limit_45 : decode cX1_limit 45 = .ok (.iload_n 0, 1) := by decide +kernel
theorem dX1_limit_46 : decode cX1_limit 46 = .ok (.iconst 5, 1) := by decide +kernel
theorem dX1_limit_47 : decode cX1_limit 47 = .ok (.if_icmp .ne 8, 3) := by decide +kernel
theorem dX1_limit_50 : decode cX1_limit 50 = .ok (.bipush 14, 2) := by decide +kernel
theorem dX1_limit_52 : decode cX1_limit 52 = .ok (.goto 27, 3) := by decide +kernel
theorem dX1_limit_55 : decode cX1_limit 55 = .ok (.iload_n 0, 1) := by decide +kernel
theorem dX1_limit_56 : decode cX1_limit 56 = .ok (.bipush 6, 2) := by decide +kernel
theorem dX1_limit_58 : decode cX1_limit 58 = .ok (.if_icmp .ne 8, 3) := by decide +kernel
theorem dX1_limit_61 : decode cX1_limit 61 = .ok (.bipush 24, 2) := by decide +kernel
theorem dX1_limit_63 : decode cX1_limit 63 = .ok (.goto 16, 3) := by decide +kernel
theorem dX1_limit_66 : decode cX1_limit 66 = .ok (.iload_n 0, 1) := by decide +kernel
theorem dX1_limit_67 : decode cX1_limit 67 = .ok (.bipush 7, 2) := by decide +kernel
theorem dX1_limit_69 : decode cX1_limit 69 = .ok (.if_icmp .ne 8, 3) := by decide +kernel
theorem dX1_limit_72 : decode cX1_limit 72 = .ok (.bipush 42, 2) := by decide +kernel
theorem dX1_limit_74 : decode cX1_limit 74 = .ok (.goto 5, 3) := by decide +kernel
theorem dX1_limit_77 : decode cX1_limit 77 = .ok (.bipush 73, 2) := by decide +kernel
theorem dX1_limit_79 : decode cX1_limit 79 = .ok (.ireturn, 1) := by decide +kernel
theorem dX1_known_0 : decode cX1_known 0 = .ok (.iload_n 1, 1) := by decide +kernel
theorem dX1_known_1 : decode cX1_known 1 = .ok (.ifCond .lt 24, 3) := by decide +kernel
theorem dX1_known_4 : decode cX1_known 4 = .ok (.iload_n 1, 1) := by decide +kernel
theorem dX1_known_5 : decode cX1_known 5 = .ok (.aload_n 0, 1) := by decide +kernel
theorem dX1_known_6 : decode cX1_known 6 = .ok (.getfield 33, 3) := by decide +kernel
theorem dX1_known_9 : decode cX1_known 9 = .ok (.if_icmp .ge 16, 3) := by decide +kernel
theorem dX1_known_12 : decode cX1_known 12 = .ok (.aload_n 0, 1) := by decide +kernel
theorem dX1_known_13 : decode cX1_known 13 = .ok (.getfield 16, 3) := by decide +kernel
theorem dX1_known_16 : decode cX1_known 16 = .ok (.iload_n 1, 1) := by decide +kernel
theorem dX1_known_17 : decode cX1_known 17 = .ok (.baload, 1) := by decide +kernel
theorem dX1_known_18 : decode cX1_known 18 = .ok (.ifCond .eq 7, 3) := by decide +kernel
theorem dX1_known_21 : decode cX1_known 21 = .ok (.iconst 1, 1) := by decide +kernel
theorem dX1_known_22 : decode cX1_known 22 = .ok (.goto 4, 3) := by decide +kernel
theorem dX1_known_25 : decode cX1_known 25 = .ok (.iconst 0, 1) := by decide +kernel
theorem dX1_known_26 : decode cX1_known 26 = .ok (.ireturn, 1) := by decide +kernel
theorem dX1_place_0 : decode cX1_place 0 = .ok (.iconst 0, 1) := by decide +kernel
theorem dX1_place_1 : decode cX1_place 1 = .ok (.istore_n 2, 1) := by decide +kernel
theorem dX1_place_2 : decode cX1_place 2 = .ok (.aload_n 0, 1) := by decide +kernel
theorem dX1_place_3 : decode cX1_place 3 = .ok (.getfield 7, 3) := by decide +kernel
theorem dX1_place_6 : decode cX1_place 6 = .ok (.iload_n 2, 1) := by decide +kernel
theorem dX1_place_7 : decode cX1_place 7 = .ok (.iaload, 1) := by decide +kernel
theorem dX1_place_8 : decode cX1_place 8 = .ok (.iload_n 1, 1) := by decide +kernel
theorem dX1_place_9 : decode cX1_place 9 = .ok (.if_icmp .eq 9, 3) := by decide +kernel
theorem dX1_place_12 : decode cX1_place 12 = .ok (.iinc 2 1, 3) := by decide +kernel
theorem dX1_place_15 : decode cX1_place 15 = .ok (.goto (-13), 3) := by decide +kernel
theorem dX1_place_18 : decode cX1_place 18 = .ok (.iload_n 2, 1) := by decide +kernel
theorem dX1_place_19 : decode cX1_place 19 = .ok (.ireturn, 1) := by decide +kernel
theorem dX1_between_0 : decode cX1_between 0 = .ok (.iconst 0, 1) := by decide +kernel
theorem dX1_between_1 : decode cX1_between 1 = .ok (.istore_n 3, 1) := by decide +kernel
theorem dX1_between_2 : decode cX1_between 2 = .ok (.iconst 0, 1) := by decide +kernel
theorem dX1_between_3 : decode cX1_between 3 = .ok (.istore 4, 2) := by decide +kernel
theorem dX1_between_5 : decode cX1_between 5 = .ok (.iload 4, 2) := by decide +kernel
theorem dX1_between_7 : decode cX1_between 7 = .ok (.aload_n 0, 1) := by decide +kernel
theorem dX1_between_8 : decode cX1_between 8 = .ok (.getfield 36, 3) := by decide +kernel
theorem dX1_between_11 : decode cX1_between 11 = .ok (.if_icmp .ge 49, 3) := by decide +kernel
theorem dX1_between_14 : decode cX1_between 14 = .ok (.iload_n 3, 1) := by decide +kernel
theorem dX1_between_15 : decode cX1_between 15 = .ok (.aload_n 0, 1) := by decide +kernel
theorem dX1_between_16 : decode cX1_between 16 = .ok (.getfield 13, 3) := by decide +kernel
theorem dX1_between_19 : decode cX1_between 19 = .ok (.aload_n 0, 1) := by decide +kernel
theorem dX1_between_20 : decode cX1_between 20 = .ok (.getfield 7, 3) := by decide +kernel
theorem dX1_between_23 : decode cX1_between 23 = .ok (.iload 4, 2) := by decide +kernel
theorem dX1_between_25 : decode cX1_between 25 = .ok (.iaload, 1) := by decide +kernel
theorem dX1_between_26 : decode cX1_between 26 = .ok (.iaload, 1) := by decide +kernel
theorem dX1_between_27 : decode cX1_between 27 = .ok (.iload_n 1, 1) := by decide +kernel
theorem dX1_between_28 : decode cX1_between 28 = .ok (.if_icmp .lt 23, 3) := by decide +kernel
theorem dX1_between_31 : decode cX1_between 31 = .ok (.aload_n 0, 1) := by decide +kernel
theorem dX1_between_32 : decode cX1_between 32 = .ok (.getfield 13, 3) := by decide +kernel
theorem dX1_between_35 : decode cX1_between 35 = .ok (.aload_n 0, 1) := by decide +kernel
theorem dX1_between_36 : decode cX1_between 36 = .ok (.getfield 7, 3) := by decide +kernel
theorem dX1_between_39 : decode cX1_between 39 = .ok (.iload 4, 2) := by decide +kernel
theorem dX1_between_41 : decode cX1_between 41 = .ok (.iaload, 1) := by decide +kernel
theorem dX1_between_42 : decode cX1_between 42 = .ok (.iaload, 1) := by decide +kernel
theorem dX1_between_43 : decode cX1_between 43 = .ok (.iload_n 2, 1) := by decide +kernel
theorem dX1_between_44 : decode cX1_between 44 = .ok (.if_icmp .ge 7, 3) := by decide +kernel
theorem dX1_between_47 : decode cX1_between 47 = .ok (.iconst 1, 1) := by decide +kernel
theorem dX1_between_48 : decode cX1_between 48 = .ok (.goto 4, 3) := by decide +kernel
theorem dX1_between_51 : decode cX1_between 51 = .ok (.iconst 0, 1) := by decide +kernel
theorem dX1_between_52 : decode cX1_between 52 = .ok (.iadd, 1) := by decide +kernel
theorem dX1_between_53 : decode cX1_between 53 = .ok (.istore_n 3, 1) := by decide +kernel
theorem dX1_between_54 : decode cX1_between 54 = .ok (.iinc 4 1, 3) := by decide +kernel
theorem dX1_between_57 : decode cX1_between 57 = .ok (.goto (-52), 3) := by decide +kernel
theorem dX1_between_60 : decode cX1_between 60 = .ok (.iload_n 3, 1) := by decide +kernel
theorem dX1_between_61 : decode cX1_between 61 = .ok (.ireturn, 1) := by decide +kernel
set_option maxRecDepth 20000 in
theorem ggX1_loadOf_X1_between : GoodIn wsX1_loadOf wsX1_between := goodIn_r _ [5, 6, 7, 8, 9, 10, 11, 12, 13, 14, 15, 16, 17, 18] (by decide +kernel) (by decide +kernel)
set_option maxRecDepth 20000 in
theorem gX1_loadOf_X1_between : GoodIn wsX1_loadOf (wsV RX1 39 RX1 yX1_between wsX1_between) := goodIn_app (goodIn_of _ (by decide +kernel)) ggX1_loadOf_X1_between
theorem dX1_loadOf_0 : decode cX1_loadOf 0 = .ok (.aload_n 0, 1) := by decide +kernel
theorem dX1_loadOf_1 : decode cX1_loadOf 1 = .ok (.iload_n 2, 1) := by decide +kernel
theorem dX1_loadOf_2 : decode cX1_loadOf 2 = .ok (.iload_n 1, 1) := by decide +kernel
theorem dX1_loadOf_3 : decode cX1_loadOf 3 = .ok (.ishl, 1) := by decide +kernel
theorem dX1_loadOf_4 : decode cX1_loadOf 4 = .ok (.iload_n 2, 1) := by decide +kernel
theorem dX1_loadOf_5 : decode cX1_loadOf 5 = .ok (.iconst 1, 1) := by decide +kernel
theorem dX1_loadOf_6 : decode cX1_loadOf 6 = .ok (.iadd, 1) := by decide +kernel
theorem dX1_loadOf_7 : decode cX1_loadOf 7 = .ok (.iload_n 1, 1) := by decide +kernel
theorem dX1_loadOf_8 : decode cX1_loadOf 8 = .ok (.ishl, 1) := by decide +kernel
theorem dX1_loadOf_9 : decode cX1_loadOf 9 = .ok (.invokevirtual 39, 3) := by decide +kernel
theorem dX1_loadOf_12 : decode cX1_loadOf 12 = .ok (.ireturn, 1) := by decide +kernel
theorem dX1_markAhead_0 : decode cX1_markAhead 0 = .ok (.iload_n 1, 1) := by decide +kernel
theorem dX1_markAhead_1 : decode cX1_markAhead 1 = .ok (.ifCond .ne 7, 3) := by decide +kernel
theorem dX1_markAhead_4 : decode cX1_markAhead 4 = .ok (.iconst (-1), 1) := by decide +kernel
theorem dX1_markAhead_5 : decode cX1_markAhead 5 = .ok (.goto 16, 3) := by decide +kernel
theorem dX1_markAhead_8 : decode cX1_markAhead 8 = .ok (.aload_n 0, 1) := by decide +kernel
theorem dX1_markAhead_9 : decode cX1_markAhead 9 = .ok (.getfield 13, 3) := by decide +kernel
theorem dX1_markAhead_12 : decode cX1_markAhead 12 = .ok (.aload_n 0, 1) := by decide +kernel
theorem dX1_markAhead_13 : decode cX1_markAhead 13 = .ok (.getfield 7, 3) := by decide +kernel
theorem dX1_markAhead_16 : decode cX1_markAhead 16 = .ok (.iload_n 1, 1) := by decide +kernel
theorem dX1_markAhead_17 : decode cX1_markAhead 17 = .ok (.iconst 1, 1) := by decide +kernel
theorem dX1_markAhead_18 : decode cX1_markAhead 18 = .ok (.isub, 1) := by decide +kernel
theorem dX1_markAhead_19 : decode cX1_markAhead 19 = .ok (.iaload, 1) := by decide +kernel
theorem dX1_markAhead_20 : decode cX1_markAhead 20 = .ok (.iaload, 1) := by decide +kernel
theorem dX1_markAhead_21 : decode cX1_markAhead 21 = .ok (.ireturn, 1) := by decide +kernel
theorem dX1_markBehind_0 : decode cX1_markBehind 0 = .ok (.iload_n 1, 1) := by decide +kernel
theorem dX1_markBehind_1 : decode cX1_markBehind 1 = .ok (.aload_n 0, 1) := by decide +kernel
theorem dX1_markBehind_2 : decode cX1_markBehind 2 = .ok (.getfield 36, 3) := by decide +kernel
theorem dX1_markBehind_5 : decode cX1_markBehind 5 = .ok (.if_icmp .ne 9, 3) := by decide +kernel
theorem dX1_markBehind_8 : decode cX1_markBehind 8 = .ok (.sipush 256, 3) := by decide +kernel
theorem dX1_markBehind_11 : decode cX1_markBehind 11 = .ok (.goto 14, 3) := by decide +kernel
theorem dX1_markBehind_14 : decode cX1_markBehind 14 = .ok (.aload_n 0, 1) := by decide +kernel
theorem dX1_markBehind_15 : decode cX1_markBehind 15 = .ok (.getfield 13, 3) := by decide +kernel
theorem dX1_markBehind_18 : decode cX1_markBehind 18 = .ok (.aload_n 0, 1) := by decide +kernel
theorem dX1_markBehind_19 : decode cX1_markBehind 19 = .ok (.getfield 7, 3) := by decide +kernel
theorem dX1_markBehind_22 : decode cX1_markBehind 22 = .ok (.iload_n 1, 1) := by decide +kernel
theorem dX1_markBehind_23 : decode cX1_markBehind 23 = .ok (.iaload, 1) := by decide +kernel
theorem dX1_markBehind_24 : decode cX1_markBehind 24 = .ok (.iaload, 1) := by decide +kernel
theorem dX1_markBehind_25 : decode cX1_markBehind 25 = .ok (.ireturn, 1) := by decide +kernel
set_option maxRecDepth 20000 in
theorem ggX1_levelFor_X1_loadOf : GoodIn wsX1_levelFor wsX1_loadOf := goodIn_r _ [5, 6, 7, 8, 4, 9, 10, 11, 12, 16, 17, 18, 19, 20, 21, 22, 23, 24, 25] (by decide +kernel) (by decide +kernel)
set_option maxRecDepth 20000 in
theorem gX1_levelFor_X1_loadOf : GoodIn wsX1_levelFor (wsV RX1 43 RX1 yX1_loadOf wsX1_loadOf) := goodIn_app (goodIn_of _ (by decide +kernel)) ggX1_levelFor_X1_loadOf
set_option maxRecDepth 20000 in
theorem ggX1_levelFor_X1_limit : GoodIn wsX1_levelFor wsX1_limit := goodIn_r _ [15] (by decide +kernel) (by decide +kernel)
set_option maxRecDepth 20000 in
theorem gX1_levelFor_X1_limit : GoodIn wsX1_levelFor (va_wsS RX1 46 yX1_limit wsX1_limit) := goodIn_app (goodIn_of _ (by decide +kernel)) ggX1_levelFor_X1_limit
theorem dX1_levelFor_0 : decode cX1_levelFor 0 = .ok (.iconst 1, 1) := by decide +kernel
theorem dX1_levelFor_1 : decode cX1_levelFor 1 = .ok (.istore_n 2, 1) := by decide +kernel
theorem dX1_levelFor_2 : decode cX1_levelFor 2 = .ok (.aload_n 0, 1) := by decide +kernel
theorem dX1_levelFor_3 : decode cX1_levelFor 3 = .ok (.iload_n 2, 1) := by decide +kernel
theorem dX1_levelFor_4 : decode cX1_levelFor 4 = .ok (.iload_n 1, 1) := by decide +kernel
theorem dX1_levelFor_5 : decode cX1_levelFor 5 = .ok (.iload_n 2, 1) := by decide +kernel
theorem dX1_levelFor_6 : decode cX1_levelFor 6 = .ok (.ishr, 1) := by decide +kernel
theorem dX1_levelFor_7 : decode cX1_levelFor 7 = .ok (.invokevirtual 43, 3) := by decide +kernel
theorem dX1_levelFor_10 : decode cX1_levelFor 10 = .ok (.iload_n 2, 1) := by decide +kernel
theorem dX1_levelFor_11 : decode cX1_levelFor 11 = .ok (.invokestatic 46, 3) := by decide +kernel
theorem dX1_levelFor_14 : decode cX1_levelFor 14 = .ok (.if_icmp .lt 9, 3) := by decide +kernel
theorem dX1_levelFor_17 : decode cX1_levelFor 17 = .ok (.iinc 2 1, 3) := by decide +kernel
theorem dX1_levelFor_20 : decode cX1_levelFor 20 = .ok (.goto (-18), 3) := by decide +kernel
theorem dX1_levelFor_23 : decode cX1_levelFor 23 = .ok (.iload_n 2, 1) := by decide +kernel
theorem dX1_levelFor_24 : decode cX1_levelFor 24 = .ok (.ireturn, 1) := by decide +kernel
set_option maxRecDepth 20000 in
theorem ggX1_puts_X1_markAhead : GoodIn wsX1_puts wsX1_markAhead := goodIn_r _ [8, 3, 2, 30, 31, 32, 33, 34, 35, 36, 37, 38, 39] (by decide +kernel) (by decide +kernel)
set_option maxRecDepth 20000 in
theorem gX1_puts_X1_markAhead : GoodIn wsX1_puts (wsV RX1 50 RX1 yX1_markAhead wsX1_markAhead) := goodIn_app (goodIn_of _ (by decide +kernel)) ggX1_puts_X1_markAhead
set_option maxRecDepth 20000 in
theorem ggX1_puts_X1_markBehind : GoodIn wsX1_puts wsX1_markBehind := goodIn_r _ [12, 1, 3, 2, 30, 31, 32, 33, 34, 35, 36, 37, 38, 39] (by decide +kernel) (by decide +kernel)
set_option maxRecDepth 20000 in
theorem gX1_puts_X1_markBehind : GoodIn wsX1_puts (wsV RX1 53 RX1 yX1_markBehind wsX1_markBehind) := goodIn_app (goodIn_of _ (by decide +kernel)) ggX1_puts_X1_markBehind
set_option maxRecDepth 20000 in
theorem ggX1_puts_X1_levelWithout : GoodIn wsX1_puts wsX1_levelWithout := goodIn_r _ [16, 17, 18, 19, 7, 20, 1, 3, 2, 21, 22, 23, 30, 31, 32, 33, 34, 35, 36, 37, 38, 39] (by decide +kernel) (by decide +kernel)
set_option maxRecDepth 20000 in
theorem gX1_puts_X1_levelWithout : GoodIn wsX1_puts (wsV RX1 56 RX1 yX1_levelWithout wsX1_levelWithout) := goodIn_app (goodIn_of _ (by decide +kernel)) ggX1_puts_X1_levelWithout
set_option maxRecDepth 20000 in
theorem ggX1_puts_X1_spreads : GoodIn wsX1_puts wsX1_spreads := goodIn_r _ [27, 1, 3, 2, 28, 29, 30, 31, 32, 33, 34, 35, 36, 37, 38, 39] (by decide +kernel) (by decide +kernel)
set_option maxRecDepth 20000 in
theorem gX1_puts_X1_spreads : GoodIn wsX1_puts (wsV RX1 59 RX1 yX1_spreads wsX1_spreads) := goodIn_app (goodIn_of _ (by decide +kernel)) ggX1_puts_X1_spreads
theorem dX1_puts_0 : decode cX1_puts 0 = .ok (.aload_n 0, 1) := by decide +kernel
theorem dX1_puts_1 : decode cX1_puts 1 = .ok (.iload_n 2, 1) := by decide +kernel
theorem dX1_puts_2 : decode cX1_puts 2 = .ok (.invokevirtual 50, 3) := by decide +kernel
theorem dX1_puts_5 : decode cX1_puts 5 = .ok (.istore_n 3, 1) := by decide +kernel
theorem dX1_puts_6 : decode cX1_puts 6 = .ok (.aload_n 0, 1) := by decide +kernel
theorem dX1_puts_7 : decode cX1_puts 7 = .ok (.iload_n 2, 1) := by decide +kernel
theorem dX1_puts_8 : decode cX1_puts 8 = .ok (.invokevirtual 53, 3) := by decide +kernel
theorem dX1_puts_11 : decode cX1_puts 11 = .ok (.istore 4, 2) := by decide +kernel
theorem dX1_puts_13 : decode cX1_puts 13 = .ok (.aload_n 0, 1) := by decide +kernel
theorem dX1_puts_14 : decode cX1_puts 14 = .ok (.getfield 36, 3) := by decide +kernel
theorem dX1_puts_17 : decode cX1_puts 17 = .ok (.istore 5, 2) := by decide +kernel
theorem dX1_puts_19 : decode cX1_puts 19 = .ok (.iload 5, 2) := by decide +kernel
theorem dX1_puts_21 : decode cX1_puts 21 = .ok (.iload_n 2, 1) := by decide +kernel
theorem dX1_puts_22 : decode cX1_puts 22 = .ok (.if_icmp .le 25, 3) := by decide +kernel
theorem dX1_puts_25 : decode cX1_puts 25 = .ok (.aload_n 0, 1) := by decide +kernel
theorem dX1_puts_26 : decode cX1_puts 26 = .ok (.getfield 7, 3) := by decide +kernel
theorem dX1_puts_29 : decode cX1_puts 29 = .ok (.iload 5, 2) := by decide +kernel
theorem dX1_puts_31 : decode cX1_puts 31 = .ok (.aload_n 0, 1) := by decide +kernel
theorem dX1_puts_32 : decode cX1_puts 32 = .ok (.getfield 7, 3) := by decide +kernel
theorem dX1_puts_35 : decode cX1_puts 35 = .ok (.iload 5, 2) := by decide +kernel
theorem dX1_puts_37 : decode cX1_puts 37 = .ok (.iconst 1, 1) := by decide +kernel
theorem dX1_puts_38 : decode cX1_puts 38 = .ok (.isub, 1) := by decide +kernel
theorem dX1_puts_39 : decode cX1_puts 39 = .ok (.iaload, 1) := by decide +kernel
theorem dX1_puts_40 : decode cX1_puts 40 = .ok (.iastore, 1) := by decide +kernel
theorem dX1_puts_41 : decode cX1_puts 41 = .ok (.iinc 5 (-1), 3) := by decide +kernel
theorem dX1_puts_44 : decode cX1_puts 44 = .ok (.goto (-25), 3) := by decide +kernel
theorem dX1_puts_47 : decode cX1_puts 47 = .ok (.aload_n 0, 1) := by decide +kernel
theorem dX1_puts_48 : decode cX1_puts 48 = .ok (.getfield 7, 3) := by decide +kernel
theorem dX1_puts_51 : decode cX1_puts 51 = .ok (.iload_n 2, 1) := by decide +kernel
theorem dX1_puts_52 : decode cX1_puts 52 = .ok (.iload_n 1, 1) := by decide +kernel
theorem dX1_puts_53 : decode cX1_puts 53 = .ok (.iastore, 1) := by decide +kernel
theorem dX1_puts_54 : decode cX1_puts 54 = .ok (.iload 4, 2) := by decide +kernel
theorem dX1_puts_56 : decode cX1_puts 56 = .ok (.iload_n 3, 1) := by decide +kernel
theorem dX1_puts_57 : decode cX1_puts 57 = .ok (.isub, 1) := by decide +kernel
theorem dX1_puts_58 : decode cX1_puts 58 = .ok (.iconst 2, 1) := by decide +kernel
theorem dX1_puts_59 : decode cX1_puts 59 = .ok (.if_icmp .lt 26, 3) := by decide +kernel
theorem dX1_puts_62 : decode cX1_puts 62 = .ok (.aload_n 0, 1) := by decide +kernel
theorem dX1_puts_63 : decode cX1_puts 63 = .ok (.getfield 13, 3) := by decide +kernel
theorem dX1_puts_66 : decode cX1_puts 66 = .ok (.iload_n 1, 1) := by decide +kernel
theorem dX1_puts_67 : decode cX1_puts 67 = .ok (.iload_n 3, 1) := by decide +kernel
theorem dX1_puts_68 : decode cX1_puts 68 = .ok (.iload 4, 2) := by decide +kernel
theorem dX1_puts_70 : decode cX1_puts 70 = .ok (.iadd, 1) := by decide +kernel
theorem dX1_puts_71 : decode cX1_puts 71 = .ok (.iconst 1, 1) := by decide +kernel
theorem dX1_puts_72 : decode cX1_puts 72 = .ok (.ishr, 1) := by decide +kernel
theorem dX1_puts_73 : decode cX1_puts 73 = .ok (.iastore, 1) := by decide +kernel
theorem dX1_puts_74 : decode cX1_puts 74 = .ok (.aload_n 0, 1) := by decide +kernel
theorem dX1_puts_75 : decode cX1_puts 75 = .ok (.dup, 1) := by decide +kernel
theorem dX1_puts_76 : decode cX1_puts 76 = .ok (.getfield 36, 3) := by decide +kernel
theorem dX1_puts_79 : decode cX1_puts 79 = .ok (.iconst 1, 1) := by decide +kernel
theorem dX1_puts_80 : decode cX1_puts 80 = .ok (.iadd, 1) := by decide +kernel
theorem dX1_puts_81 : decode cX1_puts 81 = .ok (.putfield 36, 3) := by decide +kernel
theorem dX1_puts_84 : decode cX1_puts 84 = .ok (.return_, 1) := by decide +kernel
theorem dX1_puts_85 : decode cX1_puts 85 = .ok (.iload_n 3, 1) := by decide +kernel
theorem dX1_puts_86 : decode cX1_puts 86 = .ok (.ifCond .ge 7, 3) := by decide +kernel
theorem dX1_puts_89 : decode cX1_puts 89 = .ok (.iconst 0, 1) := by decide +kernel
theorem dX1_puts_90 : decode cX1_puts 90 = .ok (.goto 4, 3) := by decide +kernel
theorem dX1_puts_93 : decode cX1_puts 93 = .ok (.iload_n 3, 1) := by decide +kernel
theorem dX1_puts_94 : decode cX1_puts 94 = .ok (.istore 5, 2) := by decide +kernel
theorem dX1_puts_96 : decode cX1_puts 96 = .ok (.aload_n 0, 1) := by decide +kernel
theorem dX1_puts_97 : decode cX1_puts 97 = .ok (.iload_n 2, 1) := by decide +kernel
theorem dX1_puts_98 : decode cX1_puts 98 = .ok (.iload 5, 2) := by decide +kernel
theorem dX1_puts_100 : decode cX1_puts 100 = .ok (.invokevirtual 56, 3) := by decide +kernel
theorem dX1_puts_103 : decode cX1_puts 103 = .ok (.istore 6, 2) := by decide +kernel
theorem dX1_puts_105 : decode cX1_puts 105 = .ok (.aload_n 0, 1) := by decide +kernel
theorem dX1_puts_106 : decode cX1_puts 106 = .ok (.dup, 1) := by decide +kernel
theorem dX1_puts_107 : decode cX1_puts 107 = .ok (.getfield 36, 3) := by decide +kernel
theorem dX1_puts_110 : decode cX1_puts 110 = .ok (.iconst 1, 1) := by decide +kernel
theorem dX1_puts_111 : decode cX1_puts 111 = .ok (.iadd, 1) := by decide +kernel
theorem dX1_puts_112 : decode cX1_puts 112 = .ok (.putfield 36, 3) := by decide +kernel
theorem dX1_puts_115 : decode cX1_puts 115 = .ok (.aload_n 0, 1) := by decide +kernel
theorem dX1_puts_116 : decode cX1_puts 116 = .ok (.iload_n 2, 1) := by decide +kernel
theorem dX1_puts_117 : decode cX1_puts 117 = .ok (.iload 6, 2) := by decide +kernel
theorem dX1_puts_119 : decode cX1_puts 119 = .ok (.iload 5, 2) := by decide +kernel
theorem dX1_puts_121 : decode cX1_puts 121 = .ok (.iload 6, 2) := by decide +kernel
theorem dX1_puts_123 : decode cX1_puts 123 = .ok (.ishr, 1) := by decide +kernel
theorem dX1_puts_124 : decode cX1_puts 124 = .ok (.iload 6, 2) := by decide +kernel
theorem dX1_puts_126 : decode cX1_puts 126 = .ok (.ishl, 1) := by decide +kernel
theorem dX1_puts_127 : decode cX1_puts 127 = .ok (.invokevirtual 59, 3) := by decide +kernel
theorem dX1_puts_130 : decode cX1_puts 130 = .ok (.return_, 1) := by decide +kernel
set_option maxRecDepth 20000 in
theorem ggX1_levelWithout_X1_loadWithout : GoodIn wsX1_levelWithout wsX1_loadWithout := goodIn_r _ [5, 6, 7, 8, 12, 13, 14, 15, 16, 17, 18, 19, 20, 21] (by decide +kernel) (by decide +kernel)
set_option maxRecDepth 20000 in
theorem gX1_levelWithout_X1_loadWithout : GoodIn wsX1_levelWithout (wsV RX1 63 RX1 yX1_loadWithout wsX1_loadWithout) := goodIn_app (goodIn_of _ (by decide +kernel)) ggX1_levelWithout_X1_loadWithout
set_option maxRecDepth 20000 in
theorem ggX1_levelWithout_X1_limit : GoodIn wsX1_levelWithout wsX1_limit := goodIn_r _ [11] (by decide +kernel) (by decide +kernel)
set_option maxRecDepth 20000 in
theorem gX1_levelWithout_X1_limit : GoodIn wsX1_levelWithout (va_wsS RX1 46 yX1_limit wsX1_limit) := goodIn_app (goodIn_of _ (by decide +kernel)) ggX1_levelWithout_X1_limit
theorem dX1_levelWithout_0 : decode cX1_levelWithout 0 = .ok (.iconst 1, 1) := by decide +kernel
theorem dX1_levelWithout_1 : decode cX1_levelWithout 1 = .ok (.istore_n 3, 1) := by decide +kernel
theorem dX1_levelWithout_2 : decode cX1_levelWithout 2 = .ok (.aload_n 0, 1) := by decide +kernel
theorem dX1_levelWithout_3 : decode cX1_levelWithout 3 = .ok (.iload_n 1, 1) := by decide +kernel
theorem dX1_levelWithout_4 : decode cX1_levelWithout 4 = .ok (.iload_n 2, 1) := by decide +kernel
theorem dX1_levelWithout_5 : decode cX1_levelWithout 5 = .ok (.iload_n 3, 1) := by decide +kernel
theorem dX1_levelWithout_6 : decode cX1_levelWithout 6 = .ok (.ishr, 1) := by decide +kernel
theorem dX1_levelWithout_7 : decode cX1_levelWithout 7 = .ok (.iload_n 3, 1) := by decide +kernel
theorem dX1_levelWithout_8 : decode cX1_levelWithout 8 = .ok (.ishl, 1) := by decide +kernel
theorem dX1_levelWithout_9 : decode cX1_levelWithout 9 = .ok (.iconst 1, 1) := by decide +kernel
theorem dX1_levelWithout_10 : decode cX1_levelWithout 10 = .ok (.iload_n 3, 1) := by decide +kernel
theorem dX1_levelWithout_11 : decode cX1_levelWithout 11 = .ok (.ishl, 1) := by decide +kernel
theorem dX1_levelWithout_12 : decode cX1_levelWithout 12 = .ok (.invokevirtual 63, 3) := by decide +kernel
theorem dX1_levelWithout_15 : decode cX1_levelWithout 15 = .ok (.iload_n 3, 1) := by decide +kernel
theorem dX1_levelWithout_16 : decode cX1_levelWithout 16 = .ok (.invokestatic 46, 3) := by decide +kernel
theorem dX1_levelWithout_19 : decode cX1_levelWithout 19 = .ok (.if_icmp .lt 9, 3) := by decide +kernel
theorem dX1_levelWithout_22 : decode cX1_levelWithout 22 = .ok (.iinc 3 1, 3) := by decide +kernel
theorem dX1_levelWithout_25 : decode cX1_levelWithout 25 = .ok (.goto (-23), 3) := by decide +kernel
theorem dX1_levelWithout_28 : decode cX1_levelWithout 28 = .ok (.iload_n 3, 1) := by decide +kernel
theorem dX1_levelWithout_29 : decode cX1_levelWithout 29 = .ok (.ireturn, 1) := by decide +kernel
theorem dX1_loadWithout_0 : decode cX1_loadWithout 0 = .ok (.iconst 0, 1) := by decide +kernel
theorem dX1_loadWithout_1 : decode cX1_loadWithout 1 = .ok (.istore 4, 2) := by decide +kernel
theorem dX1_loadWithout_3 : decode cX1_loadWithout 3 = .ok (.iconst 0, 1) := by decide +kernel
theorem dX1_loadWithout_4 : decode cX1_loadWithout 4 = .ok (.istore 5, 2) := by decide +kernel
theorem dX1_loadWithout_6 : decode cX1_loadWithout 6 = .ok (.iload 5, 2) := by decide +kernel
theorem dX1_loadWithout_8 : decode cX1_loadWithout 8 = .ok (.aload_n 0, 1) := by decide +kernel
theorem dX1_loadWithout_9 : decode cX1_loadWithout 9 = .ok (.getfield 36, 3) := by decide +kernel
theorem dX1_loadWithout_12 : decode cX1_loadWithout 12 = .ok (.if_icmp .gt 53, 3) := by decide +kernel
theorem dX1_loadWithout_15 : decode cX1_loadWithout 15 = .ok (.aload_n 0, 1) := by decide +kernel
theorem dX1_loadWithout_16 : decode cX1_loadWithout 16 = .ok (.getfield 13, 3) := by decide +kernel
theorem dX1_loadWithout_19 : decode cX1_loadWithout 19 = .ok (.aload_n 0, 1) := by decide +kernel
theorem dX1_loadWithout_20 : decode cX1_loadWithout 20 = .ok (.getfield 7, 3) := by decide +kernel
theorem dX1_loadWithout_23 : decode cX1_loadWithout 23 = .ok (.iload 5, 2) := by decide +kernel
theorem dX1_loadWithout_25 : decode cX1_loadWithout 25 = .ok (.iaload, 1) := by decide +kernel
theorem dX1_loadWithout_26 : decode cX1_loadWithout 26 = .ok (.iaload, 1) := by decide +kernel
theorem dX1_loadWithout_27 : decode cX1_loadWithout 27 = .ok (.istore 6, 2) := by decide +kernel
theorem dX1_loadWithout_29 : decode cX1_loadWithout 29 = .ok (.iload 4, 2) := by decide +kernel
theorem dX1_loadWithout_31 : decode cX1_loadWithout 31 = .ok (.iload 5, 2) := by decide +kernel
theorem dX1_loadWithout_33 : decode cX1_loadWithout 33 = .ok (.iload_n 1, 1) := by decide +kernel
theorem dX1_loadWithout_34 : decode cX1_loadWithout 34 = .ok (.if_icmp .eq 21, 3) := by decide +kernel
theorem dX1_loadWithout_37 : decode cX1_loadWithout 37 = .ok (.iload 6, 2) := by decide +kernel
theorem dX1_loadWithout_39 : decode cX1_loadWithout 39 = .ok (.iload_n 2, 1) := by decide +kernel
theorem dX1_loadWithout_40 : decode cX1_loadWithout 40 = .ok (.if_icmp .lt 15, 3) := by decide +kernel
theorem dX1_loadWithout_43 : decode cX1_loadWithout 43 = .ok (.iload 6, 2) := by decide +kernel
theorem dX1_loadWithout_45 : decode cX1_loadWithout 45 = .ok (.iload_n 2, 1) := by decide +kernel
theorem dX1_loadWithout_46 : decode cX1_loadWithout 46 = .ok (.iload_n 3, 1) := by decide +kernel
theorem dX1_loadWithout_47 : decode cX1_loadWithout 47 = .ok (.iadd, 1) := by decide +kernel
theorem dX1_loadWithout_48 : decode cX1_loadWithout 48 = .ok (.if_icmp .ge 7, 3) := by decide +kernel
theorem dX1_loadWithout_51 : decode cX1_loadWithout 51 = .ok (.iconst 1, 1) := by decide +kernel
theorem dX1_loadWithout_52 : decode cX1_loadWithout 52 = .ok (.goto 4, 3) := by decide +kernel
theorem dX1_loadWithout_55 : decode cX1_loadWithout 55 = .ok (.iconst 0, 1) := by decide +kernel
theorem dX1_loadWithout_56 : decode cX1_loadWithout 56 = .ok (.iadd, 1) := by decide +kernel
theorem dX1_loadWithout_57 : decode cX1_loadWithout 57 = .ok (.istore 4, 2) := by decide +kernel
theorem dX1_loadWithout_59 : decode cX1_loadWithout 59 = .ok (.iinc 5 1, 3) := by decide +kernel
theorem dX1_loadWithout_62 : decode cX1_loadWithout 62 = .ok (.goto (-56), 3) := by decide +kernel
theorem dX1_loadWithout_65 : decode cX1_loadWithout 65 = .ok (.iload 4, 2) := by decide +kernel
theorem dX1_loadWithout_67 : decode cX1_loadWithout 67 = .ok (.ireturn, 1) := by decide +kernel
theorem dX1_spreads_0 : decode cX1_spreads 0 = .ok (.iconst 1, 1) := by decide +kernel
theorem dX1_spreads_1 : decode cX1_spreads 1 = .ok (.iload_n 2, 1) := by decide +kernel
theorem dX1_spreads_2 : decode cX1_spreads 2 = .ok (.ishl, 1) := by decide +kernel
theorem dX1_spreads_3 : decode cX1_spreads 3 = .ok (.istore 4, 2) := by decide +kernel
theorem dX1_spreads_5 : decode cX1_spreads 5 = .ok (.iconst 1, 1) := by decide +kernel
theorem dX1_spreads_6 : decode cX1_spreads 6 = .ok (.istore 5, 2) := by decide +kernel
theorem dX1_spreads_8 : decode cX1_spreads 8 = .ok (.iload_n 1, 1) := by decide +kernel
theorem dX1_spreads_9 : decode cX1_spreads 9 = .ok (.istore 6, 2) := by decide +kernel
theorem dX1_spreads_11 : decode cX1_spreads 11 = .ok (.iconst 0, 1) := by decide +kernel
theorem dX1_spreads_12 : decode cX1_spreads 12 = .ok (.istore 7, 2) := by decide +kernel
theorem dX1_spreads_14 : decode cX1_spreads 14 = .ok (.iload 7, 2) := by decide +kernel
theorem dX1_spreads_16 : decode cX1_spreads 16 = .ok (.aload_n 0, 1) := by decide +kernel
theorem dX1_spreads_17 : decode cX1_spreads 17 = .ok (.getfield 36, 3) := by decide +kernel
theorem dX1_spreads_20 : decode cX1_spreads 20 = .ok (.if_icmp .ge 93, 3) := by decide +kernel
theorem dX1_spreads_23 : decode cX1_spreads 23 = .ok (.iload 7, 2) := by decide +kernel
theorem dX1_spreads_25 : decode cX1_spreads 25 = .ok (.iload_n 1, 1) := by decide +kernel
theorem dX1_spreads_26 : decode cX1_spreads 26 = .ok (.if_icmp .eq 42, 3) := by decide +kernel
theorem dX1_spreads_29 : decode cX1_spreads 29 = .ok (.aload_n 0, 1) := by decide +kernel
theorem dX1_spreads_30 : decode cX1_spreads 30 = .ok (.getfield 13, 3) := by decide +kernel
theorem dX1_spreads_33 : decode cX1_spreads 33 = .ok (.aload_n 0, 1) := by decide +kernel
theorem dX1_spreads_34 : decode cX1_spreads 34 = .ok (.getfield 7, 3) := by decide +kernel
theorem dX1_spreads_37 : decode cX1_spreads 37 = .ok (.iload 7, 2) := by decide +kernel
theorem dX1_spreads_39 : decode cX1_spreads 39 = .ok (.iaload, 1) := by decide +kernel
theorem dX1_spreads_40 : decode cX1_spreads 40 = .ok (.iaload, 1) := by decide +kernel
theorem dX1_spreads_41 : decode cX1_spreads 41 = .ok (.iload_n 3, 1) := by decide +kernel
theorem dX1_spreads_42 : decode cX1_spreads 42 = .ok (.if_icmp .lt 26, 3) := by decide +kernel
theorem dX1_spreads_45 : decode cX1_spreads 45 = .ok (.aload_n 0, 1) := by decide +kernel
theorem dX1_spreads_46 : decode cX1_spreads 46 = .ok (.getfield 13, 3) := by decide +kernel
theorem dX1_spreads_49 : decode cX1_spreads 49 = .ok (.aload_n 0, 1) := by decide +kernel
theorem dX1_spreads_50 : decode cX1_spreads 50 = .ok (.getfield 7, 3) := by decide +kernel
theorem dX1_spreads_53 : decode cX1_spreads 53 = .ok (.iload 7, 2) := by decide +kernel
theorem dX1_spreads_55 : decode cX1_spreads 55 = .ok (.iaload, 1) := by decide +kernel
theorem dX1_spreads_56 : decode cX1_spreads 56 = .ok (.iaload, 1) := by decide +kernel
theorem dX1_spreads_57 : decode cX1_spreads 57 = .ok (.iload_n 3, 1) := by decide +kernel
theorem dX1_spreads_58 : decode cX1_spreads 58 = .ok (.iload 4, 2) := by decide +kernel
theorem dX1_spreads_60 : decode cX1_spreads 60 = .ok (.iadd, 1) := by decide +kernel
theorem dX1_spreads_61 : decode cX1_spreads 61 = .ok (.if_icmp .ge 7, 3) := by decide +kernel
theorem dX1_spreads_64 : decode cX1_spreads 64 = .ok (.iconst 1, 1) := by decide +kernel
theorem dX1_spreads_65 : decode cX1_spreads 65 = .ok (.goto 4, 3) := by decide +kernel
theorem dX1_spreads_68 : decode cX1_spreads 68 = .ok (.iconst 0, 1) := by decide +kernel
theorem dX1_spreads_69 : decode cX1_spreads 69 = .ok (.istore 8, 2) := by decide +kernel
theorem dX1_spreads_71 : decode cX1_spreads 71 = .ok (.iload 5, 2) := by decide +kernel
theorem dX1_spreads_73 : decode cX1_spreads 73 = .ok (.iload 8, 2) := by decide +kernel
theorem dX1_spreads_75 : decode cX1_spreads 75 = .ok (.ifCond .eq 7, 3) := by decide +kernel
theorem dX1_spreads_78 : decode cX1_spreads 78 = .ok (.iconst 1, 1) := by decide +kernel
theorem dX1_spreads_79 : decode cX1_spreads 79 = .ok (.goto 4, 3) := by decide +kernel
theorem dX1_spreads_82 : decode cX1_spreads 82 = .ok (.iconst 0, 1) := by decide +kernel
theorem dX1_spreads_83 : decode cX1_spreads 83 = .ok (.iadd, 1) := by decide +kernel
theorem dX1_spreads_84 : decode cX1_spreads 84 = .ok (.istore 5, 2) := by decide +kernel
theorem dX1_spreads_86 : decode cX1_spreads 86 = .ok (.iload 8, 2) := by decide +kernel
theorem dX1_spreads_88 : decode cX1_spreads 88 = .ok (.ifCond .eq 15, 3) := by decide +kernel
theorem dX1_spreads_91 : decode cX1_spreads 91 = .ok (.iload 7, 2) := by decide +kernel
theorem dX1_spreads_93 : decode cX1_spreads 93 = .ok (.iload 6, 2) := by decide +kernel
theorem dX1_spreads_95 : decode cX1_spreads 95 = .ok (.if_icmp .ge 8, 3) := by decide +kernel
theorem dX1_spreads_98 : decode cX1_spreads 98 = .ok (.iload 7, 2) := by decide +kernel
theorem dX1_spreads_100 : decode cX1_spreads 100 = .ok (.goto 5, 3) := by decide +kernel
theorem dX1_spreads_103 : decode cX1_spreads 103 = .ok (.iload 6, 2) := by decide +kernel
theorem dX1_spreads_105 : decode cX1_spreads 105 = .ok (.istore 6, 2) := by decide +kernel
theorem dX1_spreads_107 : decode cX1_spreads 107 = .ok (.iinc 7 1, 3) := by decide +kernel
theorem dX1_spreads_110 : decode cX1_spreads 110 = .ok (.goto (-96), 3) := by decide +kernel
theorem dX1_spreads_113 : decode cX1_spreads 113 = .ok (.iconst 0, 1) := by decide +kernel
theorem dX1_spreads_114 : decode cX1_spreads 114 = .ok (.istore 7, 2) := by decide +kernel
theorem dX1_spreads_116 : decode cX1_spreads 116 = .ok (.iload 7, 2) := by decide +kernel
theorem dX1_spreads_118 : decode cX1_spreads 118 = .ok (.iload 5, 2) := by decide +kernel
theorem dX1_spreads_120 : decode cX1_spreads 120 = .ok (.if_icmp .ge 77, 3) := by decide +kernel
theorem dX1_spreads_123 : decode cX1_spreads 123 = .ok (.aload_n 0, 1) := by decide +kernel
theorem dX1_spreads_124 : decode cX1_spreads 124 = .ok (.getfield 7, 3) := by decide +kernel
theorem dX1_spreads_127 : decode cX1_spreads 127 = .ok (.iload 6, 2) := by decide +kernel
theorem dX1_spreads_129 : decode cX1_spreads 129 = .ok (.iload 7, 2) := by decide +kernel
theorem dX1_spreads_131 : decode cX1_spreads 131 = .ok (.iadd, 1) := by decide +kernel
theorem dX1_spreads_132 : decode cX1_spreads 132 = .ok (.iaload, 1) := by decide +kernel
theorem dX1_spreads_133 : decode cX1_spreads 133 = .ok (.istore 8, 2) := by decide +kernel
theorem dX1_spreads_135 : decode cX1_spreads 135 = .ok (.iload_n 3, 1) := by decide +kernel
theorem dX1_spreads_136 : decode cX1_spreads 136 = .ok (.iload 7, 2) := by decide +kernel
theorem dX1_spreads_138 : decode cX1_spreads 138 = .ok (.iload 4, 2) := by decide +kernel
theorem dX1_spreads_140 : decode cX1_spreads 140 = .ok (.imul, 1) := by decide +kernel
theorem dX1_spreads_141 : decode cX1_spreads 141 = .ok (.iload 5, 2) := by decide +kernel
theorem dX1_spreads_143 : decode cX1_spreads 143 = .ok (.idiv, 1) := by decide +kernel
theorem dX1_spreads_144 : decode cX1_spreads 144 = .ok (.iadd, 1) := by decide +kernel
theorem dX1_spreads_145 : decode cX1_spreads 145 = .ok (.istore 9, 2) := by decide +kernel
theorem dX1_spreads_147 : decode cX1_spreads 147 = .ok (.aload_n 0, 1) := by decide +kernel
theorem dX1_spreads_148 : decode cX1_spreads 148 = .ok (.dup, 1) := by decide +kernel
theorem dX1_spreads_149 : decode cX1_spreads 149 = .ok (.getfield 67, 3) := by decide +kernel
theorem dX1_spreads_152 : decode cX1_spreads 152 = .ok (.iload 6, 2) := by decide +kernel
theorem dX1_spreads_154 : decode cX1_spreads 154 = .ok (.iload 7, 2) := by decide +kernel
theorem dX1_spreads_156 : decode cX1_spreads 156 = .ok (.iadd, 1) := by decide +kernel
theorem dX1_spreads_157 : decode cX1_spreads 157 = .ok (.iload_n 1, 1) := by decide +kernel
theorem dX1_spreads_158 : decode cX1_spreads 158 = .ok (.if_icmp .eq 19, 3) := by decide +kernel
theorem dX1_spreads_161 : decode cX1_spreads 161 = .ok (.aload_n 0, 1) := by decide +kernel
theorem dX1_spreads_162 : decode cX1_spreads 162 = .ok (.getfield 13, 3) := by decide +kernel
theorem dX1_spreads_165 : decode cX1_spreads 165 = .ok (.iload 8, 2) := by decide +kernel
theorem dX1_spreads_167 : decode cX1_spreads 167 = .ok (.iaload, 1) := by decide +kernel
theorem dX1_spreads_168 : decode cX1_spreads 168 = .ok (.iload 9, 2) := by decide +kernel
theorem dX1_spreads_170 : decode cX1_spreads 170 = .ok (.if_icmp .eq 7, 3) := by decide +kernel
theorem dX1_spreads_173 : decode cX1_spreads 173 = .ok (.iconst 1, 1) := by decide +kernel
theorem dX1_spreads_174 : decode cX1_spreads 174 = .ok (.goto 4, 3) := by decide +kernel
theorem dX1_spreads_177 : decode cX1_spreads 177 = .ok (.iconst 0, 1) := by decide +kernel
theorem dX1_spreads_178 : decode cX1_spreads 178 = .ok (.iadd, 1) := by decide +kernel
theorem dX1_spreads_179 : decode cX1_spreads 179 = .ok (.putfield 67, 3) := by decide +kernel
theorem dX1_spreads_182 : decode cX1_spreads 182 = .ok (.aload_n 0, 1) := by decide +kernel
theorem dX1_spreads_183 : decode cX1_spreads 183 = .ok (.getfield 13, 3) := by decide +kernel
theorem dX1_spreads_186 : decode cX1_spreads 186 = .ok (.iload 8, 2) := by decide +kernel
theorem dX1_spreads_188 : decode cX1_spreads 188 = .ok (.iload 9, 2) := by decide +kernel
theorem dX1_spreads_190 : decode cX1_spreads 190 = .ok (.iastore, 1) := by decide +kernel
theorem dX1_spreads_191 : decode cX1_spreads 191 = .ok (.iinc 7 1, 3) := by decide +kernel
theorem dX1_spreads_194 : decode cX1_spreads 194 = .ok (.goto (-78), 3) := by decide +kernel
theorem dX1_spreads_197 : decode cX1_spreads 197 = .ok (.aload_n 0, 1) := by decide +kernel
theorem dX1_spreads_198 : decode cX1_spreads 198 = .ok (.getfield 20, 3) := by decide +kernel
theorem dX1_spreads_201 : decode cX1_spreads 201 = .ok (.iload_n 2, 1) := by decide +kernel
theorem dX1_spreads_202 : decode cX1_spreads 202 = .ok (.dup2, 1) := by decide +kernel
theorem dX1_spreads_203 : decode cX1_spreads 203 = .ok (.iaload, 1) := by decide +kernel
theorem dX1_spreads_204 : decode cX1_spreads 204 = .ok (.iconst 1, 1) := by decide +kernel
theorem dX1_spreads_205 : decode cX1_spreads 205 = .ok (.iadd, 1) := by decide +kernel
theorem dX1_spreads_206 : decode cX1_spreads 206 = .ok (.iastore, 1) := by decide +kernel
theorem dX1_spreads_207 : decode cX1_spreads 207 = .ok (.return_, 1) := by decide +kernel
set_option maxRecDepth 20000 in
theorem ggX1_comes_X1_puts : GoodIn wsX1_comes wsX1_puts := goodIn_r _ [7, 8, 9, 10, 11, 12, 13, 6, 14, 15, 16, 17, 18, 19, 20, 21, 22, 23, 24, 25, 26, 27, 28, 29, 30, 31, 32, 33, 34, 35, 36, 37, 38, 39, 40, 41, 42, 43, 44, 45] (by decide +kernel) (by decide +kernel)
set_option maxRecDepth 20000 in
theorem gX1_comes_X1_puts : GoodIn wsX1_comes (wsV RX1 70 RX1 yX1_puts wsX1_puts) := goodIn_app (goodIn_of _ (by decide +kernel)) ggX1_comes_X1_puts
theorem dX1_comes_0 : decode cX1_comes 0 = .ok (.aload_n 0, 1) := by decide +kernel
theorem dX1_comes_1 : decode cX1_comes 1 = .ok (.getfield 33, 3) := by decide +kernel
theorem dX1_comes_4 : decode cX1_comes 4 = .ok (.istore_n 2, 1) := by decide +kernel
theorem dX1_comes_5 : decode cX1_comes 5 = .ok (.aload_n 0, 1) := by decide +kernel
theorem dX1_comes_6 : decode cX1_comes 6 = .ok (.getfield 16, 3) := by decide +kernel
theorem dX1_comes_9 : decode cX1_comes 9 = .ok (.iload_n 2, 1) := by decide +kernel
theorem dX1_comes_10 : decode cX1_comes 10 = .ok (.iconst 1, 1) := by decide +kernel
theorem dX1_comes_11 : decode cX1_comes 11 = .ok (.bastore, 1) := by decide +kernel
theorem dX1_comes_12 : decode cX1_comes 12 = .ok (.aload_n 0, 1) := by decide +kernel
theorem dX1_comes_13 : decode cX1_comes 13 = .ok (.dup, 1) := by decide +kernel
theorem dX1_comes_14 : decode cX1_comes 14 = .ok (.getfield 33, 3) := by decide +kernel
theorem dX1_comes_17 : decode cX1_comes 17 = .ok (.iconst 1, 1) := by decide +kernel
theorem dX1_comes_18 : decode cX1_comes 18 = .ok (.iadd, 1) := by decide +kernel
theorem dX1_comes_19 : decode cX1_comes 19 = .ok (.putfield 33, 3) := by decide +kernel
theorem dX1_comes_22 : decode cX1_comes 22 = .ok (.aload_n 0, 1) := by decide +kernel
theorem dX1_comes_23 : decode cX1_comes 23 = .ok (.iload_n 2, 1) := by decide +kernel
theorem dX1_comes_24 : decode cX1_comes 24 = .ok (.iload_n 1, 1) := by decide +kernel
theorem dX1_comes_25 : decode cX1_comes 25 = .ok (.invokevirtual 70, 3) := by decide +kernel
theorem dX1_comes_28 : decode cX1_comes 28 = .ok (.iload_n 2, 1) := by decide +kernel
theorem dX1_comes_29 : decode cX1_comes 29 = .ok (.ireturn, 1) := by decide +kernel
theorem dX1_isFull_0 : decode cX1_isFull 0 = .ok (.aload_n 0, 1) := by decide +kernel
theorem dX1_isFull_1 : decode cX1_isFull 1 = .ok (.getfield 33, 3) := by decide +kernel
theorem dX1_isFull_4 : decode cX1_isFull 4 = .ok (.sipush 200, 3) := by decide +kernel
theorem dX1_isFull_7 : decode cX1_isFull 7 = .ok (.if_icmp .eq 12, 3) := by decide +kernel
theorem dX1_isFull_10 : decode cX1_isFull 10 = .ok (.aload_n 0, 1) := by decide +kernel
theorem dX1_isFull_11 : decode cX1_isFull 11 = .ok (.getfield 36, 3) := by decide +kernel
theorem dX1_isFull_14 : decode cX1_isFull 14 = .ok (.bipush 60, 2) := by decide +kernel
theorem dX1_isFull_16 : decode cX1_isFull 16 = .ok (.if_icmp .ne 7, 3) := by decide +kernel
theorem dX1_isFull_19 : decode cX1_isFull 19 = .ok (.iconst 1, 1) := by decide +kernel
theorem dX1_isFull_20 : decode cX1_isFull 20 = .ok (.goto 4, 3) := by decide +kernel
theorem dX1_isFull_23 : decode cX1_isFull 23 = .ok (.iconst 0, 1) := by decide +kernel
theorem dX1_isFull_24 : decode cX1_isFull 24 = .ok (.ireturn, 1) := by decide +kernel
set_option maxRecDepth 20000 in
theorem ggX1_putFirst_X1_isFull : GoodIn wsX1_putFirst wsX1_isFull := goodIn_r _ [6, 7, 8, 45, 46, 47, 48, 49, 50, 51, 52, 53, 54] (by decide +kernel) (by decide +kernel)
set_option maxRecDepth 20000 in
theorem gX1_putFirst_X1_isFull : GoodIn wsX1_putFirst (wsV RX1 74 RX1 yX1_isFull wsX1_isFull) := goodIn_app (goodIn_of _ (by decide +kernel)) ggX1_putFirst_X1_isFull
set_option maxRecDepth 20000 in
theorem ggX1_putFirst_X1_comes : GoodIn wsX1_putFirst wsX1_comes := goodIn_r _ [12, 7, 13, 14, 15, 16, 5, 17, 8, 18, 19, 20, 21, 22, 23, 24, 25, 26, 27, 28, 29, 30, 31, 32, 33, 34, 35, 36, 37, 38, 39, 40, 41, 42, 43, 44, 45, 46, 47, 48, 49, 50, 51, 52, 53, 54] (by decide +kernel) (by decide +kernel)
set_option maxRecDepth 20000 in
theorem gX1_putFirst_X1_comes : GoodIn wsX1_putFirst (wsV RX1 78 RX1 yX1_comes wsX1_comes) := goodIn_app (goodIn_of _ (by decide +kernel)) ggX1_putFirst_X1_comes
theorem dX1_putFirst_0 : decode cX1_putFirst 0 = .ok (.aload_n 0, 1) := by decide +kernel
theorem dX1_putFirst_1 : decode cX1_putFirst 1 = .ok (.aload_n 0, 1) := by decide +kernel
theorem dX1_putFirst_2 : decode cX1_putFirst 2 = .ok (.invokevirtual 74, 3) := by decide +kernel
theorem dX1_putFirst_5 : decode cX1_putFirst 5 = .ok (.ifCond .eq 7, 3) := by decide +kernel
theorem dX1_putFirst_8 : decode cX1_putFirst 8 = .ok (.iconst 1, 1) := by decide +kernel
theorem dX1_putFirst_9 : decode cX1_putFirst 9 = .ok (.goto 4, 3) := by decide +kernel
theorem dX1_putFirst_12 : decode cX1_putFirst 12 = .ok (.iconst 0, 1) := by decide +kernel
theorem dX1_putFirst_13 : decode cX1_putFirst 13 = .ok (.putfield 29, 3) := by decide +kernel
theorem dX1_putFirst_16 : decode cX1_putFirst 16 = .ok (.aload_n 0, 1) := by decide +kernel
theorem dX1_putFirst_17 : decode cX1_putFirst 17 = .ok (.getfield 29, 3) := by decide +kernel
theorem dX1_putFirst_20 : decode cX1_putFirst 20 = .ok (.ifCond .le 7, 3) := by decide +kernel
theorem dX1_putFirst_23 : decode cX1_putFirst 23 = .ok (.iconst 0, 1) := by decide +kernel
theorem dX1_putFirst_24 : decode cX1_putFirst 24 = .ok (.goto 8, 3) := by decide +kernel
theorem dX1_putFirst_27 : decode cX1_putFirst 27 = .ok (.aload_n 0, 1) := by decide +kernel
theorem dX1_putFirst_28 : decode cX1_putFirst 28 = .ok (.iconst 0, 1) := by decide +kernel
theorem dX1_putFirst_29 : decode cX1_putFirst 29 = .ok (.invokevirtual 78, 3) := by decide +kernel
theorem dX1_putFirst_32 : decode cX1_putFirst 32 = .ok (.ireturn, 1) := by decide +kernel
set_option maxRecDepth 20000 in
theorem ggX1_putBehind_X1_known : GoodIn wsX1_putBehind wsX1_known := goodIn_r _ [6, 7, 8, 53, 54, 55, 56, 57, 58, 59, 60, 61, 62] (by decide +kernel) (by decide +kernel)
set_option maxRecDepth 20000 in
theorem gX1_putBehind_X1_known : GoodIn wsX1_putBehind (wsV RX1 81 RX1 yX1_known wsX1_known) := goodIn_app (goodIn_of _ (by decide +kernel)) ggX1_putBehind_X1_known
set_option maxRecDepth 20000 in
theorem ggX1_putBehind_X1_isFull : GoodIn wsX1_putBehind wsX1_isFull := goodIn_r _ [12, 7, 13, 53, 54, 55, 56, 57, 58, 59, 60, 61, 62] (by decide +kernel) (by decide +kernel)
set_option maxRecDepth 20000 in
theorem gX1_putBehind_X1_isFull : GoodIn wsX1_putBehind (wsV RX1 74 RX1 yX1_isFull wsX1_isFull) := goodIn_app (goodIn_of _ (by decide +kernel)) ggX1_putBehind_X1_isFull
set_option maxRecDepth 20000 in
theorem ggX1_putBehind_X1_place : GoodIn wsX1_putBehind wsX1_place := goodIn_r _ [17, 18, 53, 54, 55, 56, 57, 58, 59, 60, 61, 62] (by decide +kernel) (by decide +kernel)
set_option maxRecDepth 20000 in
theorem gX1_putBehind_X1_place : GoodIn wsX1_putBehind (wsV RX1 85 RX1 yX1_place wsX1_place) := goodIn_app (goodIn_of _ (by decide +kernel)) ggX1_putBehind_X1_place
set_option maxRecDepth 20000 in
theorem ggX1_putBehind_X1_comes : GoodIn wsX1_putBehind wsX1_comes := goodIn_r _ [22, 7, 8, 23, 24, 25, 5, 26, 13, 18, 27, 28, 29, 30, 31, 32, 33, 34, 35, 36, 37, 38, 39, 40, 41, 42, 43, 44, 45, 46, 47, 48, 49, 50, 51, 52, 53, 54, 55, 56, 57, 58, 59, 60, 61, 62] (by decide +kernel) (by decide +kernel)
set_option maxRecDepth 20000 in
theorem gX1_putBehind_X1_comes : GoodIn wsX1_putBehind (wsV RX1 78 RX1 yX1_comes wsX1_comes) := goodIn_app (goodIn_of _ (by decide +kernel)) ggX1_putBehind_X1_comes
theorem dX1_putBehind_0 : decode cX1_putBehind 0 = .ok (.aload_n 0, 1) := by decide +kernel
theorem dX1_putBehind_1 : decode cX1_putBehind 1 = .ok (.aload_n 0, 1) := by decide +kernel
theorem dX1_putBehind_2 : decode cX1_putBehind 2 = .ok (.iload_n 1, 1) := by decide +kernel
theorem dX1_putBehind_3 : decode cX1_putBehind 3 = .ok (.invokevirtual 81, 3) := by decide +kernel
theorem dX1_putBehind_6 : decode cX1_putBehind 6 = .ok (.ifCond .ne 7, 3) := by decide +kernel
theorem dX1_putBehind_9 : decode cX1_putBehind 9 = .ok (.iconst 1, 1) := by decide +kernel
theorem dX1_putBehind_10 : decode cX1_putBehind 10 = .ok (.goto 15, 3) := by decide +kernel
theorem dX1_putBehind_13 : decode cX1_putBehind 13 = .ok (.aload_n 0, 1) := by decide +kernel
theorem dX1_putBehind_14 : decode cX1_putBehind 14 = .ok (.invokevirtual 74, 3) := by decide +kernel
theorem dX1_putBehind_17 : decode cX1_putBehind 17 = .ok (.ifCond .eq 7, 3) := by decide +kernel
theorem dX1_putBehind_20 : decode cX1_putBehind 20 = .ok (.iconst 2, 1) := by decide +kernel
theorem dX1_putBehind_21 : decode cX1_putBehind 21 = .ok (.goto 4, 3) := by decide +kernel
theorem dX1_putBehind_24 : decode cX1_putBehind 24 = .ok (.iconst 0, 1) := by decide +kernel
theorem dX1_putBehind_25 : decode cX1_putBehind 25 = .ok (.putfield 29, 3) := by decide +kernel
theorem dX1_putBehind_28 : decode cX1_putBehind 28 = .ok (.aload_n 0, 1) := by decide +kernel
theorem dX1_putBehind_29 : decode cX1_putBehind 29 = .ok (.getfield 29, 3) := by decide +kernel
theorem dX1_putBehind_32 : decode cX1_putBehind 32 = .ok (.ifCond .le 7, 3) := by decide +kernel
theorem dX1_putBehind_35 : decode cX1_putBehind 35 = .ok (.iconst 0, 1) := by decide +kernel
theorem dX1_putBehind_36 : decode cX1_putBehind 36 = .ok (.goto 14, 3) := by decide +kernel
theorem dX1_putBehind_39 : decode cX1_putBehind 39 = .ok (.aload_n 0, 1) := by decide +kernel
theorem dX1_putBehind_40 : decode cX1_putBehind 40 = .ok (.aload_n 0, 1) := by decide +kernel
theorem dX1_putBehind_41 : decode cX1_putBehind 41 = .ok (.iload_n 1, 1) := by decide +kernel
theorem dX1_putBehind_42 : decode cX1_putBehind 42 = .ok (.invokevirtual 85, 3) := by decide +kernel
theorem dX1_putBehind_45 : decode cX1_putBehind 45 = .ok (.iconst 1, 1) := by decide +kernel
theorem dX1_putBehind_46 : decode cX1_putBehind 46 = .ok (.iadd, 1) := by decide +kernel
theorem dX1_putBehind_47 : decode cX1_putBehind 47 = .ok (.invokevirtual 78, 3) := by decide +kernel
theorem dX1_putBehind_50 : decode cX1_putBehind 50 = .ok (.ireturn, 1) := by decide +kernel
set_option maxRecDepth 20000 in
theorem ggX1_lifts_X1_place : GoodIn wsX1_lifts wsX1_place := goodIn_r _ [7, 2, 8, 9, 10, 11, 12, 13, 14, 15, 16, 17] (by decide +kernel) (by decide +kernel)
set_option maxRecDepth 20000 in
theorem gX1_lifts_X1_place : GoodIn wsX1_lifts (wsV RX1 85 RX1 yX1_place wsX1_place) := goodIn_app (goodIn_of _ (by decide +kernel)) ggX1_lifts_X1_place
theorem dX1_lifts_0 : decode cX1_lifts 0 = .ok (.aload_n 0, 1) := by decide +kernel
theorem dX1_lifts_1 : decode cX1_lifts 1 = .ok (.iload_n 1, 1) := by decide +kernel
theorem dX1_lifts_2 : decode cX1_lifts 2 = .ok (.invokevirtual 85, 3) := by decide +kernel
theorem dX1_lifts_5 : decode cX1_lifts 5 = .ok (.istore_n 2, 1) := by decide +kernel
theorem dX1_lifts_6 : decode cX1_lifts 6 = .ok (.iload_n 2, 1) := by decide +kernel
theorem dX1_lifts_7 : decode cX1_lifts 7 = .ok (.aload_n 0, 1) := by decide +kernel
theorem dX1_lifts_8 : decode cX1_lifts 8 = .ok (.getfield 36, 3) := by decide +kernel
theorem dX1_lifts_11 : decode cX1_lifts 11 = .ok (.iconst 1, 1) := by decide +kernel
theorem dX1_lifts_12 : decode cX1_lifts 12 = .ok (.isub, 1) := by decide +kernel
theorem dX1_lifts_13 : decode cX1_lifts 13 = .ok (.if_icmp .ge 23, 3) := by decide +kernel
theorem dX1_lifts_16 : decode cX1_lifts 16 = .ok (.aload_n 0, 1) := by decide +kernel
theorem dX1_lifts_17 : decode cX1_lifts 17 = .ok (.getfield 7, 3) := by decide +kernel
theorem dX1_lifts_20 : decode cX1_lifts 20 = .ok (.iload_n 2, 1) := by decide +kernel
theorem dX1_lifts_21 : decode cX1_lifts 21 = .ok (.aload_n 0, 1) := by decide +kernel
theorem dX1_lifts_22 : decode cX1_lifts 22 = .ok (.getfield 7, 3) := by decide +kernel
theorem dX1_lifts_25 : decode cX1_lifts 25 = .ok (.iload_n 2, 1) := by decide +kernel
theorem dX1_lifts_26 : decode cX1_lifts 26 = .ok (.iconst 1, 1) := by decide +kernel
theorem dX1_lifts_27 : decode cX1_lifts 27 = .ok (.iadd, 1) := by decide +kernel
theorem dX1_lifts_28 : decode cX1_lifts 28 = .ok (.iaload, 1) := by decide +kernel
theorem dX1_lifts_29 : decode cX1_lifts 29 = .ok (.iastore, 1) := by decide +kernel
theorem dX1_lifts_30 : decode cX1_lifts 30 = .ok (.iinc 2 1, 3) := by decide +kernel
theorem dX1_lifts_33 : decode cX1_lifts 33 = .ok (.goto (-27), 3) := by decide +kernel
theorem dX1_lifts_36 : decode cX1_lifts 36 = .ok (.aload_n 0, 1) := by decide +kernel
theorem dX1_lifts_37 : decode cX1_lifts 37 = .ok (.dup, 1) := by decide +kernel
theorem dX1_lifts_38 : decode cX1_lifts 38 = .ok (.getfield 36, 3) := by decide +kernel
theorem dX1_lifts_41 : decode cX1_lifts 41 = .ok (.iconst 1, 1) := by decide +kernel
theorem dX1_lifts_42 : decode cX1_lifts 42 = .ok (.isub, 1) := by decide +kernel
theorem dX1_lifts_43 : decode cX1_lifts 43 = .ok (.putfield 36, 3) := by decide +kernel
theorem dX1_lifts_46 : decode cX1_lifts 46 = .ok (.return_, 1) := by decide +kernel
set_option maxRecDepth 20000 in
theorem ggX1_takeOut_X1_known : GoodIn wsX1_takeOut wsX1_known := goodIn_r _ [9, 10, 3, 24, 25, 26, 27, 28, 29, 30, 31, 32, 33] (by decide +kernel) (by decide +kernel)
set_option maxRecDepth 20000 in
theorem gX1_takeOut_X1_known : GoodIn wsX1_takeOut (wsV RX1 81 RX1 yX1_known wsX1_known) := goodIn_app (goodIn_of _ (by decide +kernel)) ggX1_takeOut_X1_known
set_option maxRecDepth 20000 in
theorem ggX1_takeOut_X1_behind : GoodIn wsX1_takeOut wsX1_behind := goodIn_r _ [14, 4, 15, 16, 17, 18, 8, 19, 24, 25, 26, 27, 28, 29, 30, 31, 32, 33] (by decide +kernel) (by decide +kernel)
set_option maxRecDepth 20000 in
theorem gX1_takeOut_X1_behind : GoodIn wsX1_takeOut (wsV RX1 88 RX1 yX1_behind wsX1_behind) := goodIn_app (goodIn_of _ (by decide +kernel)) ggX1_takeOut_X1_behind
set_option maxRecDepth 20000 in
theorem ggX1_takeOut_X1_lifts : GoodIn wsX1_takeOut wsX1_lifts := goodIn_r _ [23, 4, 15, 16, 17, 18, 8, 19, 24, 25, 26, 27, 28, 29, 30, 31, 32, 33] (by decide +kernel) (by decide +kernel)
set_option maxRecDepth 20000 in
theorem gX1_takeOut_X1_lifts : GoodIn wsX1_takeOut (wsV RX1 91 RX1 yX1_lifts wsX1_lifts) := goodIn_app (goodIn_of _ (by decide +kernel)) ggX1_takeOut_X1_lifts
theorem dX1_takeOut_0 : decode cX1_takeOut 0 = .ok (.aload_n 0, 1) := by decide +kernel
theorem dX1_takeOut_1 : decode cX1_takeOut 1 = .ok (.aload_n 0, 1) := by decide +kernel
theorem dX1_takeOut_2 : decode cX1_takeOut 2 = .ok (.iload_n 1, 1) := by decide +kernel
theorem dX1_takeOut_3 : decode cX1_takeOut 3 = .ok (.invokevirtual 81, 3) := by decide +kernel
theorem dX1_takeOut_6 : decode cX1_takeOut 6 = .ok (.ifCond .eq 7, 3) := by decide +kernel
theorem dX1_takeOut_9 : decode cX1_takeOut 9 = .ok (.iconst 0, 1) := by decide +kernel
theorem dX1_takeOut_10 : decode cX1_takeOut 10 = .ok (.goto 4, 3) := by decide +kernel
theorem dX1_takeOut_13 : decode cX1_takeOut 13 = .ok (.iconst 1, 1) := by decide +kernel
theorem dX1_takeOut_14 : decode cX1_takeOut 14 = .ok (.putfield 29, 3) := by decide +kernel
theorem dX1_takeOut_17 : decode cX1_takeOut 17 = .ok (.aload_n 0, 1) := by decide +kernel
theorem dX1_takeOut_18 : decode cX1_takeOut 18 = .ok (.getfield 29, 3) := by decide +kernel
theorem dX1_takeOut_21 : decode cX1_takeOut 21 = .ok (.ifCond .le 5, 3) := by decide +kernel
theorem dX1_takeOut_24 : decode cX1_takeOut 24 = .ok (.iconst 0, 1) := by decide +kernel
theorem dX1_takeOut_25 : decode cX1_takeOut 25 = .ok (.ireturn, 1) := by decide +kernel
theorem dX1_takeOut_26 : decode cX1_takeOut 26 = .ok (.aload_n 0, 1) := by decide +kernel
theorem dX1_takeOut_27 : decode cX1_takeOut 27 = .ok (.iload_n 1, 1) := by decide +kernel
theorem dX1_takeOut_28 : decode cX1_takeOut 28 = .ok (.invokevirtual 88, 3) := by decide +kernel
theorem dX1_takeOut_31 : decode cX1_takeOut 31 = .ok (.istore_n 2, 1) := by decide +kernel
theorem dX1_takeOut_32 : decode cX1_takeOut 32 = .ok (.iconst 0, 1) := by decide +kernel
theorem dX1_takeOut_33 : decode cX1_takeOut 33 = .ok (.istore_n 3, 1) := by decide +kernel
theorem dX1_takeOut_34 : decode cX1_takeOut 34 = .ok (.iload_n 3, 1) := by decide +kernel
theorem dX1_takeOut_35 : decode cX1_takeOut 35 = .ok (.iconst 4, 1) := by decide +kernel
theorem dX1_takeOut_36 : decode cX1_takeOut 36 = .ok (.if_icmp .ge 35, 3) := by decide +kernel
theorem dX1_takeOut_39 : decode cX1_takeOut 39 = .ok (.aload_n 0, 1) := by decide +kernel
theorem dX1_takeOut_40 : decode cX1_takeOut 40 = .ok (.getfield 23, 3) := by decide +kernel
theorem dX1_takeOut_43 : decode cX1_takeOut 43 = .ok (.iload_n 3, 1) := by decide +kernel
theorem dX1_takeOut_44 : decode cX1_takeOut 44 = .ok (.aload_n 0, 1) := by decide +kernel
theorem dX1_takeOut_45 : decode cX1_takeOut 45 = .ok (.getfield 23, 3) := by decide +kernel
theorem dX1_takeOut_48 : decode cX1_takeOut 48 = .ok (.iload_n 3, 1) := by decide +kernel
theorem dX1_takeOut_49 : decode cX1_takeOut 49 = .ok (.iaload, 1) := by decide +kernel
theorem dX1_takeOut_50 : decode cX1_takeOut 50 = .ok (.iload_n 1, 1) := by decide +kernel
theorem dX1_takeOut_51 : decode cX1_takeOut 51 = .ok (.if_icmp .ne 7, 3) := by decide +kernel
theorem dX1_takeOut_54 : decode cX1_takeOut 54 = .ok (.iload_n 2, 1) := by decide +kernel
theorem dX1_takeOut_55 : decode cX1_takeOut 55 = .ok (.goto 9, 3) := by decide +kernel
theorem dX1_takeOut_58 : decode cX1_takeOut 58 = .ok (.aload_n 0, 1) := by decide +kernel
theorem dX1_takeOut_59 : decode cX1_takeOut 59 = .ok (.getfield 23, 3) := by decide +kernel
theorem dX1_takeOut_62 : decode cX1_takeOut 62 = .ok (.iload_n 3, 1) := by decide +kernel
theorem dX1_takeOut_63 : decode cX1_takeOut 63 = .ok (.iaload, 1) := by decide +kernel
theorem dX1_takeOut_64 : decode cX1_takeOut 64 = .ok (.iastore, 1) := by decide +kernel
theorem dX1_takeOut_65 : decode cX1_takeOut 65 = .ok (.iinc 3 1, 3) := by decide +kernel
theorem dX1_takeOut_68 : decode cX1_takeOut 68 = .ok (.goto (-34), 3) := by decide +kernel
theorem dX1_takeOut_71 : decode cX1_takeOut 71 = .ok (.aload_n 0, 1) := by decide +kernel
theorem dX1_takeOut_72 : decode cX1_takeOut 72 = .ok (.iload_n 1, 1) := by decide +kernel
theorem dX1_takeOut_73 : decode cX1_takeOut 73 = .ok (.invokevirtual 91, 3) := by decide +kernel
theorem dX1_takeOut_76 : decode cX1_takeOut 76 = .ok (.aload_n 0, 1) := by decide +kernel
theorem dX1_takeOut_77 : decode cX1_takeOut 77 = .ok (.getfield 16, 3) := by decide +kernel
theorem dX1_takeOut_80 : decode cX1_takeOut 80 = .ok (.iload_n 1, 1) := by decide +kernel
theorem dX1_takeOut_81 : decode cX1_takeOut 81 = .ok (.iconst 0, 1) := by decide +kernel
theorem dX1_takeOut_82 : decode cX1_takeOut 82 = .ok (.bastore, 1) := by decide +kernel
theorem dX1_takeOut_83 : decode cX1_takeOut 83 = .ok (.aload_n 0, 1) := by decide +kernel
theorem dX1_takeOut_84 : decode cX1_takeOut 84 = .ok (.getfield 36, 3) := by decide +kernel
theorem dX1_takeOut_87 : decode cX1_takeOut 87 = .ok (.ireturn, 1) := by decide +kernel
set_option maxRecDepth 20000 in
theorem ggX1_carry_X1_known : GoodIn wsX1_carry wsX1_known := goodIn_r _ [7, 8, 9, 49, 50, 51, 52, 53, 54, 55, 56, 57, 58] (by decide +kernel) (by decide +kernel)
set_option maxRecDepth 20000 in
theorem gX1_carry_X1_known : GoodIn wsX1_carry (wsV RX1 81 RX1 yX1_known wsX1_known) := goodIn_app (goodIn_of _ (by decide +kernel)) ggX1_carry_X1_known
set_option maxRecDepth 20000 in
theorem ggX1_carry_X1_lifts : GoodIn wsX1_carry wsX1_lifts := goodIn_r _ [13, 14, 15, 16, 17, 18, 6, 19, 49, 50, 51, 52, 53, 54, 55, 56, 57, 58] (by decide +kernel) (by decide +kernel)
set_option maxRecDepth 20000 in
theorem gX1_carry_X1_lifts : GoodIn wsX1_carry (wsV RX1 91 RX1 yX1_lifts wsX1_lifts) := goodIn_app (goodIn_of _ (by decide +kernel)) ggX1_carry_X1_lifts
set_option maxRecDepth 20000 in
theorem ggX1_carry_X1_place : GoodIn wsX1_carry wsX1_place := goodIn_r _ [19, 15, 49, 50, 51, 52, 53, 54, 55, 56, 57, 58] (by decide +kernel) (by decide +kernel)
set_option maxRecDepth 20000 in
theorem gX1_carry_X1_place : GoodIn wsX1_carry (wsV RX1 85 RX1 yX1_place wsX1_place) := goodIn_app (goodIn_of _ (by decide +kernel)) ggX1_carry_X1_place
set_option maxRecDepth 20000 in
theorem ggX1_carry_X1_puts : GoodIn wsX1_carry wsX1_puts := goodIn_r _ [23, 14, 15, 2, 24, 25, 26, 6, 27, 28, 29, 30, 31, 32, 33, 34, 35, 36, 37, 38, 39, 40, 41, 42, 43, 44, 45, 46, 47, 48, 49, 50, 51, 52, 53, 54, 55, 56, 57, 58] (by decide +kernel) (by decide +kernel)
set_option maxRecDepth 20000 in
theorem gX1_carry_X1_puts : GoodIn wsX1_carry (wsV RX1 70 RX1 yX1_puts wsX1_puts) := goodIn_app (goodIn_of _ (by decide +kernel)) ggX1_carry_X1_puts
theorem dX1_carry_0 : decode cX1_carry 0 = .ok (.aload_n 0, 1) := by decide +kernel
theorem dX1_carry_1 : decode cX1_carry 1 = .ok (.aload_n 0, 1) := by decide +kernel
theorem dX1_carry_2 : decode cX1_carry 2 = .ok (.iload_n 1, 1) := by decide +kernel
theorem dX1_carry_3 : decode cX1_carry 3 = .ok (.invokevirtual 81, 3) := by decide +kernel
theorem dX1_carry_6 : decode cX1_carry 6 = .ok (.ifCond .eq 11, 3) := by decide +kernel
theorem dX1_carry_9 : decode cX1_carry 9 = .ok (.aload_n 0, 1) := by decide +kernel
theorem dX1_carry_10 : decode cX1_carry 10 = .ok (.iload_n 2, 1) := by decide +kernel
theorem dX1_carry_11 : decode cX1_carry 11 = .ok (.invokevirtual 81, 3) := by decide +kernel
theorem dX1_carry_14 : decode cX1_carry 14 = .ok (.ifCond .ne 7, 3) := by decide +kernel
theorem dX1_carry_17 : decode cX1_carry 17 = .ok (.iconst 1, 1) := by decide +kernel
theorem dX1_carry_18 : decode cX1_carry 18 = .ok (.goto 13, 3) := by decide +kernel
theorem dX1_carry_21 : decode cX1_carry 21 = .ok (.iload_n 1, 1) := by decide +kernel
theorem dX1_carry_22 : decode cX1_carry 22 = .ok (.iload_n 2, 1) := by decide +kernel
theorem dX1_carry_23 : decode cX1_carry 23 = .ok (.if_icmp .ne 7, 3) := by decide +kernel
theorem dX1_carry_26 : decode cX1_carry 26 = .ok (.iconst 2, 1) := by decide +kernel
theorem dX1_carry_27 : decode cX1_carry 27 = .ok (.goto 4, 3) := by decide +kernel
theorem dX1_carry_30 : decode cX1_carry 30 = .ok (.iconst 0, 1) := by decide +kernel
theorem dX1_carry_31 : decode cX1_carry 31 = .ok (.putfield 29, 3) := by decide +kernel
theorem dX1_carry_34 : decode cX1_carry 34 = .ok (.aload_n 0, 1) := by decide +kernel
theorem dX1_carry_35 : decode cX1_carry 35 = .ok (.getfield 29, 3) := by decide +kernel
theorem dX1_carry_38 : decode cX1_carry 38 = .ok (.ifCond .le 5, 3) := by decide +kernel
theorem dX1_carry_41 : decode cX1_carry 41 = .ok (.iconst 0, 1) := by decide +kernel
theorem dX1_carry_42 : decode cX1_carry 42 = .ok (.ireturn, 1) := by decide +kernel
theorem dX1_carry_43 : decode cX1_carry 43 = .ok (.aload_n 0, 1) := by decide +kernel
theorem dX1_carry_44 : decode cX1_carry 44 = .ok (.iload_n 1, 1) := by decide +kernel
theorem dX1_carry_45 : decode cX1_carry 45 = .ok (.invokevirtual 91, 3) := by decide +kernel
theorem dX1_carry_48 : decode cX1_carry 48 = .ok (.aload_n 0, 1) := by decide +kernel
theorem dX1_carry_49 : decode cX1_carry 49 = .ok (.iload_n 1, 1) := by decide +kernel
theorem dX1_carry_50 : decode cX1_carry 50 = .ok (.aload_n 0, 1) := by decide +kernel
theorem dX1_carry_51 : decode cX1_carry 51 = .ok (.iload_n 2, 1) := by decide +kernel
theorem dX1_carry_52 : decode cX1_carry 52 = .ok (.invokevirtual 85, 3) := by decide +kernel
theorem dX1_carry_55 : decode cX1_carry 55 = .ok (.iconst 1, 1) := by decide +kernel
theorem dX1_carry_56 : decode cX1_carry 56 = .ok (.iadd, 1) := by decide +kernel
theorem dX1_carry_57 : decode cX1_carry 57 = .ok (.invokevirtual 70, 3) := by decide +kernel
theorem dX1_carry_60 : decode cX1_carry 60 = .ok (.aload_n 0, 1) := by decide +kernel
theorem dX1_carry_61 : decode cX1_carry 61 = .ok (.getfield 13, 3) := by decide +kernel
theorem dX1_carry_64 : decode cX1_carry 64 = .ok (.iload_n 1, 1) := by decide +kernel
theorem dX1_carry_65 : decode cX1_carry 65 = .ok (.iaload, 1) := by decide +kernel
theorem dX1_carry_66 : decode cX1_carry 66 = .ok (.ireturn, 1) := by decide +kernel
theorem dX1_size_0 : decode cX1_size 0 = .ok (.aload_n 0, 1) := by decide +kernel
theorem dX1_size_1 : decode cX1_size 1 = .ok (.iconst 0, 1) := by decide +kernel
theorem dX1_size_2 : decode cX1_size 2 = .ok (.putfield 29, 3) := by decide +kernel
theorem dX1_size_5 : decode cX1_size 5 = .ok (.aload_n 0, 1) := by decide +kernel
theorem dX1_size_6 : decode cX1_size 6 = .ok (.getfield 36, 3) := by decide +kernel
theorem dX1_size_9 : decode cX1_size 9 = .ok (.ireturn, 1) := by decide +kernel
theorem dX1_first_0 : decode cX1_first 0 = .ok (.aload_n 0, 1) := by decide +kernel
theorem dX1_first_1 : decode cX1_first 1 = .ok (.iconst 0, 1) := by decide +kernel
theorem dX1_first_2 : decode cX1_first 2 = .ok (.putfield 29, 3) := by decide +kernel
theorem dX1_first_5 : decode cX1_first 5 = .ok (.aload_n 0, 1) := by decide +kernel
theorem dX1_first_6 : decode cX1_first 6 = .ok (.getfield 36, 3) := by decide +kernel
theorem dX1_first_9 : decode cX1_first 9 = .ok (.ifCond .ne 7, 3) := by decide +kernel
theorem dX1_first_12 : decode cX1_first 12 = .ok (.iconst (-1), 1) := by decide +kernel
theorem dX1_first_13 : decode cX1_first 13 = .ok (.goto 9, 3) := by decide +kernel
theorem dX1_first_16 : decode cX1_first 16 = .ok (.aload_n 0, 1) := by decide +kernel
theorem dX1_first_17 : decode cX1_first 17 = .ok (.getfield 7, 3) := by decide +kernel
theorem dX1_first_20 : decode cX1_first 20 = .ok (.iconst 0, 1) := by decide +kernel
theorem dX1_first_21 : decode cX1_first 21 = .ok (.iaload, 1) := by decide +kernel
theorem dX1_first_22 : decode cX1_first 22 = .ok (.ireturn, 1) := by decide +kernel
set_option maxRecDepth 20000 in
theorem ggX1_behind_X1_place : GoodIn wsX1_behind wsX1_place := goodIn_r _ [7, 2, 8, 9, 10, 11, 12, 13, 14, 15, 16, 17] (by decide +kernel) (by decide +kernel)
set_option maxRecDepth 20000 in
theorem gX1_behind_X1_place : GoodIn wsX1_behind (wsV RX1 85 RX1 yX1_place wsX1_place) := goodIn_app (goodIn_of _ (by decide +kernel)) ggX1_behind_X1_place
theorem dX1_behind_0 : decode cX1_behind 0 = .ok (.aload_n 0, 1) := by decide +kernel
theorem dX1_behind_1 : decode cX1_behind 1 = .ok (.iload_n 1, 1) := by decide +kernel
theorem dX1_behind_2 : decode cX1_behind 2 = .ok (.invokevirtual 85, 3) := by decide +kernel
theorem dX1_behind_5 : decode cX1_behind 5 = .ok (.istore_n 2, 1) := by decide +kernel
theorem dX1_behind_6 : decode cX1_behind 6 = .ok (.iload_n 2, 1) := by decide +kernel
theorem dX1_behind_7 : decode cX1_behind 7 = .ok (.aload_n 0, 1) := by decide +kernel
theorem dX1_behind_8 : decode cX1_behind 8 = .ok (.getfield 36, 3) := by decide +kernel
theorem dX1_behind_11 : decode cX1_behind 11 = .ok (.iconst 1, 1) := by decide +kernel
theorem dX1_behind_12 : decode cX1_behind 12 = .ok (.isub, 1) := by decide +kernel
theorem dX1_behind_13 : decode cX1_behind 13 = .ok (.if_icmp .ne 7, 3) := by decide +kernel
theorem dX1_behind_16 : decode cX1_behind 16 = .ok (.iconst (-1), 1) := by decide +kernel
theorem dX1_behind_17 : decode cX1_behind 17 = .ok (.goto 11, 3) := by decide +kernel
theorem dX1_behind_20 : decode cX1_behind 20 = .ok (.aload_n 0, 1) := by decide +kernel
theorem dX1_behind_21 : decode cX1_behind 21 = .ok (.getfield 7, 3) := by decide +kernel
theorem dX1_behind_24 : decode cX1_behind 24 = .ok (.iload_n 2, 1) := by decide +kernel
theorem dX1_behind_25 : decode cX1_behind 25 = .ok (.iconst 1, 1) := by decide +kernel
theorem dX1_behind_26 : decode cX1_behind 26 = .ok (.iadd, 1) := by decide +kernel
theorem dX1_behind_27 : decode cX1_behind 27 = .ok (.iaload, 1) := by decide +kernel
theorem dX1_behind_28 : decode cX1_behind 28 = .ok (.ireturn, 1) := by decide +kernel
set_option maxRecDepth 20000 in
theorem ggX1_next_X1_known : GoodIn wsX1_next wsX1_known := goodIn_r _ [6, 7, 8, 19, 20, 21, 22, 23, 24, 25, 26, 27, 28] (by decide +kernel) (by decide +kernel)
set_option maxRecDepth 20000 in
theorem gX1_next_X1_known : GoodIn wsX1_next (wsV RX1 81 RX1 yX1_known wsX1_known) := goodIn_app (goodIn_of _ (by decide +kernel)) ggX1_next_X1_known
set_option maxRecDepth 20000 in
theorem ggX1_next_X1_behind : GoodIn wsX1_next wsX1_behind := goodIn_r _ [12, 13, 14, 15, 16, 17, 5, 18, 19, 20, 21, 22, 23, 24, 25, 26, 27, 28] (by decide +kernel) (by decide +kernel)
set_option maxRecDepth 20000 in
theorem gX1_next_X1_behind : GoodIn wsX1_next (wsV RX1 88 RX1 yX1_behind wsX1_behind) := goodIn_app (goodIn_of _ (by decide +kernel)) ggX1_next_X1_behind
theorem dX1_next_0 : decode cX1_next 0 = .ok (.aload_n 0, 1) := by decide +kernel
theorem dX1_next_1 : decode cX1_next 1 = .ok (.aload_n 0, 1) := by decide +kernel
theorem dX1_next_2 : decode cX1_next 2 = .ok (.iload_n 1, 1) := by decide +kernel
theorem dX1_next_3 : decode cX1_next 3 = .ok (.invokevirtual 81, 3) := by decide +kernel
theorem dX1_next_6 : decode cX1_next 6 = .ok (.ifCond .eq 7, 3) := by decide +kernel
theorem dX1_next_9 : decode cX1_next 9 = .ok (.iconst 0, 1) := by decide +kernel
theorem dX1_next_10 : decode cX1_next 10 = .ok (.goto 4, 3) := by decide +kernel
theorem dX1_next_13 : decode cX1_next 13 = .ok (.iconst 1, 1) := by decide +kernel
theorem dX1_next_14 : decode cX1_next 14 = .ok (.putfield 29, 3) := by decide +kernel
theorem dX1_next_17 : decode cX1_next 17 = .ok (.aload_n 0, 1) := by decide +kernel
theorem dX1_next_18 : decode cX1_next 18 = .ok (.getfield 29, 3) := by decide +kernel
theorem dX1_next_21 : decode cX1_next 21 = .ok (.ifCond .le 7, 3) := by decide +kernel
theorem dX1_next_24 : decode cX1_next 24 = .ok (.iconst 0, 1) := by decide +kernel
theorem dX1_next_25 : decode cX1_next 25 = .ok (.goto 8, 3) := by decide +kernel
theorem dX1_next_28 : decode cX1_next 28 = .ok (.aload_n 0, 1) := by decide +kernel
theorem dX1_next_29 : decode cX1_next 29 = .ok (.iload_n 1, 1) := by decide +kernel
theorem dX1_next_30 : decode cX1_next 30 = .ok (.invokevirtual 88, 3) := by decide +kernel
theorem dX1_next_33 : decode cX1_next 33 = .ok (.ireturn, 1) := by decide +kernel
set_option maxRecDepth 20000 in
theorem ggX1_previous_X1_known : GoodIn wsX1_previous wsX1_known := goodIn_r _ [7, 8, 9, 14, 15, 16, 17, 18, 19, 20, 21, 22, 23] (by decide +kernel) (by decide +kernel)
set_option maxRecDepth 20000 in
theorem gX1_previous_X1_known : GoodIn wsX1_previous (wsV RX1 81 RX1 yX1_known wsX1_known) := goodIn_app (goodIn_of _ (by decide +kernel)) ggX1_previous_X1_known
set_option maxRecDepth 20000 in
theorem ggX1_previous_X1_place : GoodIn wsX1_previous wsX1_place := goodIn_r _ [13, 2, 14, 15, 16, 17, 18, 19, 20, 21, 22, 23] (by decide +kernel) (by decide +kernel)
set_option maxRecDepth 20000 in
theorem gX1_previous_X1_place : GoodIn wsX1_previous (wsV RX1 85 RX1 yX1_place wsX1_place) := goodIn_app (goodIn_of _ (by decide +kernel)) ggX1_previous_X1_place
theorem dX1_previous_0 : decode cX1_previous 0 = .ok (.aload_n 0, 1) := by decide +kernel
theorem dX1_previous_1 : decode cX1_previous 1 = .ok (.aload_n 0, 1) := by decide +kernel
theorem dX1_previous_2 : decode cX1_previous 2 = .ok (.iload_n 1, 1) := by decide +kernel
theorem dX1_previous_3 : decode cX1_previous 3 = .ok (.invokevirtual 81, 3) := by decide +kernel
theorem dX1_previous_6 : decode cX1_previous 6 = .ok (.ifCond .eq 7, 3) := by decide +kernel
theorem dX1_previous_9 : decode cX1_previous 9 = .ok (.iconst 0, 1) := by decide +kernel
theorem dX1_previous_10 : decode cX1_previous 10 = .ok (.goto 4, 3) := by decide +kernel
theorem dX1_previous_13 : decode cX1_previous 13 = .ok (.iconst 1, 1) := by decide +kernel
theorem dX1_previous_14 : decode cX1_previous 14 = .ok (.putfield 29, 3) := by decide +kernel
theorem dX1_previous_17 : decode cX1_previous 17 = .ok (.aload_n 0, 1) := by decide +kernel
theorem dX1_previous_18 : decode cX1_previous 18 = .ok (.getfield 29, 3) := by decide +kernel
theorem dX1_previous_21 : decode cX1_previous 21 = .ok (.ifCond .le 5, 3) := by decide +kernel
theorem dX1_previous_24 : decode cX1_previous 24 = .ok (.iconst 0, 1) := by decide +kernel
theorem dX1_previous_25 : decode cX1_previous 25 = .ok (.ireturn, 1) := by decide +kernel
theorem dX1_previous_26 : decode cX1_previous 26 = .ok (.aload_n 0, 1) := by decide +kernel
theorem dX1_previous_27 : decode cX1_previous 27 = .ok (.iload_n 1, 1) := by decide +kernel
theorem dX1_previous_28 : decode cX1_previous 28 = .ok (.invokevirtual 85, 3) := by decide +kernel
theorem dX1_previous_31 : decode cX1_previous 31 = .ok (.istore_n 2, 1) := by decide +kernel
theorem dX1_previous_32 : decode cX1_previous 32 = .ok (.iload_n 2, 1) := by decide +kernel
theorem dX1_previous_33 : decode cX1_previous 33 = .ok (.ifCond .ne 7, 3) := by decide +kernel
theorem dX1_previous_36 : decode cX1_previous 36 = .ok (.iconst (-1), 1) := by decide +kernel
theorem dX1_previous_37 : decode cX1_previous 37 = .ok (.goto 11, 3) := by decide +kernel
theorem dX1_previous_40 : decode cX1_previous 40 = .ok (.aload_n 0, 1) := by decide +kernel
theorem dX1_previous_41 : decode cX1_previous 41 = .ok (.getfield 7, 3) := by decide +kernel
theorem dX1_previous_44 : decode cX1_previous 44 = .ok (.iload_n 2, 1) := by decide +kernel
theorem dX1_previous_45 : decode cX1_previous 45 = .ok (.iconst 1, 1) := by decide +kernel
theorem dX1_previous_46 : decode cX1_previous 46 = .ok (.isub, 1) := by decide +kernel
theorem dX1_previous_47 : decode cX1_previous 47 = .ok (.iaload, 1) := by decide +kernel
theorem dX1_previous_48 : decode cX1_previous 48 = .ok (.ireturn, 1) := by decide +kernel
set_option maxRecDepth 20000 in
theorem ggX1_has_X1_known : GoodIn wsX1_has wsX1_known := goodIn_r _ [6, 7, 8, 9, 10, 11, 12, 13, 14, 15, 16, 17, 18] (by decide +kernel) (by decide +kernel)
set_option maxRecDepth 20000 in
theorem gX1_has_X1_known : GoodIn wsX1_has (wsV RX1 81 RX1 yX1_known wsX1_known) := goodIn_app (goodIn_of _ (by decide +kernel)) ggX1_has_X1_known
theorem dX1_has_0 : decode cX1_has 0 = .ok (.aload_n 0, 1) := by decide +kernel
theorem dX1_has_1 : decode cX1_has 1 = .ok (.iconst 0, 1) := by decide +kernel
theorem dX1_has_2 : decode cX1_has 2 = .ok (.putfield 29, 3) := by decide +kernel
theorem dX1_has_5 : decode cX1_has 5 = .ok (.aload_n 0, 1) := by decide +kernel
theorem dX1_has_6 : decode cX1_has 6 = .ok (.iload_n 1, 1) := by decide +kernel
theorem dX1_has_7 : decode cX1_has 7 = .ok (.invokevirtual 81, 3) := by decide +kernel
theorem dX1_has_10 : decode cX1_has 10 = .ok (.ireturn, 1) := by decide +kernel
set_option maxRecDepth 20000 in
theorem ggX1_mark_X1_known : GoodIn wsX1_mark wsX1_known := goodIn_r _ [7, 8, 9, 10, 11, 12, 13, 14, 15, 16, 17, 18, 19] (by decide +kernel) (by decide +kernel)
set_option maxRecDepth 20000 in
theorem gX1_mark_X1_known : GoodIn wsX1_mark (wsV RX1 81 RX1 yX1_known wsX1_known) := goodIn_app (goodIn_of _ (by decide +kernel)) ggX1_mark_X1_known
theorem dX1_mark_0 : decode cX1_mark 0 = .ok (.aload_n 0, 1) := by decide +kernel
theorem dX1_mark_1 : decode cX1_mark 1 = .ok (.aload_n 0, 1) := by decide +kernel
theorem dX1_mark_2 : decode cX1_mark 2 = .ok (.iload_n 1, 1) := by decide +kernel
theorem dX1_mark_3 : decode cX1_mark 3 = .ok (.invokevirtual 81, 3) := by decide +kernel
theorem dX1_mark_6 : decode cX1_mark 6 = .ok (.ifCond .eq 7, 3) := by decide +kernel
theorem dX1_mark_9 : decode cX1_mark 9 = .ok (.iconst 0, 1) := by decide +kernel
theorem dX1_mark_10 : decode cX1_mark 10 = .ok (.goto 4, 3) := by decide +kernel
theorem dX1_mark_13 : decode cX1_mark 13 = .ok (.iconst 1, 1) := by decide +kernel
theorem dX1_mark_14 : decode cX1_mark 14 = .ok (.putfield 29, 3) := by decide +kernel
theorem dX1_mark_17 : decode cX1_mark 17 = .ok (.aload_n 0, 1) := by decide +kernel
theorem dX1_mark_18 : decode cX1_mark 18 = .ok (.getfield 29, 3) := by decide +kernel
theorem dX1_mark_21 : decode cX1_mark 21 = .ok (.ifCond .le 7, 3) := by decide +kernel
theorem dX1_mark_24 : decode cX1_mark 24 = .ok (.iconst 0, 1) := by decide +kernel
theorem dX1_mark_25 : decode cX1_mark 25 = .ok (.goto 9, 3) := by decide +kernel
theorem dX1_mark_28 : decode cX1_mark 28 = .ok (.aload_n 0, 1) := by decide +kernel
theorem dX1_mark_29 : decode cX1_mark 29 = .ok (.getfield 13, 3) := by decide +kernel
theorem dX1_mark_32 : decode cX1_mark 32 = .ok (.iload_n 1, 1) := by decide +kernel
theorem dX1_mark_33 : decode cX1_mark 33 = .ok (.iaload, 1) := by decide +kernel
theorem dX1_mark_34 : decode cX1_mark 34 = .ok (.ireturn, 1) := by decide +kernel
set_option maxRecDepth 20000 in
theorem ggX1_ahead_X1_known : GoodIn wsX1_ahead wsX1_known := goodIn_r _ [7, 8, 9, 16, 17, 18, 19, 20, 21, 22, 23, 24, 25] (by decide +kernel) (by decide +kernel)
set_option maxRecDepth 20000 in
theorem gX1_ahead_X1_known : GoodIn wsX1_ahead (wsV RX1 81 RX1 yX1_known wsX1_known) := goodIn_app (goodIn_of _ (by decide +kernel)) ggX1_ahead_X1_known
set_option maxRecDepth 20000 in
theorem ggX1_ahead_X1_between : GoodIn wsX1_ahead wsX1_between := goodIn_r _ [13, 14, 2, 15, 16, 17, 18, 19, 20, 21, 22, 23, 24, 25] (by decide +kernel) (by decide +kernel)
set_option maxRecDepth 20000 in
theorem gX1_ahead_X1_between : GoodIn wsX1_ahead (wsV RX1 39 RX1 yX1_between wsX1_between) := goodIn_app (goodIn_of _ (by decide +kernel)) ggX1_ahead_X1_between
theorem dX1_ahead_0 : decode cX1_ahead 0 = .ok (.aload_n 0, 1) := by decide +kernel
theorem dX1_ahead_1 : decode cX1_ahead 1 = .ok (.aload_n 0, 1) := by decide +kernel
theorem dX1_ahead_2 : decode cX1_ahead 2 = .ok (.iload_n 1, 1) := by decide +kernel
theorem dX1_ahead_3 : decode cX1_ahead 3 = .ok (.invokevirtual 81, 3) := by decide +kernel
theorem dX1_ahead_6 : decode cX1_ahead 6 = .ok (.ifCond .eq 7, 3) := by decide +kernel
theorem dX1_ahead_9 : decode cX1_ahead 9 = .ok (.iconst 0, 1) := by decide +kernel
theorem dX1_ahead_10 : decode cX1_ahead 10 = .ok (.goto 4, 3) := by decide +kernel
theorem dX1_ahead_13 : decode cX1_ahead 13 = .ok (.iconst 1, 1) := by decide +kernel
theorem dX1_ahead_14 : decode cX1_ahead 14 = .ok (.putfield 29, 3) := by decide +kernel
theorem dX1_ahead_17 : decode cX1_ahead 17 = .ok (.aload_n 0, 1) := by decide +kernel
theorem dX1_ahead_18 : decode cX1_ahead 18 = .ok (.getfield 29, 3) := by decide +kernel
theorem dX1_ahead_21 : decode cX1_ahead 21 = .ok (.ifCond .le 7, 3) := by decide +kernel
theorem dX1_ahead_24 : decode cX1_ahead 24 = .ok (.iconst 0, 1) := by decide +kernel
theorem dX1_ahead_25 : decode cX1_ahead 25 = .ok (.goto 14, 3) := by decide +kernel
theorem dX1_ahead_28 : decode cX1_ahead 28 = .ok (.aload_n 0, 1) := by decide +kernel
theorem dX1_ahead_29 : decode cX1_ahead 29 = .ok (.iconst 0, 1) := by decide +kernel
theorem dX1_ahead_30 : decode cX1_ahead 30 = .ok (.aload_n 0, 1) := by decide +kernel
theorem dX1_ahead_31 : decode cX1_ahead 31 = .ok (.getfield 13, 3) := by decide +kernel
theorem dX1_ahead_34 : decode cX1_ahead 34 = .ok (.iload_n 1, 1) := by decide +kernel
theorem dX1_ahead_35 : decode cX1_ahead 35 = .ok (.iaload, 1) := by decide +kernel
theorem dX1_ahead_36 : decode cX1_ahead 36 = .ok (.invokevirtual 39, 3) := by decide +kernel
theorem dX1_ahead_39 : decode cX1_ahead 39 = .ok (.ireturn, 1) := by decide +kernel
theorem dX1_from_0 : decode cX1_from 0 = .ok (.aload_n 0, 1) := by decide +kernel
theorem dX1_from_1 : decode cX1_from 1 = .ok (.iconst 0, 1) := by decide +kernel
theorem dX1_from_2 : decode cX1_from 2 = .ok (.putfield 29, 3) := by decide +kernel
theorem dX1_from_5 : decode cX1_from 5 = .ok (.iconst 0, 1) := by decide +kernel
theorem dX1_from_6 : decode cX1_from 6 = .ok (.istore_n 2, 1) := by decide +kernel
theorem dX1_from_7 : decode cX1_from 7 = .ok (.iload_n 2, 1) := by decide +kernel
theorem dX1_from_8 : decode cX1_from 8 = .ok (.aload_n 0, 1) := by decide +kernel
theorem dX1_from_9 : decode cX1_from 9 = .ok (.getfield 36, 3) := by decide +kernel
theorem dX1_from_12 : decode cX1_from 12 = .ok (.if_icmp .ge 31, 3) := by decide +kernel
theorem dX1_from_15 : decode cX1_from 15 = .ok (.aload_n 0, 1) := by decide +kernel
theorem dX1_from_16 : decode cX1_from 16 = .ok (.getfield 13, 3) := by decide +kernel
theorem dX1_from_19 : decode cX1_from 19 = .ok (.aload_n 0, 1) := by decide +kernel
theorem dX1_from_20 : decode cX1_from 20 = .ok (.getfield 7, 3) := by decide +kernel
theorem dX1_from_23 : decode cX1_from 23 = .ok (.iload_n 2, 1) := by decide +kernel
theorem dX1_from_24 : decode cX1_from 24 = .ok (.iaload, 1) := by decide +kernel
theorem dX1_from_25 : decode cX1_from 25 = .ok (.iaload, 1) := by decide +kernel
theorem dX1_from_26 : decode cX1_from 26 = .ok (.iload_n 1, 1) := by decide +kernel
theorem dX1_from_27 : decode cX1_from 27 = .ok (.if_icmp .lt 10, 3) := by decide +kernel
theorem dX1_from_30 : decode cX1_from 30 = .ok (.aload_n 0, 1) := by decide +kernel
theorem dX1_from_31 : decode cX1_from 31 = .ok (.getfield 7, 3) := by decide +kernel
theorem dX1_from_34 : decode cX1_from 34 = .ok (.iload_n 2, 1) := by decide +kernel
theorem dX1_from_35 : decode cX1_from 35 = .ok (.iaload, 1) := by decide +kernel
theorem dX1_from_36 : decode cX1_from 36 = .ok (.ireturn, 1) := by decide +kernel
theorem dX1_from_37 : decode cX1_from 37 = .ok (.iinc 2 1, 3) := by decide +kernel
theorem dX1_from_40 : decode cX1_from 40 = .ok (.goto (-33), 3) := by decide +kernel
theorem dX1_from_43 : decode cX1_from 43 = .ok (.iconst (-1), 1) := by decide +kernel
theorem dX1_from_44 : decode cX1_from 44 = .ok (.ireturn, 1) := by decide +kernel
set_option maxRecDepth 20000 in
theorem ggX1_gapBehind_X1_known : GoodIn wsX1_gapBehind wsX1_known := goodIn_r _ [7, 8, 9, 20, 21, 22, 23, 24, 25, 26, 27, 28, 29] (by decide +kernel) (by decide +kernel)
set_option maxRecDepth 20000 in
theorem gX1_gapBehind_X1_known : GoodIn wsX1_gapBehind (wsV RX1 81 RX1 yX1_known wsX1_known) := goodIn_app (goodIn_of _ (by decide +kernel)) ggX1_gapBehind_X1_known
set_option maxRecDepth 20000 in
theorem ggX1_gapBehind_X1_place : GoodIn wsX1_gapBehind wsX1_place := goodIn_r _ [13, 14, 20, 21, 22, 23, 24, 25, 26, 27, 28, 29] (by decide +kernel) (by decide +kernel)
set_option maxRecDepth 20000 in
theorem gX1_gapBehind_X1_place : GoodIn wsX1_gapBehind (wsV RX1 85 RX1 yX1_place wsX1_place) := goodIn_app (goodIn_of _ (by decide +kernel)) ggX1_gapBehind_X1_place
set_option maxRecDepth 20000 in
theorem ggX1_gapBehind_X1_markBehind : GoodIn wsX1_gapBehind wsX1_markBehind := goodIn_r _ [18, 19, 2, 14, 20, 21, 22, 23, 24, 25, 26, 27, 28, 29] (by decide +kernel) (by decide +kernel)
set_option maxRecDepth 20000 in
theorem gX1_gapBehind_X1_markBehind : GoodIn wsX1_gapBehind (wsV RX1 53 RX1 yX1_markBehind wsX1_markBehind) := goodIn_app (goodIn_of _ (by decide +kernel)) ggX1_gapBehind_X1_markBehind
theorem dX1_gapBehind_0 : decode cX1_gapBehind 0 = .ok (.aload_n 0, 1) := by decide +kernel
theorem dX1_gapBehind_1 : decode cX1_gapBehind 1 = .ok (.aload_n 0, 1) := by decide +kernel
theorem dX1_gapBehind_2 : decode cX1_gapBehind 2 = .ok (.iload_n 1, 1) := by decide +kernel
theorem dX1_gapBehind_3 : decode cX1_gapBehind 3 = .ok (.invokevirtual 81, 3) := by decide +kernel
theorem dX1_gapBehind_6 : decode cX1_gapBehind 6 = .ok (.ifCond .eq 7, 3) := by decide +kernel
theorem dX1_gapBehind_9 : decode cX1_gapBehind 9 = .ok (.iconst 0, 1) := by decide +kernel
theorem dX1_gapBehind_10 : decode cX1_gapBehind 10 = .ok (.goto 4, 3) := by decide +kernel
theorem dX1_gapBehind_13 : decode cX1_gapBehind 13 = .ok (.iconst 1, 1) := by decide +kernel
theorem dX1_gapBehind_14 : decode cX1_gapBehind 14 = .ok (.putfield 29, 3) := by decide +kernel
theorem dX1_gapBehind_17 : decode cX1_gapBehind 17 = .ok (.aload_n 0, 1) := by decide +kernel
theorem dX1_gapBehind_18 : decode cX1_gapBehind 18 = .ok (.getfield 29, 3) := by decide +kernel
theorem dX1_gapBehind_21 : decode cX1_gapBehind 21 = .ok (.ifCond .le 7, 3) := by decide +kernel
theorem dX1_gapBehind_24 : decode cX1_gapBehind 24 = .ok (.iconst 0, 1) := by decide +kernel
theorem dX1_gapBehind_25 : decode cX1_gapBehind 25 = .ok (.goto 23, 3) := by decide +kernel
theorem dX1_gapBehind_28 : decode cX1_gapBehind 28 = .ok (.aload_n 0, 1) := by decide +kernel
theorem dX1_gapBehind_29 : decode cX1_gapBehind 29 = .ok (.aload_n 0, 1) := by decide +kernel
theorem dX1_gapBehind_30 : decode cX1_gapBehind 30 = .ok (.iload_n 1, 1) := by decide +kernel
theorem dX1_gapBehind_31 : decode cX1_gapBehind 31 = .ok (.invokevirtual 85, 3) := by decide +kernel
theorem dX1_gapBehind_34 : decode cX1_gapBehind 34 = .ok (.iconst 1, 1) := by decide +kernel
theorem dX1_gapBehind_35 : decode cX1_gapBehind 35 = .ok (.iadd, 1) := by decide +kernel
theorem dX1_gapBehind_36 : decode cX1_gapBehind 36 = .ok (.invokevirtual 53, 3) := by decide +kernel
theorem dX1_gapBehind_39 : decode cX1_gapBehind 39 = .ok (.aload_n 0, 1) := by decide +kernel
theorem dX1_gapBehind_40 : decode cX1_gapBehind 40 = .ok (.getfield 13, 3) := by decide +kernel
theorem dX1_gapBehind_43 : decode cX1_gapBehind 43 = .ok (.iload_n 1, 1) := by decide +kernel
theorem dX1_gapBehind_44 : decode cX1_gapBehind 44 = .ok (.iaload, 1) := by decide +kernel
theorem dX1_gapBehind_45 : decode cX1_gapBehind 45 = .ok (.isub, 1) := by decide +kernel
theorem dX1_gapBehind_46 : decode cX1_gapBehind 46 = .ok (.iconst 1, 1) := by decide +kernel
theorem dX1_gapBehind_47 : decode cX1_gapBehind 47 = .ok (.isub, 1) := by decide +kernel
theorem dX1_gapBehind_48 : decode cX1_gapBehind 48 = .ok (.ireturn, 1) := by decide +kernel
theorem dX1_isLevel_0 : decode cX1_isLevel 0 = .ok (.iload_n 0, 1) := by decide +kernel
theorem dX1_isLevel_1 : decode cX1_isLevel 1 = .ok (.ifCond .lt 13, 3) := by decide +kernel
theorem dX1_isLevel_4 : decode cX1_isLevel 4 = .ok (.iload_n 0, 1) := by decide +kernel
theorem dX1_isLevel_5 : decode cX1_isLevel 5 = .ok (.bipush 9, 2) := by decide +kernel
theorem dX1_isLevel_7 : decode cX1_isLevel 7 = .ok (.if_icmp .ge 7, 3) := by decide +kernel
theorem dX1_isLevel_10 : decode cX1_isLevel 10 = .ok (.iconst 1, 1) := by decide +kernel
theorem dX1_isLevel_11 : decode cX1_isLevel 11 = .ok (.goto 4, 3) := by decide +kernel
theorem dX1_isLevel_14 : decode cX1_isLevel 14 = .ok (.iconst 0, 1) := by decide +kernel
theorem dX1_isLevel_15 : decode cX1_isLevel 15 = .ok (.ireturn, 1) := by decide +kernel
set_option maxRecDepth 20000 in
theorem ggX1_load_X1_isLevel : GoodIn wsX1_load wsX1_isLevel := goodIn_r _ [5] (by decide +kernel) (by decide +kernel)
set_option maxRecDepth 20000 in
theorem gX1_load_X1_isLevel : GoodIn wsX1_load (va_wsS RX1 95 yX1_isLevel wsX1_isLevel) := goodIn_app (goodIn_of _ (by decide +kernel)) ggX1_load_X1_isLevel
set_option maxRecDepth 20000 in
theorem ggX1_load_X1_loadOf : GoodIn wsX1_load wsX1_loadOf := goodIn_r _ [9, 10, 11, 12, 4, 13, 14, 15, 16, 17, 18, 19, 20, 21, 22, 23, 24, 25, 26] (by decide +kernel) (by decide +kernel)
set_option maxRecDepth 20000 in
theorem gX1_load_X1_loadOf : GoodIn wsX1_load (wsV RX1 43 RX1 yX1_loadOf wsX1_loadOf) := goodIn_app (goodIn_of _ (by decide +kernel)) ggX1_load_X1_loadOf
theorem dX1_load_0 : decode cX1_load 0 = .ok (.aload_n 0, 1) := by decide +kernel
theorem dX1_load_1 : decode cX1_load 1 = .ok (.iload_n 1, 1) := by decide +kernel
theorem dX1_load_2 : decode cX1_load 2 = .ok (.invokestatic 95, 3) := by decide +kernel
theorem dX1_load_5 : decode cX1_load 5 = .ok (.ifCond .eq 20, 3) := by decide +kernel
theorem dX1_load_8 : decode cX1_load 8 = .ok (.iload_n 2, 1) := by decide +kernel
theorem dX1_load_9 : decode cX1_load 9 = .ok (.ifCond .lt 16, 3) := by decide +kernel
theorem dX1_load_12 : decode cX1_load 12 = .ok (.iload_n 2, 1) := by decide +kernel
theorem dX1_load_13 : decode cX1_load 13 = .ok (.sipush 256, 3) := by decide +kernel
theorem dX1_load_16 : decode cX1_load 16 = .ok (.iload_n 1, 1) := by decide +kernel
theorem dX1_load_17 : decode cX1_load 17 = .ok (.ishr, 1) := by decide +kernel
theorem dX1_load_18 : decode cX1_load 18 = .ok (.if_icmp .ge 7, 3) := by decide +kernel
theorem dX1_load_21 : decode cX1_load 21 = .ok (.iconst 0, 1) := by decide +kernel
theorem dX1_load_22 : decode cX1_load 22 = .ok (.goto 4, 3) := by decide +kernel
theorem dX1_load_25 : decode cX1_load 25 = .ok (.iconst 1, 1) := by decide +kernel
theorem dX1_load_26 : decode cX1_load 26 = .ok (.putfield 29, 3) := by decide +kernel
theorem dX1_load_29 : decode cX1_load 29 = .ok (.aload_n 0, 1) := by decide +kernel
theorem dX1_load_30 : decode cX1_load 30 = .ok (.getfield 29, 3) := by decide +kernel
theorem dX1_load_33 : decode cX1_load 33 = .ok (.ifCond .le 7, 3) := by decide +kernel
theorem dX1_load_36 : decode cX1_load 36 = .ok (.iconst 0, 1) := by decide +kernel
theorem dX1_load_37 : decode cX1_load 37 = .ok (.goto 9, 3) := by decide +kernel
theorem dX1_load_40 : decode cX1_load 40 = .ok (.aload_n 0, 1) := by decide +kernel
theorem dX1_load_41 : decode cX1_load 41 = .ok (.iload_n 1, 1) := by decide +kernel
theorem dX1_load_42 : decode cX1_load 42 = .ok (.iload_n 2, 1) := by decide +kernel
theorem dX1_load_43 : decode cX1_load 43 = .ok (.invokevirtual 43, 3) := by decide +kernel
theorem dX1_load_46 : decode cX1_load 46 = .ok (.ireturn, 1) := by decide +kernel
set_option maxRecDepth 20000 in
theorem ggX1_loaded_X1_isLevel : GoodIn wsX1_loaded wsX1_isLevel := goodIn_r _ [5] (by decide +kernel) (by decide +kernel)
set_option maxRecDepth 20000 in
theorem gX1_loaded_X1_isLevel : GoodIn wsX1_loaded (va_wsS RX1 95 yX1_isLevel wsX1_isLevel) := goodIn_app (goodIn_of _ (by decide +kernel)) ggX1_loaded_X1_isLevel
set_option maxRecDepth 20000 in
theorem ggX1_loaded_X1_loadOf : GoodIn wsX1_loaded wsX1_loadOf := goodIn_r _ [9, 10, 11, 12, 4, 13, 14, 15, 16, 20, 21, 22, 23, 24, 25, 26, 27, 28, 29] (by decide +kernel) (by decide +kernel)
set_option maxRecDepth 20000 in
theorem gX1_loaded_X1_loadOf : GoodIn wsX1_loaded (wsV RX1 43 RX1 yX1_loadOf wsX1_loadOf) := goodIn_app (goodIn_of _ (by decide +kernel)) ggX1_loaded_X1_loadOf
set_option maxRecDepth 20000 in
theorem ggX1_loaded_X1_limit : GoodIn wsX1_loaded wsX1_limit := goodIn_r _ [19] (by decide +kernel) (by decide +kernel)
set_option maxRecDepth 20000 in
theorem gX1_loaded_X1_limit : GoodIn wsX1_loaded (va_wsS RX1 46 yX1_limit wsX1_limit) := goodIn_app (goodIn_of _ (by decide +kernel)) ggX1_loaded_X1_limit
theorem dX1_loaded_0 : decode cX1_loaded 0 = .ok (.aload_n 0, 1) := by decide +kernel
theorem dX1_loaded_1 : decode cX1_loaded 1 = .ok (.iload_n 1, 1) := by decide +kernel
theorem dX1_loaded_2 : decode cX1_loaded 2 = .ok (.invokestatic 95, 3) := by decide +kernel
theorem dX1_loaded_5 : decode cX1_loaded 5 = .ok (.ifCond .eq 7, 3) := by decide +kernel
theorem dX1_loaded_8 : decode cX1_loaded 8 = .ok (.iconst 0, 1) := by decide +kernel
theorem dX1_loaded_9 : decode cX1_loaded 9 = .ok (.goto 4, 3) := by decide +kernel
theorem dX1_loaded_12 : decode cX1_loaded 12 = .ok (.iconst 1, 1) := by decide +kernel
theorem dX1_loaded_13 : decode cX1_loaded 13 = .ok (.putfield 29, 3) := by decide +kernel
theorem dX1_loaded_16 : decode cX1_loaded 16 = .ok (.iconst 0, 1) := by decide +kernel
theorem dX1_loaded_17 : decode cX1_loaded 17 = .ok (.istore_n 2, 1) := by decide +kernel
theorem dX1_loaded_18 : decode cX1_loaded 18 = .ok (.iconst 0, 1) := by decide +kernel
theorem dX1_loaded_19 : decode cX1_loaded 19 = .ok (.istore_n 3, 1) := by decide +kernel
theorem dX1_loaded_20 : decode cX1_loaded 20 = .ok (.aload_n 0, 1) := by decide +kernel
theorem dX1_loaded_21 : decode cX1_loaded 21 = .ok (.getfield 29, 3) := by decide +kernel
theorem dX1_loaded_24 : decode cX1_loaded 24 = .ok (.ifCond .ne 39, 3) := by decide +kernel
theorem dX1_loaded_27 : decode cX1_loaded 27 = .ok (.iload_n 3, 1) := by decide +kernel
theorem dX1_loaded_28 : decode cX1_loaded 28 = .ok (.sipush 256, 3) := by decide +kernel
theorem dX1_loaded_31 : decode cX1_loaded 31 = .ok (.iload_n 1, 1) := by decide +kernel
theorem dX1_loaded_32 : decode cX1_loaded 32 = .ok (.ishr, 1) := by decide +kernel
theorem dX1_loaded_33 : decode cX1_loaded 33 = .ok (.if_icmp .ge 30, 3) := by decide +kernel
theorem dX1_loaded_36 : decode cX1_loaded 36 = .ok (.iload_n 2, 1) := by decide +kernel
theorem dX1_loaded_37 : decode cX1_loaded 37 = .ok (.aload_n 0, 1) := by decide +kernel
theorem dX1_loaded_38 : decode cX1_loaded 38 = .ok (.iload_n 1, 1) := by decide +kernel
theorem dX1_loaded_39 : decode cX1_loaded 39 = .ok (.iload_n 3, 1) := by decide +kernel
theorem dX1_loaded_40 : decode cX1_loaded 40 = .ok (.invokevirtual 43, 3) := by decide +kernel
theorem dX1_loaded_43 : decode cX1_loaded 43 = .ok (.iload_n 1, 1) := by decide +kernel
theorem dX1_loaded_44 : decode cX1_loaded 44 = .ok (.invokestatic 46, 3) := by decide +kernel
theorem dX1_loaded_47 : decode cX1_loaded 47 = .ok (.if_icmp .lt 7, 3) := by decide +kernel
theorem dX1_loaded_50 : decode cX1_loaded 50 = .ok (.iconst 1, 1) := by decide +kernel
theorem dX1_loaded_51 : decode cX1_loaded 51 = .ok (.goto 4, 3) := by decide +kernel
theorem dX1_loaded_54 : decode cX1_loaded 54 = .ok (.iconst 0, 1) := by decide +kernel
theorem dX1_loaded_55 : decode cX1_loaded 55 = .ok (.iadd, 1) := by decide +kernel
theorem dX1_loaded_56 : decode cX1_loaded 56 = .ok (.istore_n 2, 1) := by decide +kernel
theorem dX1_loaded_57 : decode cX1_loaded 57 = .ok (.iinc 3 1, 3) := by decide +kernel
theorem dX1_loaded_60 : decode cX1_loaded 60 = .ok (.goto (-40), 3) := by decide +kernel
theorem dX1_loaded_63 : decode cX1_loaded 63 = .ok (.iload_n 2, 1) := by decide +kernel
theorem dX1_loaded_64 : decode cX1_loaded 64 = .ok (.ireturn, 1) := by decide +kernel
set_option maxRecDepth 20000 in
theorem ggX1_wouldMove_X1_known : GoodIn wsX1_wouldMove wsX1_known := goodIn_r _ [9, 10, 11, 35, 36, 37, 38, 39, 40, 41, 42, 43, 44] (by decide +kernel) (by decide +kernel)
set_option maxRecDepth 20000 in
theorem gX1_wouldMove_X1_known : GoodIn wsX1_wouldMove (wsV RX1 81 RX1 yX1_known wsX1_known) := goodIn_app (goodIn_of _ (by decide +kernel)) ggX1_wouldMove_X1_known
set_option maxRecDepth 20000 in
theorem ggX1_wouldMove_X1_place : GoodIn wsX1_wouldMove wsX1_place := goodIn_r _ [15, 4, 35, 36, 37, 38, 39, 40, 41, 42, 43, 44] (by decide +kernel) (by decide +kernel)
set_option maxRecDepth 20000 in
theorem gX1_wouldMove_X1_place : GoodIn wsX1_wouldMove (wsV RX1 85 RX1 yX1_place wsX1_place) := goodIn_app (goodIn_of _ (by decide +kernel)) ggX1_wouldMove_X1_place
set_option maxRecDepth 20000 in
theorem ggX1_wouldMove_X1_markBehind : GoodIn wsX1_wouldMove wsX1_markBehind := goodIn_r _ [19, 3, 2, 4, 35, 36, 37, 38, 39, 40, 41, 42, 43, 44] (by decide +kernel) (by decide +kernel)
set_option maxRecDepth 20000 in
theorem gX1_wouldMove_X1_markBehind : GoodIn wsX1_wouldMove (wsV RX1 53 RX1 yX1_markBehind wsX1_markBehind) := goodIn_app (goodIn_of _ (by decide +kernel)) ggX1_wouldMove_X1_markBehind
set_option maxRecDepth 20000 in
theorem ggX1_wouldMove_X1_levelFor : GoodIn wsX1_wouldMove wsX1_levelFor := goodIn_r _ [23, 24, 25, 26, 8, 27, 28, 29, 30, 31, 3, 2, 4, 32, 33, 34, 35, 36, 37, 38, 39, 40, 41, 42, 43, 44] (by decide +kernel) (by decide +kernel)
set_option maxRecDepth 20000 in
theorem gX1_wouldMove_X1_levelFor : GoodIn wsX1_wouldMove (wsV RX1 98 RX1 yX1_levelFor wsX1_levelFor) := goodIn_app (goodIn_of _ (by decide +kernel)) ggX1_wouldMove_X1_levelFor
set_option maxRecDepth 20000 in
theorem ggX1_wouldMove_X1_between : GoodIn wsX1_wouldMove wsX1_between := goodIn_r _ [31, 3, 2, 4, 35, 36, 37, 38, 39, 40, 41, 42, 43, 44] (by decide +kernel) (by decide +kernel)
set_option maxRecDepth 20000 in
theorem gX1_wouldMove_X1_between : GoodIn wsX1_wouldMove (wsV RX1 39 RX1 yX1_between wsX1_between) := goodIn_app (goodIn_of _ (by decide +kernel)) ggX1_wouldMove_X1_between
theorem dX1_wouldMove_0 : decode cX1_wouldMove 0 = .ok (.aload_n 0, 1) := by decide +kernel
theorem dX1_wouldMove_1 : decode cX1_wouldMove 1 = .ok (.aload_n 0, 1) := by decide +kernel
theorem dX1_wouldMove_2 : decode cX1_wouldMove 2 = .ok (.iload_n 1, 1) := by decide +kernel
theorem dX1_wouldMove_3 : decode cX1_wouldMove 3 = .ok (.invokevirtual 81, 3) := by decide +kernel
theorem dX1_wouldMove_6 : decode cX1_wouldMove 6 = .ok (.ifCond .eq 7, 3) := by decide +kernel
theorem dX1_wouldMove_9 : decode cX1_wouldMove 9 = .ok (.iconst 0, 1) := by decide +kernel
theorem dX1_wouldMove_10 : decode cX1_wouldMove 10 = .ok (.goto 4, 3) := by decide +kernel
theorem dX1_wouldMove_13 : decode cX1_wouldMove 13 = .ok (.iconst 1, 1) := by decide +kernel
theorem dX1_wouldMove_14 : decode cX1_wouldMove 14 = .ok (.putfield 29, 3) := by decide +kernel
theorem dX1_wouldMove_17 : decode cX1_wouldMove 17 = .ok (.aload_n 0, 1) := by decide +kernel
theorem dX1_wouldMove_18 : decode cX1_wouldMove 18 = .ok (.getfield 29, 3) := by decide +kernel
theorem dX1_wouldMove_21 : decode cX1_wouldMove 21 = .ok (.ifCond .le 5, 3) := by decide +kernel
theorem dX1_wouldMove_24 : decode cX1_wouldMove 24 = .ok (.iconst 0, 1) := by decide +kernel
theorem dX1_wouldMove_25 : decode cX1_wouldMove 25 = .ok (.ireturn, 1) := by decide +kernel
theorem dX1_wouldMove_26 : decode cX1_wouldMove 26 = .ok (.aload_n 0, 1) := by decide +kernel
theorem dX1_wouldMove_27 : decode cX1_wouldMove 27 = .ok (.iload_n 1, 1) := by decide +kernel
theorem dX1_wouldMove_28 : decode cX1_wouldMove 28 = .ok (.invokevirtual 85, 3) := by decide +kernel
theorem dX1_wouldMove_31 : decode cX1_wouldMove 31 = .ok (.iconst 1, 1) := by decide +kernel
theorem dX1_wouldMove_32 : decode cX1_wouldMove 32 = .ok (.iadd, 1) := by decide +kernel
theorem dX1_wouldMove_33 : decode cX1_wouldMove 33 = .ok (.istore_n 2, 1) := by decide +kernel
theorem dX1_wouldMove_34 : decode cX1_wouldMove 34 = .ok (.aload_n 0, 1) := by decide +kernel
theorem dX1_wouldMove_35 : decode cX1_wouldMove 35 = .ok (.iload_n 2, 1) := by decide +kernel
theorem dX1_wouldMove_36 : decode cX1_wouldMove 36 = .ok (.invokevirtual 53, 3) := by decide +kernel
theorem dX1_wouldMove_39 : decode cX1_wouldMove 39 = .ok (.aload_n 0, 1) := by decide +kernel
theorem dX1_wouldMove_40 : decode cX1_wouldMove 40 = .ok (.getfield 13, 3) := by decide +kernel
theorem dX1_wouldMove_43 : decode cX1_wouldMove 43 = .ok (.iload_n 1, 1) := by decide +kernel
theorem dX1_wouldMove_44 : decode cX1_wouldMove 44 = .ok (.iaload, 1) := by decide +kernel
theorem dX1_wouldMove_45 : decode cX1_wouldMove 45 = .ok (.isub, 1) := by decide +kernel
theorem dX1_wouldMove_46 : decode cX1_wouldMove 46 = .ok (.iconst 2, 1) := by decide +kernel
theorem dX1_wouldMove_47 : decode cX1_wouldMove 47 = .ok (.if_icmp .lt 5, 3) := by decide +kernel
theorem dX1_wouldMove_50 : decode cX1_wouldMove 50 = .ok (.iconst 0, 1) := by decide +kernel
theorem dX1_wouldMove_51 : decode cX1_wouldMove 51 = .ok (.ireturn, 1) := by decide +kernel
theorem dX1_wouldMove_52 : decode cX1_wouldMove 52 = .ok (.aload_n 0, 1) := by decide +kernel
theorem dX1_wouldMove_53 : decode cX1_wouldMove 53 = .ok (.aload_n 0, 1) := by decide +kernel
theorem dX1_wouldMove_54 : decode cX1_wouldMove 54 = .ok (.getfield 13, 3) := by decide +kernel
theorem dX1_wouldMove_57 : decode cX1_wouldMove 57 = .ok (.iload_n 1, 1) := by decide +kernel
theorem dX1_wouldMove_58 : decode cX1_wouldMove 58 = .ok (.iaload, 1) := by decide +kernel
theorem dX1_wouldMove_59 : decode cX1_wouldMove 59 = .ok (.invokevirtual 98, 3) := by decide +kernel
theorem dX1_wouldMove_62 : decode cX1_wouldMove 62 = .ok (.istore_n 3, 1) := by decide +kernel
theorem dX1_wouldMove_63 : decode cX1_wouldMove 63 = .ok (.iconst 1, 1) := by decide +kernel
theorem dX1_wouldMove_64 : decode cX1_wouldMove 64 = .ok (.iload_n 3, 1) := by decide +kernel
theorem dX1_wouldMove_65 : decode cX1_wouldMove 65 = .ok (.ishl, 1) := by decide +kernel
theorem dX1_wouldMove_66 : decode cX1_wouldMove 66 = .ok (.istore 4, 2) := by decide +kernel
theorem dX1_wouldMove_68 : decode cX1_wouldMove 68 = .ok (.aload_n 0, 1) := by decide +kernel
theorem dX1_wouldMove_69 : decode cX1_wouldMove 69 = .ok (.getfield 13, 3) := by decide +kernel
theorem dX1_wouldMove_72 : decode cX1_wouldMove 72 = .ok (.iload_n 1, 1) := by decide +kernel
theorem dX1_wouldMove_73 : decode cX1_wouldMove 73 = .ok (.iaload, 1) := by decide +kernel
theorem dX1_wouldMove_74 : decode cX1_wouldMove 74 = .ok (.iload_n 3, 1) := by decide +kernel
theorem dX1_wouldMove_75 : decode cX1_wouldMove 75 = .ok (.ishr, 1) := by decide +kernel
theorem dX1_wouldMove_76 : decode cX1_wouldMove 76 = .ok (.iload_n 3, 1) := by decide +kernel
theorem dX1_wouldMove_77 : decode cX1_wouldMove 77 = .ok (.ishl, 1) := by decide +kernel
theorem dX1_wouldMove_78 : decode cX1_wouldMove 78 = .ok (.istore 5, 2) := by decide +kernel
theorem dX1_wouldMove_80 : decode cX1_wouldMove 80 = .ok (.aload_n 0, 1) := by decide +kernel
theorem dX1_wouldMove_81 : decode cX1_wouldMove 81 = .ok (.iload 5, 2) := by decide +kernel
theorem dX1_wouldMove_83 : decode cX1_wouldMove 83 = .ok (.iload 5, 2) := by decide +kernel
theorem dX1_wouldMove_85 : decode cX1_wouldMove 85 = .ok (.iload 4, 2) := by decide +kernel
theorem dX1_wouldMove_87 : decode cX1_wouldMove 87 = .ok (.iadd, 1) := by decide +kernel
theorem dX1_wouldMove_88 : decode cX1_wouldMove 88 = .ok (.invokevirtual 39, 3) := by decide +kernel
theorem dX1_wouldMove_91 : decode cX1_wouldMove 91 = .ok (.iconst 1, 1) := by decide +kernel
theorem dX1_wouldMove_92 : decode cX1_wouldMove 92 = .ok (.iadd, 1) := by decide +kernel
theorem dX1_wouldMove_93 : decode cX1_wouldMove 93 = .ok (.istore 6, 2) := by decide +kernel
theorem dX1_wouldMove_95 : decode cX1_wouldMove 95 = .ok (.iconst 0, 1) := by decide +kernel
theorem dX1_wouldMove_96 : decode cX1_wouldMove 96 = .ok (.istore 7, 2) := by decide +kernel
theorem dX1_wouldMove_98 : decode cX1_wouldMove 98 = .ok (.iconst 0, 1) := by decide +kernel
theorem dX1_wouldMove_99 : decode cX1_wouldMove 99 = .ok (.istore 8, 2) := by decide +kernel
theorem dX1_wouldMove_101 : decode cX1_wouldMove 101 = .ok (.iconst 0, 1) := by decide +kernel
theorem dX1_wouldMove_102 : decode cX1_wouldMove 102 = .ok (.istore 9, 2) := by decide +kernel
theorem dX1_wouldMove_104 : decode cX1_wouldMove 104 = .ok (.iload 9, 2) := by decide +kernel
theorem dX1_wouldMove_106 : decode cX1_wouldMove 106 = .ok (.aload_n 0, 1) := by decide +kernel
theorem dX1_wouldMove_107 : decode cX1_wouldMove 107 = .ok (.getfield 36, 3) := by decide +kernel
theorem dX1_wouldMove_110 : decode cX1_wouldMove 110 = .ok (.if_icmp .ge 87, 3) := by decide +kernel
theorem dX1_wouldMove_113 : decode cX1_wouldMove 113 = .ok (.aload_n 0, 1) := by decide +kernel
theorem dX1_wouldMove_114 : decode cX1_wouldMove 114 = .ok (.getfield 13, 3) := by decide +kernel
theorem dX1_wouldMove_117 : decode cX1_wouldMove 117 = .ok (.aload_n 0, 1) := by decide +kernel
theorem dX1_wouldMove_118 : decode cX1_wouldMove 118 = .ok (.getfield 7, 3) := by decide +kernel
theorem dX1_wouldMove_121 : decode cX1_wouldMove 121 = .ok (.iload 9, 2) := by decide +kernel
theorem dX1_wouldMove_123 : decode cX1_wouldMove 123 = .ok (.iaload, 1) := by decide +kernel
theorem dX1_wouldMove_124 : decode cX1_wouldMove 124 = .ok (.iaload, 1) := by decide +kernel
theorem dX1_wouldMove_125 : decode cX1_wouldMove 125 = .ok (.istore 10, 2) := by decide +kernel
theorem dX1_wouldMove_127 : decode cX1_wouldMove 127 = .ok (.iload 10, 2) := by decide +kernel
theorem dX1_wouldMove_129 : decode cX1_wouldMove 129 = .ok (.iload 5, 2) := by decide +kernel
theorem dX1_wouldMove_131 : decode cX1_wouldMove 131 = .ok (.if_icmp .lt 60, 3) := by decide +kernel
theorem dX1_wouldMove_134 : decode cX1_wouldMove 134 = .ok (.iload 10, 2) := by decide +kernel
theorem dX1_wouldMove_136 : decode cX1_wouldMove 136 = .ok (.iload 5, 2) := by decide +kernel
theorem dX1_wouldMove_138 : decode cX1_wouldMove 138 = .ok (.iload 4, 2) := by decide +kernel
theorem dX1_wouldMove_140 : decode cX1_wouldMove 140 = .ok (.iadd, 1) := by decide +kernel
theorem dX1_wouldMove_141 : decode cX1_wouldMove 141 = .ok (.if_icmp .ge 50, 3) := by decide +kernel
theorem dX1_wouldMove_144 : decode cX1_wouldMove 144 = .ok (.iload 8, 2) := by decide +kernel
theorem dX1_wouldMove_146 : decode cX1_wouldMove 146 = .ok (.iload 10, 2) := by decide +kernel
theorem dX1_wouldMove_148 : decode cX1_wouldMove 148 = .ok (.iload 5, 2) := by decide +kernel
theorem dX1_wouldMove_150 : decode cX1_wouldMove 150 = .ok (.iload 7, 2) := by decide +kernel
theorem dX1_wouldMove_152 : decode cX1_wouldMove 152 = .ok (.iload 4, 2) := by decide +kernel
theorem dX1_wouldMove_154 : decode cX1_wouldMove 154 = .ok (.imul, 1) := by decide +kernel
theorem dX1_wouldMove_155 : decode cX1_wouldMove 155 = .ok (.iload 6, 2) := by decide +kernel
theorem dX1_wouldMove_157 : decode cX1_wouldMove 157 = .ok (.idiv, 1) := by decide +kernel
theorem dX1_wouldMove_158 : decode cX1_wouldMove 158 = .ok (.iadd, 1) := by decide +kernel
theorem dX1_wouldMove_159 : decode cX1_wouldMove 159 = .ok (.if_icmp .ne 7, 3) := by decide +kernel
theorem dX1_wouldMove_162 : decode cX1_wouldMove 162 = .ok (.iconst 0, 1) := by decide +kernel
theorem dX1_wouldMove_163 : decode cX1_wouldMove 163 = .ok (.goto 4, 3) := by decide +kernel
theorem dX1_wouldMove_166 : decode cX1_wouldMove 166 = .ok (.iconst 1, 1) := by decide +kernel
theorem dX1_wouldMove_167 : decode cX1_wouldMove 167 = .ok (.iadd, 1) := by decide +kernel
theorem dX1_wouldMove_168 : decode cX1_wouldMove 168 = .ok (.istore 8, 2) := by decide +kernel
theorem dX1_wouldMove_170 : decode cX1_wouldMove 170 = .ok (.iload 7, 2) := by decide +kernel
theorem dX1_wouldMove_172 : decode cX1_wouldMove 172 = .ok (.iload 10, 2) := by decide +kernel
theorem dX1_wouldMove_174 : decode cX1_wouldMove 174 = .ok (.aload_n 0, 1) := by decide +kernel
theorem dX1_wouldMove_175 : decode cX1_wouldMove 175 = .ok (.getfield 13, 3) := by decide +kernel
theorem dX1_wouldMove_178 : decode cX1_wouldMove 178 = .ok (.iload_n 1, 1) := by decide +kernel
theorem dX1_wouldMove_179 : decode cX1_wouldMove 179 = .ok (.iaload, 1) := by decide +kernel
theorem dX1_wouldMove_180 : decode cX1_wouldMove 180 = .ok (.if_icmp .ne 7, 3) := by decide +kernel
theorem dX1_wouldMove_183 : decode cX1_wouldMove 183 = .ok (.iconst 2, 1) := by decide +kernel
theorem dX1_wouldMove_184 : decode cX1_wouldMove 184 = .ok (.goto 4, 3) := by decide +kernel
theorem dX1_wouldMove_187 : decode cX1_wouldMove 187 = .ok (.iconst 1, 1) := by decide +kernel
theorem dX1_wouldMove_188 : decode cX1_wouldMove 188 = .ok (.iadd, 1) := by decide +kernel
theorem dX1_wouldMove_189 : decode cX1_wouldMove 189 = .ok (.istore 7, 2) := by decide +kernel
theorem dX1_wouldMove_191 : decode cX1_wouldMove 191 = .ok (.iinc 9 1, 3) := by decide +kernel
theorem dX1_wouldMove_194 : decode cX1_wouldMove 194 = .ok (.goto (-90), 3) := by decide +kernel
theorem dX1_wouldMove_197 : decode cX1_wouldMove 197 = .ok (.iload 8, 2) := by decide +kernel
theorem dX1_wouldMove_199 : decode cX1_wouldMove 199 = .ok (.ireturn, 1) := by decide +kernel
theorem dX1_moved_0 : decode cX1_moved 0 = .ok (.aload_n 0, 1) := by decide +kernel
theorem dX1_moved_1 : decode cX1_moved 1 = .ok (.iconst 0, 1) := by decide +kernel
theorem dX1_moved_2 : decode cX1_moved 2 = .ok (.putfield 29, 3) := by decide +kernel
theorem dX1_moved_5 : decode cX1_moved 5 = .ok (.aload_n 0, 1) := by decide +kernel
theorem dX1_moved_6 : decode cX1_moved 6 = .ok (.getfield 67, 3) := by decide +kernel
theorem dX1_moved_9 : decode cX1_moved 9 = .ok (.ireturn, 1) := by decide +kernel
set_option maxRecDepth 20000 in
theorem ggX1_spread_X1_isLevel : GoodIn wsX1_spread wsX1_isLevel := goodIn_r _ [6] (by decide +kernel) (by decide +kernel)
set_option maxRecDepth 20000 in
theorem gX1_spread_X1_isLevel : GoodIn wsX1_spread (va_wsS RX1 95 yX1_isLevel wsX1_isLevel) := goodIn_app (goodIn_of _ (by decide +kernel)) ggX1_spread_X1_isLevel
theorem dX1_spread_0 : decode cX1_spread 0 = .ok (.aload_n 0, 1) := by decide +kernel
theorem dX1_spread_1 : decode cX1_spread 1 = .ok (.iload_n 1, 1) := by decide +kernel
theorem dX1_spread_2 : decode cX1_spread 2 = .ok (.invokestatic 95, 3) := by decide +kernel
theorem dX1_spread_5 : decode cX1_spread 5 = .ok (.ifCond .eq 7, 3) := by decide +kernel
theorem dX1_spread_8 : decode cX1_spread 8 = .ok (.iconst 0, 1) := by decide +kernel
theorem dX1_spread_9 : decode cX1_spread 9 = .ok (.goto 4, 3) := by decide +kernel
theorem dX1_spread_12 : decode cX1_spread 12 = .ok (.iconst 1, 1) := by decide +kernel
theorem dX1_spread_13 : decode cX1_spread 13 = .ok (.putfield 29, 3) := by decide +kernel
theorem dX1_spread_16 : decode cX1_spread 16 = .ok (.aload_n 0, 1) := by decide +kernel
theorem dX1_spread_17 : decode cX1_spread 17 = .ok (.getfield 29, 3) := by decide +kernel
theorem dX1_spread_20 : decode cX1_spread 20 = .ok (.ifCond .le 7, 3) := by decide +kernel
theorem dX1_spread_23 : decode cX1_spread 23 = .ok (.iconst 0, 1) := by decide +kernel
theorem dX1_spread_24 : decode cX1_spread 24 = .ok (.goto 9, 3) := by decide +kernel
theorem dX1_spread_27 : decode cX1_spread 27 = .ok (.aload_n 0, 1) := by decide +kernel
theorem dX1_spread_28 : decode cX1_spread 28 = .ok (.getfield 20, 3) := by decide +kernel
theorem dX1_spread_31 : decode cX1_spread 31 = .ok (.iload_n 1, 1) := by decide +kernel
theorem dX1_spread_32 : decode cX1_spread 32 = .ok (.iaload, 1) := by decide +kernel
theorem dX1_spread_33 : decode cX1_spread 33 = .ok (.ireturn, 1) := by decide +kernel
theorem dX1_isReader_0 : decode cX1_isReader 0 = .ok (.iload_n 0, 1) := by decide +kernel
theorem dX1_isReader_1 : decode cX1_isReader 1 = .ok (.ifCond .lt 12, 3) := by decide +kernel
theorem dX1_isReader_4 : decode cX1_isReader 4 = .ok (.iload_n 0, 1) := by decide +kernel
theorem dX1_isReader_5 : decode cX1_isReader 5 = .ok (.iconst 4, 1) := by decide +kernel
theorem dX1_isReader_6 : decode cX1_isReader 6 = .ok (.if_icmp .ge 7, 3) := by decide +kernel
theorem dX1_isReader_9 : decode cX1_isReader 9 = .ok (.iconst 1, 1) := by decide +kernel
theorem dX1_isReader_10 : decode cX1_isReader 10 = .ok (.goto 4, 3) := by decide +kernel
theorem dX1_isReader_13 : decode cX1_isReader 13 = .ok (.iconst 0, 1) := by decide +kernel
theorem dX1_isReader_14 : decode cX1_isReader 14 = .ok (.ireturn, 1) := by decide +kernel
set_option maxRecDepth 20000 in
theorem ggX1_seat_X1_isReader : GoodIn wsX1_seat wsX1_isReader := goodIn_r _ [6] (by decide +kernel) (by decide +kernel)
set_option maxRecDepth 20000 in
theorem gX1_seat_X1_isReader : GoodIn wsX1_seat (va_wsS RX1 101 yX1_isReader wsX1_isReader) := goodIn_app (goodIn_of _ (by decide +kernel)) ggX1_seat_X1_isReader
set_option maxRecDepth 20000 in
theorem ggX1_seat_X1_known : GoodIn wsX1_seat wsX1_known := goodIn_r _ [10, 11, 12, 13, 14, 15, 16, 17, 18, 19, 20, 21, 22] (by decide +kernel) (by decide +kernel)
set_option maxRecDepth 20000 in
theorem gX1_seat_X1_known : GoodIn wsX1_seat (wsV RX1 81 RX1 yX1_known wsX1_known) := goodIn_app (goodIn_of _ (by decide +kernel)) ggX1_seat_X1_known
theorem dX1_seat_0 : decode cX1_seat 0 = .ok (.aload_n 0, 1) := by decide +kernel
theorem dX1_seat_1 : decode cX1_seat 1 = .ok (.iload_n 1, 1) := by decide +kernel
theorem dX1_seat_2 : decode cX1_seat 2 = .ok (.invokestatic 101, 3) := by decide +kernel
theorem dX1_seat_5 : decode cX1_seat 5 = .ok (.ifCond .eq 15, 3) := by decide +kernel
theorem dX1_seat_8 : decode cX1_seat 8 = .ok (.aload_n 0, 1) := by decide +kernel
theorem dX1_seat_9 : decode cX1_seat 9 = .ok (.iload_n 2, 1) := by decide +kernel
theorem dX1_seat_10 : decode cX1_seat 10 = .ok (.invokevirtual 81, 3) := by decide +kernel
theorem dX1_seat_13 : decode cX1_seat 13 = .ok (.ifCond .eq 7, 3) := by decide +kernel
theorem dX1_seat_16 : decode cX1_seat 16 = .ok (.iconst 0, 1) := by decide +kernel
theorem dX1_seat_17 : decode cX1_seat 17 = .ok (.goto 4, 3) := by decide +kernel
theorem dX1_seat_20 : decode cX1_seat 20 = .ok (.iconst 1, 1) := by decide +kernel
theorem dX1_seat_21 : decode cX1_seat 21 = .ok (.putfield 29, 3) := by decide +kernel
theorem dX1_seat_24 : decode cX1_seat 24 = .ok (.aload_n 0, 1) := by decide +kernel
theorem dX1_seat_25 : decode cX1_seat 25 = .ok (.getfield 29, 3) := by decide +kernel
theorem dX1_seat_28 : decode cX1_seat 28 = .ok (.ifCond .le 5, 3) := by decide +kernel
theorem dX1_seat_31 : decode cX1_seat 31 = .ok (.iconst 0, 1) := by decide +kernel
theorem dX1_seat_32 : decode cX1_seat 32 = .ok (.ireturn, 1) := by decide +kernel
theorem dX1_seat_33 : decode cX1_seat 33 = .ok (.aload_n 0, 1) := by decide +kernel
theorem dX1_seat_34 : decode cX1_seat 34 = .ok (.getfield 23, 3) := by decide +kernel
theorem dX1_seat_37 : decode cX1_seat 37 = .ok (.iload_n 1, 1) := by decide +kernel
theorem dX1_seat_38 : decode cX1_seat 38 = .ok (.iload_n 2, 1) := by decide +kernel
theorem dX1_seat_39 : decode cX1_seat 39 = .ok (.iastore, 1) := by decide +kernel
theorem dX1_seat_40 : decode cX1_seat 40 = .ok (.iconst 0, 1) := by decide +kernel
theorem dX1_seat_41 : decode cX1_seat 41 = .ok (.istore_n 3, 1) := by decide +kernel
theorem dX1_seat_42 : decode cX1_seat 42 = .ok (.iconst 0, 1) := by decide +kernel
theorem dX1_seat_43 : decode cX1_seat 43 = .ok (.istore 4, 2) := by decide +kernel
theorem dX1_seat_45 : decode cX1_seat 45 = .ok (.iload 4, 2) := by decide +kernel
theorem dX1_seat_47 : decode cX1_seat 47 = .ok (.iconst 4, 1) := by decide +kernel
theorem dX1_seat_48 : decode cX1_seat 48 = .ok (.if_icmp .ge 28, 3) := by decide +kernel
theorem dX1_seat_51 : decode cX1_seat 51 = .ok (.iload_n 3, 1) := by decide +kernel
theorem dX1_seat_52 : decode cX1_seat 52 = .ok (.aload_n 0, 1) := by decide +kernel
theorem dX1_seat_53 : decode cX1_seat 53 = .ok (.getfield 23, 3) := by decide +kernel
theorem dX1_seat_56 : decode cX1_seat 56 = .ok (.iload 4, 2) := by decide +kernel
theorem dX1_seat_58 : decode cX1_seat 58 = .ok (.iaload, 1) := by decide +kernel
theorem dX1_seat_59 : decode cX1_seat 59 = .ok (.iload_n 2, 1) := by decide +kernel
theorem dX1_seat_60 : decode cX1_seat 60 = .ok (.if_icmp .ne 7, 3) := by decide +kernel
theorem dX1_seat_63 : decode cX1_seat 63 = .ok (.iconst 1, 1) := by decide +kernel
theorem dX1_seat_64 : decode cX1_seat 64 = .ok (.goto 4, 3) := by decide +kernel
theorem dX1_seat_67 : decode cX1_seat 67 = .ok (.iconst 0, 1) := by decide +kernel
theorem dX1_seat_68 : decode cX1_seat 68 = .ok (.iadd, 1) := by decide +kernel
theorem dX1_seat_69 : decode cX1_seat 69 = .ok (.istore_n 3, 1) := by decide +kernel
theorem dX1_seat_70 : decode cX1_seat 70 = .ok (.iinc 4 1, 3) := by decide +kernel
theorem dX1_seat_73 : decode cX1_seat 73 = .ok (.goto (-28), 3) := by decide +kernel
theorem dX1_seat_76 : decode cX1_seat 76 = .ok (.iload_n 3, 1) := by decide +kernel
theorem dX1_seat_77 : decode cX1_seat 77 = .ok (.ireturn, 1) := by decide +kernel
set_option maxRecDepth 20000 in
theorem ggX1_passDay_X1_behind : GoodIn wsX1_passDay wsX1_behind := goodIn_r _ [8, 9, 10, 11, 12, 13, 7, 14, 15, 16, 17, 18, 19, 20, 21, 22, 23, 24] (by decide +kernel) (by decide +kernel)
set_option maxRecDepth 20000 in
theorem gX1_passDay_X1_behind : GoodIn wsX1_passDay (wsV RX1 88 RX1 yX1_behind wsX1_behind) := goodIn_app (goodIn_of _ (by decide +kernel)) ggX1_passDay_X1_behind
theorem dX1_passDay_0 : decode cX1_passDay 0 = .ok (.aload_n 0, 1) := by decide +kernel
theorem dX1_passDay_1 : decode cX1_passDay 1 = .ok (.iconst 0, 1) := by decide +kernel
theorem dX1_passDay_2 : decode cX1_passDay 2 = .ok (.putfield 29, 3) := by decide +kernel
theorem dX1_passDay_5 : decode cX1_passDay 5 = .ok (.iconst 0, 1) := by decide +kernel

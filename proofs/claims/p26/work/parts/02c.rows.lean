theorem dX0_init_0 : decode cX0_init 0 = .ok (.aload_n 0, 1) := by decide +kernel
theorem dX0_init_1 : decode cX0_init 1 = .ok (.invokespecial 1, 3) := by decide +kernel
theorem dX0_init_4 : decode cX0_init 4 = .ok (.aload_n 0, 1) := by decide +kernel
theorem dX0_init_5 : decode cX0_init 5 = .ok (.bipush 60, 2) := by decide +kernel
theorem dX0_init_7 : decode cX0_init 7 = .ok (.newarray .int, 2) := by decide +kernel
theorem dX0_init_9 : decode cX0_init 9 = .ok (.putfield 9, 3) := by decide +kernel
theorem dX0_init_12 : decode cX0_init 12 = .ok (.aload_n 0, 1) := by decide +kernel
theorem dX0_init_13 : decode cX0_init 13 = .ok (.bipush 60, 2) := by decide +kernel
theorem dX0_init_15 : decode cX0_init 15 = .ok (.newarray .int, 2) := by decide +kernel
theorem dX0_init_17 : decode cX0_init 17 = .ok (.putfield 13, 3) := by decide +kernel
theorem dX0_init_20 : decode cX0_init 20 = .ok (.aload_n 0, 1) := by decide +kernel
theorem dX0_init_21 : decode cX0_init 21 = .ok (.getstatic 16, 3) := by decide +kernel
theorem dX0_init_24 : decode cX0_init 24 = .ok (.arraylength, 1) := by decide +kernel
theorem dX0_init_25 : decode cX0_init 25 = .ok (.newarray .int, 2) := by decide +kernel
theorem dX0_init_27 : decode cX0_init 27 = .ok (.putfield 19, 3) := by decide +kernel
theorem dX0_init_30 : decode cX0_init 30 = .ok (.aload_n 0, 1) := by decide +kernel
theorem dX0_init_31 : decode cX0_init 31 = .ok (.iconst 4, 1) := by decide +kernel
theorem dX0_init_32 : decode cX0_init 32 = .ok (.newarray .int, 2) := by decide +kernel
theorem dX0_init_34 : decode cX0_init 34 = .ok (.putfield 22, 3) := by decide +kernel
theorem dX0_init_37 : decode cX0_init 37 = .ok (.aload_n 0, 1) := by decide +kernel
theorem dX0_init_38 : decode cX0_init 38 = .ok (.iconst 4, 1) := by decide +kernel
theorem dX0_init_39 : decode cX0_init 39 = .ok (.newarray .int, 2) := by decide +kernel
theorem dX0_init_41 : decode cX0_init 41 = .ok (.putfield 25, 3) := by decide +kernel
theorem dX0_init_44 : decode cX0_init 44 = .ok (.iconst 0, 1) := by decide +kernel
theorem dX0_init_45 : decode cX0_init 45 = .ok (.istore_n 1, 1) := by decide +kernel
theorem dX0_init_46 : decode cX0_init 46 = .ok (.iload_n 1, 1) := by decide +kernel
theorem dX0_init_47 : decode cX0_init 47 = .ok (.iconst 4, 1) := by decide +kernel
theorem dX0_init_48 : decode cX0_init 48 = .ok (.if_icmp .ge 16, 3) := by decide +kernel
theorem dX0_init_51 : decode cX0_init 51 = .ok (.aload_n 0, 1) := by decide +kernel
theorem dX0_init_52 : decode cX0_init 52 = .ok (.getfield 22, 3) := by decide +kernel
theorem dX0_init_55 : decode cX0_init 55 = .ok (.iload_n 1, 1) := by decide +kernel
theorem dX0_init_56 : decode cX0_init 56 = .ok (.iconst (-1), 1) := by decide +kernel
theorem dX0_init_57 : decode cX0_init 57 = .ok (.iastore, 1) := by decide +kernel
theorem dX0_init_58 : decode cX0_init 58 = .ok (.iinc 1 1, 3) := by decide +kernel
theorem dX0_init_61 : decode cX0_init 61 = .ok (.goto (-15), 3) := by decide +kernel
theorem dX0_init_64 : decode cX0_init 64 = .ok (.return_, 1) := by decide +kernel
set_option maxRecDepth 20000 in
theorem ggX0_putFirst_X0_requireThatOneMayCome : GoodIn wsX0_putFirst wsX0_requireThatOneMayCome := goodIn_ca (goodIn_r _ [5, 6, 7, 8, 9, 92, 93, 94, 95, 96, 97, 98, 99] (by decide +kernel) (by decide +kernel)) (goodIn_sub (fun _ h => List.mem_cons_of_mem _ (List.mem_append_right _ h)) (by decide +kernel))
set_option maxRecDepth 20000 in
theorem gX0_putFirst_X0_requireThatOneMayCome : GoodIn wsX0_putFirst (wsV RX0 28 RX0 yX0_requireThatOneMayCome wsX0_requireThatOneMayCome) := goodIn_app (goodIn_of _ (by decide +kernel)) ggX0_putFirst_X0_requireThatOneMayCome
set_option maxRecDepth 20000 in
theorem ggX0_putFirst_X0_nextNumber : GoodIn wsX0_putFirst wsX0_nextNumber := goodIn_r _ [13, 8, 92, 93, 94, 95, 96, 97, 98, 99] (by decide +kernel) (by decide +kernel)
set_option maxRecDepth 20000 in
theorem gX0_putFirst_X0_nextNumber : GoodIn wsX0_putFirst (wsV RX0 31 RX0 yX0_nextNumber wsX0_nextNumber) := goodIn_app (goodIn_of _ (by decide +kernel)) ggX0_putFirst_X0_nextNumber
set_option maxRecDepth 20000 in
theorem ggX0_putFirst_X0_putIn : GoodIn wsX0_putFirst wsX0_putIn := goodIn_r _ [17, 18, 19, 20, 21, 4, 22, 23, 24, 25, 26, 27, 28, 29, 30, 31, 32, 33, 34, 35, 9, 36, 37, 38, 39, 40, 41, 42, 43, 44, 45, 46, 47, 48, 49, 50, 51, 52, 53, 54, 55, 56, 57, 58, 59, 60, 61, 62, 63, 64, 65, 66, 67, 68, 69, 70, 71, 72, 73, 74, 75, 76, 77, 78, 79, 80, 81, 82, 83, 84, 85, 86, 87, 88, 89, 90, 91, 92, 93, 94, 95, 96, 97, 98, 99] (by decide +kernel) (by decide +kernel)
set_option maxRecDepth 20000 in
theorem gX0_putFirst_X0_putIn : GoodIn wsX0_putFirst (wsV RX0 35 RX0 yX0_putIn wsX0_putIn) := goodIn_app (goodIn_of _ (by decide +kernel)) ggX0_putFirst_X0_putIn
theorem dX0_putFirst_0 : decode cX0_putFirst 0 = .ok (.aload_n 0, 1) := by decide +kernel
theorem dX0_putFirst_1 : decode cX0_putFirst 1 = .ok (.invokevirtual 28, 3) := by decide +kernel
theorem dX0_putFirst_4 : decode cX0_putFirst 4 = .ok (.aload_n 0, 1) := by decide +kernel
theorem dX0_putFirst_5 : decode cX0_putFirst 5 = .ok (.invokevirtual 31, 3) := by decide +kernel
theorem dX0_putFirst_8 : decode cX0_putFirst 8 = .ok (.istore_n 1, 1) := by decide +kernel
theorem dX0_putFirst_9 : decode cX0_putFirst 9 = .ok (.aload_n 0, 1) := by decide +kernel
theorem dX0_putFirst_10 : decode cX0_putFirst 10 = .ok (.iload_n 1, 1) := by decide +kernel
theorem dX0_putFirst_11 : decode cX0_putFirst 11 = .ok (.iconst 0, 1) := by decide +kernel
theorem dX0_putFirst_12 : decode cX0_putFirst 12 = .ok (.invokevirtual 35, 3) := by decide +kernel
theorem dX0_putFirst_15 : decode cX0_putFirst 15 = .ok (.iload_n 1, 1) := by decide +kernel
theorem dX0_putFirst_16 : decode cX0_putFirst 16 = .ok (.ireturn, 1) := by decide +kernel
set_option maxRecDepth 20000 in
theorem ggX0_putBehind_X0_requirePlace : GoodIn wsX0_putBehind wsX0_requirePlace := goodIn_ca (goodIn_r _ [5, 6, 7, 8, 9, 10, 4, 11, 12, 13, 102, 103, 104, 105, 106, 107, 108, 109] (by decide +kernel) (by decide +kernel)) (goodIn_sub (fun _ h => List.mem_cons_of_mem _ (List.mem_append_left _ (List.mem_append_right _ h))) (by decide +kernel))
set_option maxRecDepth 20000 in
theorem gX0_putBehind_X0_requirePlace : GoodIn wsX0_putBehind (wsV RX0 39 RX0 yX0_requirePlace wsX0_requirePlace) := goodIn_app (goodIn_of _ (by decide +kernel)) ggX0_putBehind_X0_requirePlace
set_option maxRecDepth 20000 in
theorem ggX0_putBehind_X0_requireThatOneMayCome : GoodIn wsX0_putBehind wsX0_requireThatOneMayCome := goodIn_ca (goodIn_r _ [17, 18, 19, 20, 12, 102, 103, 104, 105, 106, 107, 108, 109] (by decide +kernel) (by decide +kernel)) (goodIn_sub (fun _ h => List.mem_cons_of_mem _ (List.mem_append_right _ h)) (by decide +kernel))
set_option maxRecDepth 20000 in
theorem gX0_putBehind_X0_requireThatOneMayCome : GoodIn wsX0_putBehind (wsV RX0 28 RX0 yX0_requireThatOneMayCome wsX0_requireThatOneMayCome) := goodIn_app (goodIn_of _ (by decide +kernel)) ggX0_putBehind_X0_requireThatOneMayCome
set_option maxRecDepth 20000 in
theorem ggX0_putBehind_X0_nextNumber : GoodIn wsX0_putBehind wsX0_nextNumber := goodIn_r _ [24, 20, 102, 103, 104, 105, 106, 107, 108, 109] (by decide +kernel) (by decide +kernel)
set_option maxRecDepth 20000 in
theorem gX0_putBehind_X0_nextNumber : GoodIn wsX0_putBehind (wsV RX0 31 RX0 yX0_nextNumber wsX0_nextNumber) := goodIn_app (goodIn_of _ (by decide +kernel)) ggX0_putBehind_X0_nextNumber
set_option maxRecDepth 20000 in
theorem ggX0_putBehind_X0_putIn : GoodIn wsX0_putBehind wsX0_putIn := goodIn_r _ [28, 29, 30, 31, 32, 4, 33, 34, 35, 36, 37, 38, 39, 40, 41, 42, 43, 44, 45, 46, 12, 13, 47, 48, 49, 50, 51, 52, 53, 54, 55, 56, 57, 58, 59, 60, 61, 62, 63, 64, 65, 66, 67, 68, 69, 70, 71, 72, 73, 74, 75, 76, 77, 78, 79, 80, 81, 82, 83, 84, 85, 86, 87, 88, 89, 90, 91, 92, 93, 94, 95, 96, 97, 98, 99, 100, 101, 102, 103, 104, 105, 106, 107, 108, 109] (by decide +kernel) (by decide +kernel)
set_option maxRecDepth 20000 in
theorem gX0_putBehind_X0_putIn : GoodIn wsX0_putBehind (wsV RX0 35 RX0 yX0_putIn wsX0_putIn) := goodIn_app (goodIn_of _ (by decide +kernel)) ggX0_putBehind_X0_putIn
theorem dX0_putBehind_0 : decode cX0_putBehind 0 = .ok (.aload_n 0, 1) := by decide +kernel
theorem dX0_putBehind_1 : decode cX0_putBehind 1 = .ok (.iload_n 1, 1) := by decide +kernel
theorem dX0_putBehind_2 : decode cX0_putBehind 2 = .ok (.invokevirtual 39, 3) := by decide +kernel
theorem dX0_putBehind_5 : decode cX0_putBehind 5 = .ok (.istore_n 2, 1) := by decide +kernel
theorem dX0_putBehind_6 : decode cX0_putBehind 6 = .ok (.aload_n 0, 1) := by decide +kernel
theorem dX0_putBehind_7 : decode cX0_putBehind 7 = .ok (.invokevirtual 28, 3) := by decide +kernel
theorem dX0_putBehind_10 : decode cX0_putBehind 10 = .ok (.aload_n 0, 1) := by decide +kernel
theorem dX0_putBehind_11 : decode cX0_putBehind 11 = .ok (.invokevirtual 31, 3) := by decide +kernel
theorem dX0_putBehind_14 : decode cX0_putBehind 14 = .ok (.istore_n 3, 1) := by decide +kernel
theorem dX0_putBehind_15 : decode cX0_putBehind 15 = .ok (.aload_n 0, 1) := by decide +kernel
theorem dX0_putBehind_16 : decode cX0_putBehind 16 = .ok (.iload_n 3, 1) := by decide +kernel
theorem dX0_putBehind_17 : decode cX0_putBehind 17 = .ok (.iload_n 2, 1) := by decide +kernel
theorem dX0_putBehind_18 : decode cX0_putBehind 18 = .ok (.iconst 1, 1) := by decide +kernel
theorem dX0_putBehind_19 : decode cX0_putBehind 19 = .ok (.iadd, 1) := by decide +kernel
theorem dX0_putBehind_20 : decode cX0_putBehind 20 = .ok (.invokevirtual 35, 3) := by decide +kernel
theorem dX0_putBehind_23 : decode cX0_putBehind 23 = .ok (.iload_n 3, 1) := by decide +kernel
theorem dX0_putBehind_24 : decode cX0_putBehind 24 = .ok (.ireturn, 1) := by decide +kernel
set_option maxRecDepth 20000 in
theorem ggX0_takeOut_X0_requirePlace : GoodIn wsX0_takeOut wsX0_requirePlace := goodIn_ca (goodIn_r _ [6, 7, 8, 9, 10, 11, 5, 12, 1, 13, 40, 41, 42, 43, 44, 45, 46, 47] (by decide +kernel) (by decide +kernel)) (goodIn_sub (fun _ h => List.mem_cons_of_mem _ (List.mem_append_right _ h)) (by decide +kernel))
set_option maxRecDepth 20000 in
theorem gX0_takeOut_X0_requirePlace : GoodIn wsX0_takeOut (wsV RX0 39 RX0 yX0_requirePlace wsX0_requirePlace) := goodIn_app (goodIn_of _ (by decide +kernel)) ggX0_takeOut_X0_requirePlace
set_option maxRecDepth 20000 in
theorem ggX0_takeOut_X0_folderAt : GoodIn wsX0_takeOut wsX0_folderAt := goodIn_r _ [17, 13, 18, 19, 20, 5, 21, 1, 22, 40, 41, 42, 43, 44, 45, 46, 47] (by decide +kernel) (by decide +kernel)
set_option maxRecDepth 20000 in
theorem gX0_takeOut_X0_folderAt : GoodIn wsX0_takeOut (wsV RX0 43 RX0 yX0_folderAt wsX0_folderAt) := goodIn_app (goodIn_of _ (by decide +kernel)) ggX0_takeOut_X0_folderAt
set_option maxRecDepth 20000 in
theorem ggX0_takeOut_X0_sendReadersOn : GoodIn wsX0_takeOut wsX0_sendReadersOn := goodIn_r _ [26, 27, 40, 41, 42, 43, 44, 45, 46, 47] (by decide +kernel) (by decide +kernel)
set_option maxRecDepth 20000 in
theorem gX0_takeOut_X0_sendReadersOn : GoodIn wsX0_takeOut (wsV RX0 46 RX0 yX0_sendReadersOn wsX0_sendReadersOn) := goodIn_app (goodIn_of _ (by decide +kernel)) ggX0_takeOut_X0_sendReadersOn
set_option maxRecDepth 20000 in
theorem ggX0_takeOut_X0_removeAt : GoodIn wsX0_takeOut wsX0_removeAt := goodIn_r _ [31, 1, 18, 19, 20, 5, 21, 13, 22, 14, 15, 16, 17, 32, 33, 34, 35, 36, 37, 38, 39, 40, 41, 42, 43, 44, 45, 46, 47] (by decide +kernel) (by decide +kernel)
set_option maxRecDepth 20000 in
theorem gX0_takeOut_X0_removeAt : GoodIn wsX0_takeOut (wsV RX0 49 RX0 yX0_removeAt wsX0_removeAt) := goodIn_app (goodIn_of _ (by decide +kernel)) ggX0_takeOut_X0_removeAt
theorem dX0_takeOut_0 : decode cX0_takeOut 0 = .ok (.aload_n 0, 1) := by decide +kernel
theorem dX0_takeOut_1 : decode cX0_takeOut 1 = .ok (.iload_n 1, 1) := by decide +kernel
theorem dX0_takeOut_2 : decode cX0_takeOut 2 = .ok (.invokevirtual 39, 3) := by decide +kernel
theorem dX0_takeOut_5 : decode cX0_takeOut 5 = .ok (.istore_n 2, 1) := by decide +kernel
theorem dX0_takeOut_6 : decode cX0_takeOut 6 = .ok (.aload_n 0, 1) := by decide +kernel
theorem dX0_takeOut_7 : decode cX0_takeOut 7 = .ok (.iload_n 1, 1) := by decide +kernel
theorem dX0_takeOut_8 : decode cX0_takeOut 8 = .ok (.aload_n 0, 1) := by decide +kernel
theorem dX0_takeOut_9 : decode cX0_takeOut 9 = .ok (.iload_n 2, 1) := by decide +kernel
theorem dX0_takeOut_10 : decode cX0_takeOut 10 = .ok (.iconst 1, 1) := by decide +kernel
theorem dX0_takeOut_11 : decode cX0_takeOut 11 = .ok (.iadd, 1) := by decide +kernel
theorem dX0_takeOut_12 : decode cX0_takeOut 12 = .ok (.invokevirtual 43, 3) := by decide +kernel
theorem dX0_takeOut_15 : decode cX0_takeOut 15 = .ok (.invokevirtual 46, 3) := by decide +kernel
theorem dX0_takeOut_18 : decode cX0_takeOut 18 = .ok (.aload_n 0, 1) := by decide +kernel
theorem dX0_takeOut_19 : decode cX0_takeOut 19 = .ok (.iload_n 2, 1) := by decide +kernel
theorem dX0_takeOut_20 : decode cX0_takeOut 20 = .ok (.invokevirtual 49, 3) := by decide +kernel
theorem dX0_takeOut_23 : decode cX0_takeOut 23 = .ok (.aload_n 0, 1) := by decide +kernel
theorem dX0_takeOut_24 : decode cX0_takeOut 24 = .ok (.getfield 53, 3) := by decide +kernel
theorem dX0_takeOut_27 : decode cX0_takeOut 27 = .ok (.ireturn, 1) := by decide +kernel
set_option maxRecDepth 20000 in
theorem ggX0_carry_X0_requirePlace : GoodIn wsX0_carry wsX0_requirePlace := goodIn_ca (goodIn_r _ [7, 8, 9, 10, 11, 12, 6, 13, 14, 15, 97, 98, 99, 100, 101, 102, 103, 104] (by decide +kernel) (by decide +kernel)) (goodIn_sub (fun _ h => List.mem_cons_of_mem _ (List.mem_append_right _ h)) (by decide +kernel))
set_option maxRecDepth 20000 in
theorem gX0_carry_X0_requirePlace : GoodIn wsX0_carry (wsV RX0 39 RX0 yX0_requirePlace wsX0_requirePlace) := goodIn_app (goodIn_of _ (by decide +kernel)) ggX0_carry_X0_requirePlace
set_option maxRecDepth 20000 in
theorem ggX0_carry_X0_removeAt : GoodIn wsX0_carry wsX0_removeAt := goodIn_r _ [19, 14, 20, 21, 22, 6, 23, 15, 24, 25, 26, 27, 28, 29, 30, 31, 32, 33, 34, 35, 36, 97, 98, 99, 100, 101, 102, 103, 104] (by decide +kernel) (by decide +kernel)
set_option maxRecDepth 20000 in
theorem gX0_carry_X0_removeAt : GoodIn wsX0_carry (wsV RX0 49 RX0 yX0_removeAt wsX0_removeAt) := goodIn_app (goodIn_of _ (by decide +kernel)) ggX0_carry_X0_removeAt
set_option maxRecDepth 20000 in
theorem ggX0_carry_X0_placeOf : GoodIn wsX0_carry wsX0_placeOf := goodIn_r _ [13, 14, 15, 97, 98, 99, 100, 101, 102, 103, 104] (by decide +kernel) (by decide +kernel)
set_option maxRecDepth 20000 in
theorem gX0_carry_X0_placeOf : GoodIn wsX0_carry (wsV RX0 64 RX0 yX0_placeOf wsX0_placeOf) := goodIn_app (goodIn_of _ (by decide +kernel)) ggX0_carry_X0_placeOf
set_option maxRecDepth 20000 in
theorem ggX0_carry_X0_putIn : GoodIn wsX0_carry wsX0_putIn := goodIn_r _ [40, 41, 42, 43, 44, 6, 45, 46, 47, 48, 49, 29, 30, 31, 32, 24, 20, 21, 22, 23, 14, 15, 50, 51, 52, 53, 54, 55, 56, 57, 58, 59, 60, 61, 62, 63, 64, 65, 66, 67, 68, 69, 70, 71, 72, 73, 74, 75, 76, 77, 78, 79, 80, 81, 82, 83, 84, 85, 86, 87, 25, 26, 27, 28, 33, 34, 35, 36, 88, 89, 90, 91, 92, 93, 94, 95, 96, 97, 98, 99, 100, 101, 102, 103, 104] (by decide +kernel) (by decide +kernel)
set_option maxRecDepth 20000 in
theorem gX0_carry_X0_putIn : GoodIn wsX0_carry (wsV RX0 35 RX0 yX0_putIn wsX0_putIn) := goodIn_app (goodIn_of _ (by decide +kernel)) ggX0_carry_X0_putIn
set_option maxRecDepth 20000 in
theorem ggX0_carry_X0_markAt : GoodIn wsX0_carry wsX0_markAt := goodIn_r _ [32, 24, 20, 21, 22, 6, 23, 14, 15, 97, 98, 99, 100, 101, 102, 103, 104] (by decide +kernel) (by decide +kernel)
set_option maxRecDepth 20000 in
theorem gX0_carry_X0_markAt : GoodIn wsX0_carry (wsV RX0 67 RX0 yX0_markAt wsX0_markAt) := goodIn_app (goodIn_of _ (by decide +kernel)) ggX0_carry_X0_markAt
theorem dX0_carry_0 : decode cX0_carry 0 = .ok (.aload_n 0, 1) := by decide +kernel
theorem dX0_carry_1 : decode cX0_carry 1 = .ok (.iload_n 1, 1) := by decide +kernel
theorem dX0_carry_2 : decode cX0_carry 2 = .ok (.invokevirtual 39, 3) := by decide +kernel
theorem dX0_carry_5 : decode cX0_carry 5 = .ok (.istore_n 3, 1) := by decide +kernel
theorem dX0_carry_6 : decode cX0_carry 6 = .ok (.aload_n 0, 1) := by decide +kernel
theorem dX0_carry_7 : decode cX0_carry 7 = .ok (.iload_n 2, 1) := by decide +kernel
theorem dX0_carry_8 : decode cX0_carry 8 = .ok (.invokevirtual 39, 3) := by decide +kernel
theorem dX0_carry_11 : decode cX0_carry 11 = .ok (.pop, 1) := by decide +kernel
theorem dX0_carry_12 : decode cX0_carry 12 = .ok (.iload_n 1, 1) := by decide +kernel
theorem dX0_carry_13 : decode cX0_carry 13 = .ok (.iload_n 2, 1) := by decide +kernel
theorem dX0_carry_14 : decode cX0_carry 14 = .ok (.if_icmp .ne 13, 3) := by decide +kernel
theorem dX0_carry_17 : decode cX0_carry 17 = .ok (.new 57, 3) := by decide +kernel
theorem dX0_carry_20 : decode cX0_carry 20 = .ok (.dup, 1) := by decide +kernel
theorem dX0_carry_21 : decode cX0_carry 21 = .ok (.ldc 59, 2) := by decide +kernel
theorem dX0_carry_23 : decode cX0_carry 23 = .ok (.invokespecial 61, 3) := by decide +kernel
theorem dX0_carry_26 : decode cX0_carry 26 = .ok (.athrow, 1) := by decide +kernel
theorem dX0_carry_27 : decode cX0_carry 27 = .ok (.aload_n 0, 1) := by decide +kernel
theorem dX0_carry_28 : decode cX0_carry 28 = .ok (.iload_n 3, 1) := by decide +kernel
theorem dX0_carry_29 : decode cX0_carry 29 = .ok (.invokevirtual 49, 3) := by decide +kernel
theorem dX0_carry_32 : decode cX0_carry 32 = .ok (.aload_n 0, 1) := by decide +kernel
theorem dX0_carry_33 : decode cX0_carry 33 = .ok (.iload_n 1, 1) := by decide +kernel
theorem dX0_carry_34 : decode cX0_carry 34 = .ok (.aload_n 0, 1) := by decide +kernel
theorem dX0_carry_35 : decode cX0_carry 35 = .ok (.iload_n 2, 1) := by decide +kernel
theorem dX0_carry_36 : decode cX0_carry 36 = .ok (.invokevirtual 64, 3) := by decide +kernel
theorem dX0_carry_39 : decode cX0_carry 39 = .ok (.iconst 1, 1) := by decide +kernel
theorem dX0_carry_40 : decode cX0_carry 40 = .ok (.iadd, 1) := by decide +kernel
theorem dX0_carry_41 : decode cX0_carry 41 = .ok (.invokevirtual 35, 3) := by decide +kernel
theorem dX0_carry_44 : decode cX0_carry 44 = .ok (.aload_n 0, 1) := by decide +kernel
theorem dX0_carry_45 : decode cX0_carry 45 = .ok (.aload_n 0, 1) := by decide +kernel
theorem dX0_carry_46 : decode cX0_carry 46 = .ok (.iload_n 1, 1) := by decide +kernel
theorem dX0_carry_47 : decode cX0_carry 47 = .ok (.invokevirtual 64, 3) := by decide +kernel
theorem dX0_carry_50 : decode cX0_carry 50 = .ok (.invokevirtual 67, 3) := by decide +kernel
theorem dX0_carry_53 : decode cX0_carry 53 = .ok (.ireturn, 1) := by decide +kernel
theorem dX0_size_0 : decode cX0_size 0 = .ok (.aload_n 0, 1) := by decide +kernel
theorem dX0_size_1 : decode cX0_size 1 = .ok (.getfield 53, 3) := by decide +kernel
theorem dX0_size_4 : decode cX0_size 4 = .ok (.ireturn, 1) := by decide +kernel
set_option maxRecDepth 20000 in
theorem ggX0_first_X0_folderAt : GoodIn wsX0_first wsX0_folderAt := goodIn_r _ [5, 6, 7, 8, 9, 4, 10, 11, 12, 13, 14, 15, 16, 17, 18, 19, 20] (by decide +kernel) (by decide +kernel)
set_option maxRecDepth 20000 in
theorem gX0_first_X0_folderAt : GoodIn wsX0_first (wsV RX0 43 RX0 yX0_folderAt wsX0_folderAt) := goodIn_app (goodIn_of _ (by decide +kernel)) ggX0_first_X0_folderAt
theorem dX0_first_0 : decode cX0_first 0 = .ok (.aload_n 0, 1) := by decide +kernel
theorem dX0_first_1 : decode cX0_first 1 = .ok (.iconst 0, 1) := by decide +kernel
theorem dX0_first_2 : decode cX0_first 2 = .ok (.invokevirtual 43, 3) := by decide +kernel
theorem dX0_first_5 : decode cX0_first 5 = .ok (.ireturn, 1) := by decide +kernel
set_option maxRecDepth 20000 in
theorem ggX0_next_X0_requirePlace : GoodIn wsX0_next wsX0_requirePlace := goodIn_ca (goodIn_r _ [5, 6, 7, 8, 9, 10, 4, 11, 12, 13, 23, 24, 25, 26, 27, 28, 29, 30] (by decide +kernel) (by decide +kernel)) (goodIn_sub (fun _ h => List.mem_cons_of_mem _ (List.mem_append_right _ h)) (by decide +kernel))
set_option maxRecDepth 20000 in
theorem gX0_next_X0_requirePlace : GoodIn wsX0_next (wsV RX0 39 RX0 yX0_requirePlace wsX0_requirePlace) := goodIn_app (goodIn_of _ (by decide +kernel)) ggX0_next_X0_requirePlace
set_option maxRecDepth 20000 in
theorem ggX0_next_X0_folderAt : GoodIn wsX0_next wsX0_folderAt := goodIn_r _ [17, 13, 18, 19, 20, 4, 21, 12, 22, 23, 24, 25, 26, 27, 28, 29, 30] (by decide +kernel) (by decide +kernel)
set_option maxRecDepth 20000 in
theorem gX0_next_X0_folderAt : GoodIn wsX0_next (wsV RX0 43 RX0 yX0_folderAt wsX0_folderAt) := goodIn_app (goodIn_of _ (by decide +kernel)) ggX0_next_X0_folderAt
theorem dX0_next_0 : decode cX0_next 0 = .ok (.aload_n 0, 1) := by decide +kernel
theorem dX0_next_1 : decode cX0_next 1 = .ok (.aload_n 0, 1) := by decide +kernel
theorem dX0_next_2 : decode cX0_next 2 = .ok (.iload_n 1, 1) := by decide +kernel
theorem dX0_next_3 : decode cX0_next 3 = .ok (.invokevirtual 39, 3) := by decide +kernel
theorem dX0_next_6 : decode cX0_next 6 = .ok (.iconst 1, 1) := by decide +kernel
theorem dX0_next_7 : decode cX0_next 7 = .ok (.iadd, 1) := by decide +kernel
theorem dX0_next_8 : decode cX0_next 8 = .ok (.invokevirtual 43, 3) := by decide +kernel
theorem dX0_next_11 : decode cX0_next 11 = .ok (.ireturn, 1) := by decide +kernel
set_option maxRecDepth 20000 in
theorem ggX0_mark_X0_requirePlace : GoodIn wsX0_mark wsX0_requirePlace := goodIn_ca (goodIn_r _ [5, 6, 7, 8, 9, 10, 4, 11, 12, 13, 23, 24, 25, 26, 27, 28, 29, 30] (by decide +kernel) (by decide +kernel)) (goodIn_sub (fun _ h => List.mem_cons_of_mem _ (List.mem_append_right _ h)) (by decide +kernel))
set_option maxRecDepth 20000 in
theorem gX0_mark_X0_requirePlace : GoodIn wsX0_mark (wsV RX0 39 RX0 yX0_requirePlace wsX0_requirePlace) := goodIn_app (goodIn_of _ (by decide +kernel)) ggX0_mark_X0_requirePlace
set_option maxRecDepth 20000 in
theorem ggX0_mark_X0_markAt : GoodIn wsX0_mark wsX0_markAt := goodIn_r _ [17, 18, 19, 20, 21, 4, 22, 12, 13, 23, 24, 25, 26, 27, 28, 29, 30] (by decide +kernel) (by decide +kernel)
set_option maxRecDepth 20000 in
theorem gX0_mark_X0_markAt : GoodIn wsX0_mark (wsV RX0 67 RX0 yX0_markAt wsX0_markAt) := goodIn_app (goodIn_of _ (by decide +kernel)) ggX0_mark_X0_markAt
theorem dX0_mark_0 : decode cX0_mark 0 = .ok (.aload_n 0, 1) := by decide +kernel
theorem dX0_mark_1 : decode cX0_mark 1 = .ok (.aload_n 0, 1) := by decide +kernel
theorem dX0_mark_2 : decode cX0_mark 2 = .ok (.iload_n 1, 1) := by decide +kernel
theorem dX0_mark_3 : decode cX0_mark 3 = .ok (.invokevirtual 39, 3) := by decide +kernel
theorem dX0_mark_6 : decode cX0_mark 6 = .ok (.invokevirtual 67, 3) := by decide +kernel
theorem dX0_mark_9 : decode cX0_mark 9 = .ok (.ireturn, 1) := by decide +kernel
set_option maxRecDepth 20000 in
theorem ggX0_ahead_X0_requirePlace : GoodIn wsX0_ahead wsX0_requirePlace := goodIn_ca (goodIn_r _ [5, 6, 7, 8, 9, 10, 4, 11, 12, 13, 27, 28, 29, 30, 31, 32, 33, 34] (by decide +kernel) (by decide +kernel)) (goodIn_sub (fun _ h => List.mem_cons_of_mem _ (List.mem_append_right _ h)) (by decide +kernel))
set_option maxRecDepth 20000 in
theorem gX0_ahead_X0_requirePlace : GoodIn wsX0_ahead (wsV RX0 39 RX0 yX0_requirePlace wsX0_requirePlace) := goodIn_app (goodIn_of _ (by decide +kernel)) ggX0_ahead_X0_requirePlace
set_option maxRecDepth 20000 in
theorem ggX0_ahead_X0_markAt : GoodIn wsX0_ahead wsX0_markAt := goodIn_r _ [17, 18, 19, 20, 21, 4, 22, 12, 13, 27, 28, 29, 30, 31, 32, 33, 34] (by decide +kernel) (by decide +kernel)
set_option maxRecDepth 20000 in
theorem gX0_ahead_X0_markAt : GoodIn wsX0_ahead (wsV RX0 67 RX0 yX0_markAt wsX0_markAt) := goodIn_app (goodIn_of _ (by decide +kernel)) ggX0_ahead_X0_markAt
set_option maxRecDepth 20000 in
theorem ggX0_ahead_X0_marksBelow : GoodIn wsX0_ahead wsX0_marksBelow := goodIn_r _ [26, 12, 18, 27, 28, 29, 30, 31, 32, 33, 34] (by decide +kernel) (by decide +kernel)
set_option maxRecDepth 20000 in
theorem gX0_ahead_X0_marksBelow : GoodIn wsX0_ahead (wsV RX0 70 RX0 yX0_marksBelow wsX0_marksBelow) := goodIn_app (goodIn_of _ (by decide +kernel)) ggX0_ahead_X0_marksBelow
theorem dX0_ahead_0 : decode cX0_ahead 0 = .ok (.aload_n 0, 1) := by decide +kernel
theorem dX0_ahead_1 : decode cX0_ahead 1 = .ok (.aload_n 0, 1) := by decide +kernel
theorem dX0_ahead_2 : decode cX0_ahead 2 = .ok (.aload_n 0, 1) := by decide +kernel
theorem dX0_ahead_3 : decode cX0_ahead 3 = .ok (.iload_n 1, 1) := by decide +kernel
theorem dX0_ahead_4 : decode cX0_ahead 4 = .ok (.invokevirtual 39, 3) := by decide +kernel
theorem dX0_ahead_7 : decode cX0_ahead 7 = .ok (.invokevirtual 67, 3) := by decide +kernel
theorem dX0_ahead_10 : decode cX0_ahead 10 = .ok (.invokevirtual 70, 3) := by decide +kernel
theorem dX0_ahead_13 : decode cX0_ahead 13 = .ok (.ireturn, 1) := by decide +kernel
set_option maxRecDepth 20000 in
theorem ggX0_seat_X0_requireReader : GoodIn wsX0_seat wsX0_requireReader := goodIn_ca (goodIn_r _ [5, 6, 7] (by decide +kernel) (by decide +kernel)) (goodIn_sub (fun _ h => List.mem_cons_of_mem _ (List.mem_append_right _ h)) (by decide +kernel))
set_option maxRecDepth 20000 in
theorem gX0_seat_X0_requireReader : GoodIn wsX0_seat (va_wsS RX0 98 yX0_requireReader wsX0_requireReader) := goodIn_app (goodIn_of _ (by decide +kernel)) ggX0_seat_X0_requireReader
set_option maxRecDepth 20000 in
theorem ggX0_seat_X0_requirePlace : GoodIn wsX0_seat wsX0_requirePlace := goodIn_ca (goodIn_r _ [11, 6, 7, 12, 13, 14, 4, 15, 16, 17, 22, 23, 24, 25, 26, 27, 28, 29] (by decide +kernel) (by decide +kernel)) (goodIn_sub (fun _ h => List.mem_cons_of_mem _ (List.mem_append_right _ h)) (by decide +kernel))
set_option maxRecDepth 20000 in
theorem gX0_seat_X0_requirePlace : GoodIn wsX0_seat (wsV RX0 39 RX0 yX0_requirePlace wsX0_requirePlace) := goodIn_app (goodIn_of _ (by decide +kernel)) ggX0_seat_X0_requirePlace
set_option maxRecDepth 20000 in
theorem ggX0_seat_X0_readersAt : GoodIn wsX0_seat wsX0_readersAt := goodIn_r _ [21, 1, 22, 23, 24, 25, 26, 27, 28, 29] (by decide +kernel) (by decide +kernel)
set_option maxRecDepth 20000 in
theorem gX0_seat_X0_readersAt : GoodIn wsX0_seat (wsV RX0 101 RX0 yX0_readersAt wsX0_readersAt) := goodIn_app (goodIn_of _ (by decide +kernel)) ggX0_seat_X0_readersAt
theorem dX0_seat_0 : decode cX0_seat 0 = .ok (.iload_n 1, 1) := by decide +kernel
theorem dX0_seat_1 : decode cX0_seat 1 = .ok (.invokestatic 98, 3) := by decide +kernel
theorem dX0_seat_4 : decode cX0_seat 4 = .ok (.aload_n 0, 1) := by decide +kernel
theorem dX0_seat_5 : decode cX0_seat 5 = .ok (.iload_n 2, 1) := by decide +kernel
theorem dX0_seat_6 : decode cX0_seat 6 = .ok (.invokevirtual 39, 3) := by decide +kernel
theorem dX0_seat_9 : decode cX0_seat 9 = .ok (.pop, 1) := by decide +kernel
theorem dX0_seat_10 : decode cX0_seat 10 = .ok (.aload_n 0, 1) := by decide +kernel
theorem dX0_seat_11 : decode cX0_seat 11 = .ok (.getfield 22, 3) := by decide +kernel
theorem dX0_seat_14 : decode cX0_seat 14 = .ok (.iload_n 1, 1) := by decide +kernel
theorem dX0_seat_15 : decode cX0_seat 15 = .ok (.iload_n 2, 1) := by decide +kernel
theorem dX0_seat_16 : decode cX0_seat 16 = .ok (.iastore, 1) := by decide +kernel
theorem dX0_seat_17 : decode cX0_seat 17 = .ok (.aload_n 0, 1) := by decide +kernel
theorem dX0_seat_18 : decode cX0_seat 18 = .ok (.iload_n 2, 1) := by decide +kernel
theorem dX0_seat_19 : decode cX0_seat 19 = .ok (.invokevirtual 101, 3) := by decide +kernel
theorem dX0_seat_22 : decode cX0_seat 22 = .ok (.ireturn, 1) := by decide +kernel
set_option maxRecDepth 20000 in
theorem ggX0_passDay_X0_placeOf : GoodIn wsX0_passDay wsX0_placeOf := goodIn_r _ [7, 8, 9, 19, 20, 21, 22, 23, 24, 25, 26] (by decide +kernel) (by decide +kernel)
set_option maxRecDepth 20000 in
theorem gX0_passDay_X0_placeOf : GoodIn wsX0_passDay (wsV RX0 64 RX0 yX0_placeOf wsX0_placeOf) := goodIn_app (goodIn_of _ (by decide +kernel)) ggX0_passDay_X0_placeOf
set_option maxRecDepth 20000 in
theorem ggX0_passDay_X0_folderAt : GoodIn wsX0_passDay wsX0_folderAt := goodIn_r _ [13, 9, 14, 15, 16, 6, 17, 8, 18, 19, 20, 21, 22, 23, 24, 25, 26] (by decide +kernel) (by decide +kernel)
set_option maxRecDepth 20000 in
theorem gX0_passDay_X0_folderAt : GoodIn wsX0_passDay (wsV RX0 43 RX0 yX0_folderAt wsX0_folderAt) := goodIn_app (goodIn_of _ (by decide +kernel)) ggX0_passDay_X0_folderAt
theorem dX0_passDay_0 : decode cX0_passDay 0 = .ok (.iconst 0, 1) := by decide +kernel
theorem dX0_passDay_1 : decode cX0_passDay 1 = .ok (.istore_n 1, 1) := by decide +kernel
theorem dX0_passDay_2 : decode cX0_passDay 2 = .ok (.iconst 0, 1) := by decide +kernel
theorem dX0_passDay_3 : decode cX0_passDay 3 = .ok (.istore_n 2, 1) := by decide +kernel
theorem dX0_passDay_4 : decode cX0_passDay 4 = .ok (.iload_n 2, 1) := by decide +kernel
theorem dX0_passDay_5 : decode cX0_passDay 5 = .ok (.iconst 4, 1) := by decide +kernel
theorem dX0_passDay_6 : decode cX0_passDay 6 = .ok (.if_icmp .ge 61, 3) := by decide +kernel
theorem dX0_passDay_9 : decode cX0_passDay 9 = .ok (.aload_n 0, 1) := by decide +kernel
theorem dX0_passDay_10 : decode cX0_passDay 10 = .ok (.aload_n 0, 1) := by decide +kernel
theorem dX0_passDay_11 : decode cX0_passDay 11 = .ok (.getfield 22, 3) := by decide +kernel
theorem dX0_passDay_14 : decode cX0_passDay 14 = .ok (.iload_n 2, 1) := by decide +kernel
theorem dX0_passDay_15 : decode cX0_passDay 15 = .ok (.iaload, 1) := by decide +kernel
theorem dX0_passDay_16 : decode cX0_passDay 16 = .ok (.invokevirtual 64, 3) := by decide +kernel
theorem dX0_passDay_19 : decode cX0_passDay 19 = .ok (.istore_n 3, 1) := by decide +kernel
theorem dX0_passDay_20 : decode cX0_passDay 20 = .ok (.iload_n 3, 1) := by decide +kernel
theorem dX0_passDay_21 : decode cX0_passDay 21 = .ok (.iconst (-1), 1) := by decide +kernel
theorem dX0_passDay_22 : decode cX0_passDay 22 = .ok (.if_icmp .eq 26, 3) := by decide +kernel
theorem dX0_passDay_25 : decode cX0_passDay 25 = .ok (.aload_n 0, 1) := by decide +kernel
theorem dX0_passDay_26 : decode cX0_passDay 26 = .ok (.getfield 25, 3) := by decide +kernel
theorem dX0_passDay_29 : decode cX0_passDay 29 = .ok (.iload_n 2, 1) := by decide +kernel
theorem dX0_passDay_30 : decode cX0_passDay 30 = .ok (.dup2, 1) := by decide +kernel
theorem dX0_passDay_31 : decode cX0_passDay 31 = .ok (.iaload, 1) := by decide +kernel
theorem dX0_passDay_32 : decode cX0_passDay 32 = .ok (.iconst 1, 1) := by decide +kernel
theorem dX0_passDay_33 : decode cX0_passDay 33 = .ok (.iadd, 1) := by decide +kernel
theorem dX0_passDay_34 : decode cX0_passDay 34 = .ok (.iastore, 1) := by decide +kernel
theorem dX0_passDay_35 : decode cX0_passDay 35 = .ok (.aload_n 0, 1) := by decide +kernel
theorem dX0_passDay_36 : decode cX0_passDay 36 = .ok (.getfield 22, 3) := by decide +kernel
theorem dX0_passDay_39 : decode cX0_passDay 39 = .ok (.iload_n 2, 1) := by decide +kernel
theorem dX0_passDay_40 : decode cX0_passDay 40 = .ok (.aload_n 0, 1) := by decide +kernel
theorem dX0_passDay_41 : decode cX0_passDay 41 = .ok (.iload_n 3, 1) := by decide +kernel
theorem dX0_passDay_42 : decode cX0_passDay 42 = .ok (.iconst 1, 1) := by decide +kernel
theorem dX0_passDay_43 : decode cX0_passDay 43 = .ok (.iadd, 1) := by decide +kernel
theorem dX0_passDay_44 : decode cX0_passDay 44 = .ok (.invokevirtual 43, 3) := by decide +kernel
theorem dX0_passDay_47 : decode cX0_passDay 47 = .ok (.iastore, 1) := by decide +kernel
theorem dX0_passDay_48 : decode cX0_passDay 48 = .ok (.aload_n 0, 1) := by decide +kernel
theorem dX0_passDay_49 : decode cX0_passDay 49 = .ok (.getfield 22, 3) := by decide +kernel
theorem dX0_passDay_52 : decode cX0_passDay 52 = .ok (.iload_n 2, 1) := by decide +kernel
theorem dX0_passDay_53 : decode cX0_passDay 53 = .ok (.iaload, 1) := by decide +kernel
theorem dX0_passDay_54 : decode cX0_passDay 54 = .ok (.iconst (-1), 1) := by decide +kernel
theorem dX0_passDay_55 : decode cX0_passDay 55 = .ok (.if_icmp .eq 6, 3) := by decide +kernel
theorem dX0_passDay_58 : decode cX0_passDay 58 = .ok (.iinc 1 1, 3) := by decide +kernel
theorem dX0_passDay_61 : decode cX0_passDay 61 = .ok (.iinc 2 1, 3) := by decide +kernel
theorem dX0_passDay_64 : decode cX0_passDay 64 = .ok (.goto (-60), 3) := by decide +kernel
theorem dX0_passDay_67 : decode cX0_passDay 67 = .ok (.iload_n 1, 1) := by decide +kernel
theorem dX0_passDay_68 : decode cX0_passDay 68 = .ok (.ireturn, 1) := by decide +kernel
set_option maxRecDepth 20000 in
theorem ggX0_at_X0_requireReader : GoodIn wsX0_at wsX0_requireReader := goodIn_ca (goodIn_r _ [5, 6, 7] (by decide +kernel) (by decide +kernel)) (goodIn_sub (fun _ h => List.mem_cons_of_mem _ (List.mem_append_right _ h)) (by decide +kernel))
set_option maxRecDepth 20000 in
theorem gX0_at_X0_requireReader : GoodIn wsX0_at (va_wsS RX0 98 yX0_requireReader wsX0_requireReader) := goodIn_app (goodIn_of _ (by decide +kernel)) ggX0_at_X0_requireReader
theorem dX0_at_0 : decode cX0_at 0 = .ok (.iload_n 1, 1) := by decide +kernel
theorem dX0_at_1 : decode cX0_at 1 = .ok (.invokestatic 98, 3) := by decide +kernel
theorem dX0_at_4 : decode cX0_at 4 = .ok (.aload_n 0, 1) := by decide +kernel
theorem dX0_at_5 : decode cX0_at 5 = .ok (.getfield 22, 3) := by decide +kernel
theorem dX0_at_8 : decode cX0_at 8 = .ok (.iload_n 1, 1) := by decide +kernel
theorem dX0_at_9 : decode cX0_at 9 = .ok (.iaload, 1) := by decide +kernel
theorem dX0_at_10 : decode cX0_at 10 = .ok (.ireturn, 1) := by decide +kernel
set_option maxRecDepth 20000 in
theorem ggX0_read_X0_requireReader : GoodIn wsX0_read wsX0_requireReader := goodIn_ca (goodIn_r _ [5, 6, 7] (by decide +kernel) (by decide +kernel)) (goodIn_sub (fun _ h => List.mem_cons_of_mem _ (List.mem_append_right _ h)) (by decide +kernel))
set_option maxRecDepth 20000 in
theorem gX0_read_X0_requireReader : GoodIn wsX0_read (va_wsS RX0 98 yX0_requireReader wsX0_requireReader) := goodIn_app (goodIn_of _ (by decide +kernel)) ggX0_read_X0_requireReader
theorem dX0_read_0 : decode cX0_read 0 = .ok (.iload_n 1, 1) := by decide +kernel
theorem dX0_read_1 : decode cX0_read 1 = .ok (.invokestatic 98, 3) := by decide +kernel
theorem dX0_read_4 : decode cX0_read 4 = .ok (.aload_n 0, 1) := by decide +kernel
theorem dX0_read_5 : decode cX0_read 5 = .ok (.getfield 25, 3) := by decide +kernel
theorem dX0_read_8 : decode cX0_read 8 = .ok (.iload_n 1, 1) := by decide +kernel
theorem dX0_read_9 : decode cX0_read 9 = .ok (.iaload, 1) := by decide +kernel
theorem dX0_read_10 : decode cX0_read 10 = .ok (.ireturn, 1) := by decide +kernel
set_option maxRecDepth 20000 in
theorem ggX0_requirePlace_X0_placeOf : GoodIn wsX0_requirePlace wsX0_placeOf := goodIn_r _ [7, 8, 9, 10, 11, 12, 13, 14, 15, 16, 17] (by decide +kernel) (by decide +kernel)
set_option maxRecDepth 20000 in
theorem gX0_requirePlace_X0_placeOf : GoodIn wsX0_requirePlace (wsV RX0 64 RX0 yX0_placeOf wsX0_placeOf) := goodIn_app (goodIn_of _ (by decide +kernel)) ggX0_requirePlace_X0_placeOf
theorem dX0_requirePlace_0 : decode cX0_requirePlace 0 = .ok (.aload_n 0, 1) := by decide +kernel
theorem dX0_requirePlace_1 : decode cX0_requirePlace 1 = .ok (.iload_n 1, 1) := by decide +kernel
theorem dX0_requirePlace_2 : decode cX0_requirePlace 2 = .ok (.invokevirtual 64, 3) := by decide +kernel
theorem dX0_requirePlace_5 : decode cX0_requirePlace 5 = .ok (.istore_n 2, 1) := by decide +kernel
theorem dX0_requirePlace_6 : decode cX0_requirePlace 6 = .ok (.iload_n 2, 1) := by decide +kernel
theorem dX0_requirePlace_7 : decode cX0_requirePlace 7 = .ok (.iconst (-1), 1) := by decide +kernel
theorem dX0_requirePlace_8 : decode cX0_requirePlace 8 = .ok (.if_icmp .ne 13, 3) := by decide +kernel
theorem dX0_requirePlace_11 : decode cX0_requirePlace 11 = .ok (.new 79, 3) := by decide +kernel
theorem dX0_requirePlace_14 : decode cX0_requirePlace 14 = .ok (.dup, 1) := by decide +kernel
theorem dX0_requirePlace_15 : decode cX0_requirePlace 15 = .ok (.ldc 104, 2) := by decide +kernel
theorem dX0_requirePlace_17 : decode cX0_requirePlace 17 = .ok (.invokespecial 83, 3) := by decide +kernel
theorem dX0_requirePlace_20 : decode cX0_requirePlace 20 = .ok (.athrow, 1) := by decide +kernel
theorem dX0_requirePlace_21 : decode cX0_requirePlace 21 = .ok (.iload_n 2, 1) := by decide +kernel
theorem dX0_requirePlace_22 : decode cX0_requirePlace 22 = .ok (.ireturn, 1) := by decide +kernel
theorem dX0_requireThatOneMayCome_0 : decode cX0_requireThatOneMayCome 0 = .ok (.aload_n 0, 1) := by decide +kernel
theorem dX0_requireThatOneMayCome_1 : decode cX0_requireThatOneMayCome 1 = .ok (.getfield 106, 3) := by decide +kernel
theorem dX0_requireThatOneMayCome_4 : decode cX0_requireThatOneMayCome 4 = .ok (.sipush 200, 3) := by decide +kernel
theorem dX0_requireThatOneMayCome_7 : decode cX0_requireThatOneMayCome 7 = .ok (.if_icmp .ge 12, 3) := by decide +kernel
theorem dX0_requireThatOneMayCome_10 : decode cX0_requireThatOneMayCome 10 = .ok (.aload_n 0, 1) := by decide +kernel
theorem dX0_requireThatOneMayCome_11 : decode cX0_requireThatOneMayCome 11 = .ok (.getfield 53, 3) := by decide +kernel
theorem dX0_requireThatOneMayCome_14 : decode cX0_requireThatOneMayCome 14 = .ok (.bipush 60, 2) := by decide +kernel
theorem dX0_requireThatOneMayCome_16 : decode cX0_requireThatOneMayCome 16 = .ok (.if_icmp .lt 13, 3) := by decide +kernel
theorem dX0_requireThatOneMayCome_19 : decode cX0_requireThatOneMayCome 19 = .ok (.new 109, 3) := by decide +kernel
theorem dX0_requireThatOneMayCome_22 : decode cX0_requireThatOneMayCome 22 = .ok (.dup, 1) := by decide +kernel
theorem dX0_requireThatOneMayCome_23 : decode cX0_requireThatOneMayCome 23 = .ok (.ldc 111, 2) := by decide +kernel
theorem dX0_requireThatOneMayCome_25 : decode cX0_requireThatOneMayCome 25 = .ok (.invokespecial 113, 3) := by decide +kernel
theorem dX0_requireThatOneMayCome_28 : decode cX0_requireThatOneMayCome 28 = .ok (.athrow, 1) := by decide +kernel
theorem dX0_requireThatOneMayCome_29 : decode cX0_requireThatOneMayCome 29 = .ok (.return_, 1) := by decide +kernel
theorem dX0_requireReader_0 : decode cX0_requireReader 0 = .ok (.iload_n 0, 1) := by decide +kernel
theorem dX0_requireReader_1 : decode cX0_requireReader 1 = .ok (.ifCond .lt 8, 3) := by decide +kernel
theorem dX0_requireReader_4 : decode cX0_requireReader 4 = .ok (.iload_n 0, 1) := by decide +kernel
theorem dX0_requireReader_5 : decode cX0_requireReader 5 = .ok (.iconst 4, 1) := by decide +kernel
theorem dX0_requireReader_6 : decode cX0_requireReader 6 = .ok (.if_icmp .lt 13, 3) := by decide +kernel
theorem dX0_requireReader_9 : decode cX0_requireReader 9 = .ok (.new 79, 3) := by decide +kernel
theorem dX0_requireReader_12 : decode cX0_requireReader 12 = .ok (.dup, 1) := by decide +kernel
theorem dX0_requireReader_13 : decode cX0_requireReader 13 = .ok (.ldc 116, 2) := by decide +kernel
theorem dX0_requireReader_15 : decode cX0_requireReader 15 = .ok (.invokespecial 83, 3) := by decide +kernel
theorem dX0_requireReader_18 : decode cX0_requireReader 18 = .ok (.athrow, 1) := by decide +kernel
theorem dX0_requireReader_19 : decode cX0_requireReader 19 = .ok (.return_, 1) := by decide +kernel
theorem dX0_isPlace_0 : decode cX0_isPlace 0 = .ok (.iload_n 1, 1) := by decide +kernel
theorem dX0_isPlace_1 : decode cX0_isPlace 1 = .ok (.ifCond .lt 33, 3) := by decide +kernel
theorem dX0_isPlace_4 : decode cX0_isPlace 4 = .ok (.iload_n 1, 1) := by decide +kernel
theorem dX0_isPlace_5 : decode cX0_isPlace 5 = .ok (.aload_n 0, 1) := by decide +kernel
theorem dX0_isPlace_6 : decode cX0_isPlace 6 = .ok (.getfield 53, 3) := by decide +kernel
theorem dX0_isPlace_9 : decode cX0_isPlace 9 = .ok (.if_icmp .ge 25, 3) := by decide +kernel
theorem dX0_isPlace_12 : decode cX0_isPlace 12 = .ok (.iload_n 1, 1) := by decide +kernel
theorem dX0_isPlace_13 : decode cX0_isPlace 13 = .ok (.aload_n 0, 1) := by decide +kernel
theorem dX0_isPlace_14 : decode cX0_isPlace 14 = .ok (.getfield 9, 3) := by decide +kernel
theorem dX0_isPlace_17 : decode cX0_isPlace 17 = .ok (.arraylength, 1) := by decide +kernel
theorem dX0_isPlace_18 : decode cX0_isPlace 18 = .ok (.if_icmp .ge 16, 3) := by decide +kernel
theorem dX0_isPlace_21 : decode cX0_isPlace 21 = .ok (.iload_n 1, 1) := by decide +kernel
theorem dX0_isPlace_22 : decode cX0_isPlace 22 = .ok (.aload_n 0, 1) := by decide +kernel
theorem dX0_isPlace_23 : decode cX0_isPlace 23 = .ok (.getfield 13, 3) := by decide +kernel
theorem dX0_isPlace_26 : decode cX0_isPlace 26 = .ok (.arraylength, 1) := by decide +kernel
theorem dX0_isPlace_27 : decode cX0_isPlace 27 = .ok (.if_icmp .ge 7, 3) := by decide +kernel
theorem dX0_isPlace_30 : decode cX0_isPlace 30 = .ok (.iconst 1, 1) := by decide +kernel
theorem dX0_isPlace_31 : decode cX0_isPlace 31 = .ok (.goto 4, 3) := by decide +kernel
theorem dX0_isPlace_34 : decode cX0_isPlace 34 = .ok (.iconst 0, 1) := by decide +kernel
theorem dX0_isPlace_35 : decode cX0_isPlace 35 = .ok (.ireturn, 1) := by decide +kernel
theorem dX0_placeOf_0 : decode cX0_placeOf 0 = .ok (.iconst 0, 1) := by decide +kernel
theorem dX0_placeOf_1 : decode cX0_placeOf 1 = .ok (.istore_n 2, 1) := by decide +kernel
theorem dX0_placeOf_2 : decode cX0_placeOf 2 = .ok (.iload_n 2, 1) := by decide +kernel
theorem dX0_placeOf_3 : decode cX0_placeOf 3 = .ok (.aload_n 0, 1) := by decide +kernel
theorem dX0_placeOf_4 : decode cX0_placeOf 4 = .ok (.getfield 53, 3) := by decide +kernel
theorem dX0_placeOf_7 : decode cX0_placeOf 7 = .ok (.if_icmp .ge 30, 3) := by decide +kernel
theorem dX0_placeOf_10 : decode cX0_placeOf 10 = .ok (.iload_n 2, 1) := by decide +kernel
theorem dX0_placeOf_11 : decode cX0_placeOf 11 = .ok (.aload_n 0, 1) := by decide +kernel
theorem dX0_placeOf_12 : decode cX0_placeOf 12 = .ok (.getfield 9, 3) := by decide +kernel
theorem dX0_placeOf_15 : decode cX0_placeOf 15 = .ok (.arraylength, 1) := by decide +kernel
theorem dX0_placeOf_16 : decode cX0_placeOf 16 = .ok (.if_icmp .ge 21, 3) := by decide +kernel
theorem dX0_placeOf_19 : decode cX0_placeOf 19 = .ok (.aload_n 0, 1) := by decide +kernel
theorem dX0_placeOf_20 : decode cX0_placeOf 20 = .ok (.getfield 9, 3) := by decide +kernel
theorem dX0_placeOf_23 : decode cX0_placeOf 23 = .ok (.iload_n 2, 1) := by decide +kernel
theorem dX0_placeOf_24 : decode cX0_placeOf 24 = .ok (.iaload, 1) := by decide +kernel
theorem dX0_placeOf_25 : decode cX0_placeOf 25 = .ok (.iload_n 1, 1) := by decide +kernel
theorem dX0_placeOf_26 : decode cX0_placeOf 26 = .ok (.if_icmp .ne 5, 3) := by decide +kernel
theorem dX0_placeOf_29 : decode cX0_placeOf 29 = .ok (.iload_n 2, 1) := by decide +kernel
theorem dX0_placeOf_30 : decode cX0_placeOf 30 = .ok (.ireturn, 1) := by decide +kernel
theorem dX0_placeOf_31 : decode cX0_placeOf 31 = .ok (.iinc 2 1, 3) := by decide +kernel
theorem dX0_placeOf_34 : decode cX0_placeOf 34 = .ok (.goto (-32), 3) := by decide +kernel
theorem dX0_placeOf_37 : decode cX0_placeOf 37 = .ok (.iconst (-1), 1) := by decide +kernel
theorem dX0_placeOf_38 : decode cX0_placeOf 38 = .ok (.ireturn, 1) := by decide +kernel
set_option maxRecDepth 20000 in
theorem ggX0_folderAt_X0_isPlace : GoodIn wsX0_folderAt wsX0_isPlace := goodIn_r _ [6, 7, 1, 8, 9, 10, 11, 12, 13, 14, 15, 16] (by decide +kernel) (by decide +kernel)
set_option maxRecDepth 20000 in
theorem gX0_folderAt_X0_isPlace : GoodIn wsX0_folderAt (wsV RX0 118 RX0 yX0_isPlace wsX0_isPlace) := goodIn_app (goodIn_of _ (by decide +kernel)) ggX0_folderAt_X0_isPlace
theorem dX0_folderAt_0 : decode cX0_folderAt 0 = .ok (.aload_n 0, 1) := by decide +kernel
theorem dX0_folderAt_1 : decode cX0_folderAt 1 = .ok (.iload_n 1, 1) := by decide +kernel
theorem dX0_folderAt_2 : decode cX0_folderAt 2 = .ok (.invokevirtual 118, 3) := by decide +kernel
theorem dX0_folderAt_5 : decode cX0_folderAt 5 = .ok (.ifCond .eq 12, 3) := by decide +kernel
theorem dX0_folderAt_8 : decode cX0_folderAt 8 = .ok (.aload_n 0, 1) := by decide +kernel
theorem dX0_folderAt_9 : decode cX0_folderAt 9 = .ok (.getfield 9, 3) := by decide +kernel
theorem dX0_folderAt_12 : decode cX0_folderAt 12 = .ok (.iload_n 1, 1) := by decide +kernel
theorem dX0_folderAt_13 : decode cX0_folderAt 13 = .ok (.iaload, 1) := by decide +kernel
theorem dX0_folderAt_14 : decode cX0_folderAt 14 = .ok (.goto 4, 3) := by decide +kernel
theorem dX0_folderAt_17 : decode cX0_folderAt 17 = .ok (.iconst (-1), 1) := by decide +kernel
theorem dX0_folderAt_18 : decode cX0_folderAt 18 = .ok (.ireturn, 1) := by decide +kernel
set_option maxRecDepth 20000 in
theorem ggX0_markAt_X0_isPlace : GoodIn wsX0_markAt wsX0_isPlace := goodIn_r _ [6, 7, 8, 1, 9, 10, 11, 12, 13, 14, 15, 16] (by decide +kernel) (by decide +kernel)
set_option maxRecDepth 20000 in
theorem gX0_markAt_X0_isPlace : GoodIn wsX0_markAt (wsV RX0 118 RX0 yX0_isPlace wsX0_isPlace) := goodIn_app (goodIn_of _ (by decide +kernel)) ggX0_markAt_X0_isPlace
theorem dX0_markAt_0 : decode cX0_markAt 0 = .ok (.iload_n 1, 1) := by decide +kernel
theorem dX0_markAt_1 : decode cX0_markAt 1 = .ok (.ifCond .ge 5, 3) := by decide +kernel
theorem dX0_markAt_4 : decode cX0_markAt 4 = .ok (.iconst (-1), 1) := by decide +kernel
theorem dX0_markAt_5 : decode cX0_markAt 5 = .ok (.ireturn, 1) := by decide +kernel
theorem dX0_markAt_6 : decode cX0_markAt 6 = .ok (.aload_n 0, 1) := by decide +kernel
theorem dX0_markAt_7 : decode cX0_markAt 7 = .ok (.iload_n 1, 1) := by decide +kernel
theorem dX0_markAt_8 : decode cX0_markAt 8 = .ok (.invokevirtual 118, 3) := by decide +kernel
theorem dX0_markAt_11 : decode cX0_markAt 11 = .ok (.ifCond .eq 12, 3) := by decide +kernel
theorem dX0_markAt_14 : decode cX0_markAt 14 = .ok (.aload_n 0, 1) := by decide +kernel
theorem dX0_markAt_15 : decode cX0_markAt 15 = .ok (.getfield 13, 3) := by decide +kernel
theorem dX0_markAt_18 : decode cX0_markAt 18 = .ok (.iload_n 1, 1) := by decide +kernel
theorem dX0_markAt_19 : decode cX0_markAt 19 = .ok (.iaload, 1) := by decide +kernel
theorem dX0_markAt_20 : decode cX0_markAt 20 = .ok (.goto 6, 3) := by decide +kernel
theorem dX0_markAt_23 : decode cX0_markAt 23 = .ok (.sipush 256, 3) := by decide +kernel
theorem dX0_markAt_26 : decode cX0_markAt 26 = .ok (.ireturn, 1) := by decide +kernel
set_option maxRecDepth 20000 in
theorem ggX0_set_X0_isPlace : GoodIn wsX0_set wsX0_isPlace := goodIn_r _ [7, 8, 1, 2, 9, 10, 11, 12, 13, 14, 15, 16] (by decide +kernel) (by decide +kernel)
set_option maxRecDepth 20000 in
theorem gX0_set_X0_isPlace : GoodIn wsX0_set (wsV RX0 118 RX0 yX0_isPlace wsX0_isPlace) := goodIn_app (goodIn_of _ (by decide +kernel)) ggX0_set_X0_isPlace
theorem dX0_set_0 : decode cX0_set 0 = .ok (.aload_n 0, 1) := by decide +kernel
theorem dX0_set_1 : decode cX0_set 1 = .ok (.iload_n 1, 1) := by decide +kernel
theorem dX0_set_2 : decode cX0_set 2 = .ok (.invokevirtual 118, 3) := by decide +kernel
theorem dX0_set_5 : decode cX0_set 5 = .ok (.ifCond .eq 17, 3) := by decide +kernel
theorem dX0_set_8 : decode cX0_set 8 = .ok (.aload_n 0, 1) := by decide +kernel
theorem dX0_set_9 : decode cX0_set 9 = .ok (.getfield 9, 3) := by decide +kernel
theorem dX0_set_12 : decode cX0_set 12 = .ok (.iload_n 1, 1) := by decide +kernel
theorem dX0_set_13 : decode cX0_set 13 = .ok (.iload_n 2, 1) := by decide +kernel
theorem dX0_set_14 : decode cX0_set 14 = .ok (.iastore, 1) := by decide +kernel
theorem dX0_set_15 : decode cX0_set 15 = .ok (.aload_n 0, 1) := by decide +kernel
theorem dX0_set_16 : decode cX0_set 16 = .ok (.getfield 13, 3) := by decide +kernel
theorem dX0_set_19 : decode cX0_set 19 = .ok (.iload_n 1, 1) := by decide +kernel
theorem dX0_set_20 : decode cX0_set 20 = .ok (.iload_n 3, 1) := by decide +kernel
theorem dX0_set_21 : decode cX0_set 21 = .ok (.iastore, 1) := by decide +kernel
theorem dX0_set_22 : decode cX0_set 22 = .ok (.return_, 1) := by decide +kernel
set_option maxRecDepth 20000 in
theorem ggX0_insertAt_X0_folderAt : GoodIn wsX0_insertAt wsX0_folderAt := goodIn_r _ [6, 7, 8, 9, 10, 5, 11, 1, 12, 21, 22, 23, 24, 25, 26, 27, 28] (by decide +kernel) (by decide +kernel)
set_option maxRecDepth 20000 in
theorem gX0_insertAt_X0_folderAt : GoodIn wsX0_insertAt (wsV RX0 43 RX0 yX0_folderAt wsX0_folderAt) := goodIn_app (goodIn_of _ (by decide +kernel)) ggX0_insertAt_X0_folderAt
set_option maxRecDepth 20000 in
theorem ggX0_insertAt_X0_markAt : GoodIn wsX0_insertAt wsX0_markAt := goodIn_r _ [16, 12, 8, 9, 10, 5, 11, 1, 7, 21, 22, 23, 24, 25, 26, 27, 28] (by decide +kernel) (by decide +kernel)
set_option maxRecDepth 20000 in
theorem gX0_insertAt_X0_markAt : GoodIn wsX0_insertAt (wsV RX0 67 RX0 yX0_markAt wsX0_markAt) := goodIn_app (goodIn_of _ (by decide +kernel)) ggX0_insertAt_X0_markAt
set_option maxRecDepth 20000 in
theorem ggX0_insertAt_X0_set : GoodIn wsX0_insertAt wsX0_set := goodIn_r _ [20, 7, 12, 8, 9, 10, 5, 11, 1, 21, 22, 23, 24, 25, 26, 27, 28] (by decide +kernel) (by decide +kernel)
set_option maxRecDepth 20000 in
theorem gX0_insertAt_X0_set : GoodIn wsX0_insertAt (wsV RX0 122 RX0 yX0_set wsX0_set) := goodIn_app (goodIn_of _ (by decide +kernel)) ggX0_insertAt_X0_set
theorem dX0_insertAt_0 : decode cX0_insertAt 0 = .ok (.iload_n 1, 1) := by decide +kernel
theorem dX0_insertAt_1 : decode cX0_insertAt 1 = .ok (.ifCond .lt 20, 3) := by decide +kernel
theorem dX0_insertAt_4 : decode cX0_insertAt 4 = .ok (.iload_n 1, 1) := by decide +kernel
theorem dX0_insertAt_5 : decode cX0_insertAt 5 = .ok (.aload_n 0, 1) := by decide +kernel
theorem dX0_insertAt_6 : decode cX0_insertAt 6 = .ok (.getfield 53, 3) := by decide +kernel
theorem dX0_insertAt_9 : decode cX0_insertAt 9 = .ok (.if_icmp .gt 12, 3) := by decide +kernel
theorem dX0_insertAt_12 : decode cX0_insertAt 12 = .ok (.aload_n 0, 1) := by decide +kernel
theorem dX0_insertAt_13 : decode cX0_insertAt 13 = .ok (.getfield 53, 3) := by decide +kernel
theorem dX0_insertAt_16 : decode cX0_insertAt 16 = .ok (.bipush 60, 2) := by decide +kernel
theorem dX0_insertAt_18 : decode cX0_insertAt 18 = .ok (.if_icmp .lt 4, 3) := by decide +kernel
theorem dX0_insertAt_21 : decode cX0_insertAt 21 = .ok (.return_, 1) := by decide +kernel
theorem dX0_insertAt_22 : decode cX0_insertAt 22 = .ok (.aload_n 0, 1) := by decide +kernel
theorem dX0_insertAt_23 : decode cX0_insertAt 23 = .ok (.dup, 1) := by decide +kernel
theorem dX0_insertAt_24 : decode cX0_insertAt 24 = .ok (.getfield 53, 3) := by decide +kernel
theorem dX0_insertAt_27 : decode cX0_insertAt 27 = .ok (.iconst 1, 1) := by decide +kernel
theorem dX0_insertAt_28 : decode cX0_insertAt 28 = .ok (.iadd, 1) := by decide +kernel
theorem dX0_insertAt_29 : decode cX0_insertAt 29 = .ok (.putfield 53, 3) := by decide +kernel
theorem dX0_insertAt_32 : decode cX0_insertAt 32 = .ok (.aload_n 0, 1) := by decide +kernel
theorem dX0_insertAt_33 : decode cX0_insertAt 33 = .ok (.getfield 53, 3) := by decide +kernel
theorem dX0_insertAt_36 : decode cX0_insertAt 36 = .ok (.iconst 1, 1) := by decide +kernel
theorem dX0_insertAt_37 : decode cX0_insertAt 37 = .ok (.isub, 1) := by decide +kernel
theorem dX0_insertAt_38 : decode cX0_insertAt 38 = .ok (.istore 4, 2) := by decide +kernel
theorem dX0_insertAt_40 : decode cX0_insertAt 40 = .ok (.iload 4, 2) := by decide +kernel
theorem dX0_insertAt_42 : decode cX0_insertAt 42 = .ok (.iload_n 1, 1) := by decide +kernel
theorem dX0_insertAt_43 : decode cX0_insertAt 43 = .ok (.if_icmp .le 31, 3) := by decide +kernel
theorem dX0_insertAt_46 : decode cX0_insertAt 46 = .ok (.aload_n 0, 1) := by decide +kernel
theorem dX0_insertAt_47 : decode cX0_insertAt 47 = .ok (.iload 4, 2) := by decide +kernel
theorem dX0_insertAt_49 : decode cX0_insertAt 49 = .ok (.aload_n 0, 1) := by decide +kernel
theorem dX0_insertAt_50 : decode cX0_insertAt 50 = .ok (.iload 4, 2) := by decide +kernel
theorem dX0_insertAt_52 : decode cX0_insertAt 52 = .ok (.iconst 1, 1) := by decide +kernel
theorem dX0_insertAt_53 : decode cX0_insertAt 53 = .ok (.isub, 1) := by decide +kernel
theorem dX0_insertAt_54 : decode cX0_insertAt 54 = .ok (.invokevirtual 43, 3) := by decide +kernel
theorem dX0_insertAt_57 : decode cX0_insertAt 57 = .ok (.aload_n 0, 1) := by decide +kernel
theorem dX0_insertAt_58 : decode cX0_insertAt 58 = .ok (.iload 4, 2) := by decide +kernel
theorem dX0_insertAt_60 : decode cX0_insertAt 60 = .ok (.iconst 1, 1) := by decide +kernel
theorem dX0_insertAt_61 : decode cX0_insertAt 61 = .ok (.isub, 1) := by decide +kernel
theorem dX0_insertAt_62 : decode cX0_insertAt 62 = .ok (.invokevirtual 67, 3) := by decide +kernel
theorem dX0_insertAt_65 : decode cX0_insertAt 65 = .ok (.invokevirtual 122, 3) := by decide +kernel
theorem dX0_insertAt_68 : decode cX0_insertAt 68 = .ok (.iinc 4 (-1), 3) := by decide +kernel
theorem dX0_insertAt_71 : decode cX0_insertAt 71 = .ok (.goto (-31), 3) := by decide +kernel
theorem dX0_insertAt_74 : decode cX0_insertAt 74 = .ok (.aload_n 0, 1) := by decide +kernel
theorem dX0_insertAt_75 : decode cX0_insertAt 75 = .ok (.iload_n 1, 1) := by decide +kernel
theorem dX0_insertAt_76 : decode cX0_insertAt 76 = .ok (.iload_n 2, 1) := by decide +kernel
theorem dX0_insertAt_77 : decode cX0_insertAt 77 = .ok (.iload_n 3, 1) := by decide +kernel
theorem dX0_insertAt_78 : decode cX0_insertAt 78 = .ok (.invokevirtual 122, 3) := by decide +kernel
theorem dX0_insertAt_81 : decode cX0_insertAt 81 = .ok (.return_, 1) := by decide +kernel
set_option maxRecDepth 20000 in
theorem ggX0_removeAt_X0_isPlace : GoodIn wsX0_removeAt wsX0_isPlace := goodIn_r _ [6, 1, 7, 8, 21, 22, 23, 24, 25, 26, 27, 28] (by decide +kernel) (by decide +kernel)
set_option maxRecDepth 20000 in
theorem gX0_removeAt_X0_isPlace : GoodIn wsX0_removeAt (wsV RX0 118 RX0 yX0_isPlace wsX0_isPlace) := goodIn_app (goodIn_of _ (by decide +kernel)) ggX0_removeAt_X0_isPlace
set_option maxRecDepth 20000 in
theorem ggX0_removeAt_X0_folderAt : GoodIn wsX0_removeAt wsX0_folderAt := goodIn_r _ [12, 7, 2, 3, 4, 5, 6, 1, 8, 21, 22, 23, 24, 25, 26, 27, 28] (by decide +kernel) (by decide +kernel)
set_option maxRecDepth 20000 in
theorem gX0_removeAt_X0_folderAt : GoodIn wsX0_removeAt (wsV RX0 43 RX0 yX0_folderAt wsX0_folderAt) := goodIn_app (goodIn_of _ (by decide +kernel)) ggX0_removeAt_X0_folderAt
set_option maxRecDepth 20000 in
theorem ggX0_removeAt_X0_markAt : GoodIn wsX0_removeAt wsX0_markAt := goodIn_r _ [16, 8, 2, 3, 4, 5, 6, 1, 7, 21, 22, 23, 24, 25, 26, 27, 28] (by decide +kernel) (by decide +kernel)
set_option maxRecDepth 20000 in
theorem gX0_removeAt_X0_markAt : GoodIn wsX0_removeAt (wsV RX0 67 RX0 yX0_markAt wsX0_markAt) := goodIn_app (goodIn_of _ (by decide +kernel)) ggX0_removeAt_X0_markAt
set_option maxRecDepth 20000 in
theorem ggX0_removeAt_X0_set : GoodIn wsX0_removeAt wsX0_set := goodIn_r _ [20, 7, 8, 2, 3, 4, 5, 6, 1, 21, 22, 23, 24, 25, 26, 27, 28] (by decide +kernel) (by decide +kernel)
set_option maxRecDepth 20000 in
theorem gX0_removeAt_X0_set : GoodIn wsX0_removeAt (wsV RX0 122 RX0 yX0_set wsX0_set) := goodIn_app (goodIn_of _ (by decide +kernel)) ggX0_removeAt_X0_set
theorem dX0_removeAt_0 : decode cX0_removeAt 0 = .ok (.aload_n 0, 1) := by decide +kernel
theorem dX0_removeAt_1 : decode cX0_removeAt 1 = .ok (.iload_n 1, 1) := by decide +kernel
theorem dX0_removeAt_2 : decode cX0_removeAt 2 = .ok (.invokevirtual 118, 3) := by decide +kernel
theorem dX0_removeAt_5 : decode cX0_removeAt 5 = .ok (.ifCond .ne 4, 3) := by decide +kernel
theorem dX0_removeAt_8 : decode cX0_removeAt 8 = .ok (.return_, 1) := by decide +kernel
theorem dX0_removeAt_9 : decode cX0_removeAt 9 = .ok (.iload_n 1, 1) := by decide +kernel
theorem dX0_removeAt_10 : decode cX0_removeAt 10 = .ok (.istore_n 2, 1) := by decide +kernel
theorem dX0_removeAt_11 : decode cX0_removeAt 11 = .ok (.iload_n 2, 1) := by decide +kernel
theorem dX0_removeAt_12 : decode cX0_removeAt 12 = .ok (.aload_n 0, 1) := by decide +kernel
theorem dX0_removeAt_13 : decode cX0_removeAt 13 = .ok (.getfield 53, 3) := by decide +kernel
theorem dX0_removeAt_16 : decode cX0_removeAt 16 = .ok (.iconst 1, 1) := by decide +kernel
theorem dX0_removeAt_17 : decode cX0_removeAt 17 = .ok (.isub, 1) := by decide +kernel
theorem dX0_removeAt_18 : decode cX0_removeAt 18 = .ok (.if_icmp .ge 28, 3) := by decide +kernel
theorem dX0_removeAt_21 : decode cX0_removeAt 21 = .ok (.aload_n 0, 1) := by decide +kernel
theorem dX0_removeAt_22 : decode cX0_removeAt 22 = .ok (.iload_n 2, 1) := by decide +kernel
theorem dX0_removeAt_23 : decode cX0_removeAt 23 = .ok (.aload_n 0, 1) := by decide +kernel
theorem dX0_removeAt_24 : decode cX0_removeAt 24 = .ok (.iload_n 2, 1) := by decide +kernel
theorem dX0_removeAt_25 : decode cX0_removeAt 25 = .ok (.iconst 1, 1) := by decide +kernel
theorem dX0_removeAt_26 : decode cX0_removeAt 26 = .ok (.iadd, 1) := by decide +kernel
theorem dX0_removeAt_27 : decode cX0_removeAt 27 = .ok (.invokevirtual 43, 3) := by decide +kernel
theorem dX0_removeAt_30 : decode cX0_removeAt 30 = .ok (.aload_n 0, 1) := by decide +kernel
theorem dX0_removeAt_31 : decode cX0_removeAt 31 = .ok (.iload_n 2, 1) := by decide +kernel
theorem dX0_removeAt_32 : decode cX0_removeAt 32 = .ok (.iconst 1, 1) := by decide +kernel
theorem dX0_removeAt_33 : decode cX0_removeAt 33 = .ok (.iadd, 1) := by decide +kernel
theorem dX0_removeAt_34 : decode cX0_removeAt 34 = .ok (.invokevirtual 67, 3) := by decide +kernel
theorem dX0_removeAt_37 : decode cX0_removeAt 37 = .ok (.invokevirtual 122, 3) := by decide +kernel
theorem dX0_removeAt_40 : decode cX0_removeAt 40 = .ok (.iinc 2 1, 3) := by decide +kernel
theorem dX0_removeAt_43 : decode cX0_removeAt 43 = .ok (.goto (-32), 3) := by decide +kernel
theorem dX0_removeAt_46 : decode cX0_removeAt 46 = .ok (.aload_n 0, 1) := by decide +kernel
theorem dX0_removeAt_47 : decode cX0_removeAt 47 = .ok (.dup, 1) := by decide +kernel
theorem dX0_removeAt_48 : decode cX0_removeAt 48 = .ok (.getfield 53, 3) := by decide +kernel
theorem dX0_removeAt_51 : decode cX0_removeAt 51 = .ok (.iconst 1, 1) := by decide +kernel
theorem dX0_removeAt_52 : decode cX0_removeAt 52 = .ok (.isub, 1) := by decide +kernel
theorem dX0_removeAt_53 : decode cX0_removeAt 53 = .ok (.putfield 53, 3) := by decide +kernel
theorem dX0_removeAt_56 : decode cX0_removeAt 56 = .ok (.return_, 1) := by decide +kernel
theorem dX0_marksBelow_0 : decode cX0_marksBelow 0 = .ok (.iconst 0, 1) := by decide +kernel
theorem dX0_marksBelow_1 : decode cX0_marksBelow 1 = .ok (.istore_n 2, 1) := by decide +kernel
theorem dX0_marksBelow_2 : decode cX0_marksBelow 2 = .ok (.iload_n 2, 1) := by decide +kernel
theorem dX0_marksBelow_3 : decode cX0_marksBelow 3 = .ok (.aload_n 0, 1) := by decide +kernel
theorem dX0_marksBelow_4 : decode cX0_marksBelow 4 = .ok (.getfield 53, 3) := by decide +kernel
theorem dX0_marksBelow_7 : decode cX0_marksBelow 7 = .ok (.if_icmp .ge 28, 3) := by decide +kernel
theorem dX0_marksBelow_10 : decode cX0_marksBelow 10 = .ok (.iload_n 2, 1) := by decide +kernel
theorem dX0_marksBelow_11 : decode cX0_marksBelow 11 = .ok (.aload_n 0, 1) := by decide +kernel
theorem dX0_marksBelow_12 : decode cX0_marksBelow 12 = .ok (.getfield 13, 3) := by decide +kernel
theorem dX0_marksBelow_15 : decode cX0_marksBelow 15 = .ok (.arraylength, 1) := by decide +kernel
theorem dX0_marksBelow_16 : decode cX0_marksBelow 16 = .ok (.if_icmp .ge 19, 3) := by decide +kernel
theorem dX0_marksBelow_19 : decode cX0_marksBelow 19 = .ok (.aload_n 0, 1) := by decide +kernel
theorem dX0_marksBelow_20 : decode cX0_marksBelow 20 = .ok (.getfield 13, 3) := by decide +kernel
theorem dX0_marksBelow_23 : decode cX0_marksBelow 23 = .ok (.iload_n 2, 1) := by decide +kernel
theorem dX0_marksBelow_24 : decode cX0_marksBelow 24 = .ok (.iaload, 1) := by decide +kernel
theorem dX0_marksBelow_25 : decode cX0_marksBelow 25 = .ok (.iload_n 1, 1) := by decide +kernel
theorem dX0_marksBelow_26 : decode cX0_marksBelow 26 = .ok (.if_icmp .ge 9, 3) := by decide +kernel
theorem dX0_marksBelow_29 : decode cX0_marksBelow 29 = .ok (.iinc 2 1, 3) := by decide +kernel
theorem dX0_marksBelow_32 : decode cX0_marksBelow 32 = .ok (.goto (-30), 3) := by decide +kernel
theorem dX0_marksBelow_35 : decode cX0_marksBelow 35 = .ok (.iload_n 2, 1) := by decide +kernel
theorem dX0_marksBelow_36 : decode cX0_marksBelow 36 = .ok (.ireturn, 1) := by decide +kernel
theorem dX0_nextNumber_0 : decode cX0_nextNumber 0 = .ok (.aload_n 0, 1) := by decide +kernel
theorem dX0_nextNumber_1 : decode cX0_nextNumber 1 = .ok (.getfield 106, 3) := by decide +kernel
theorem dX0_nextNumber_4 : decode cX0_nextNumber 4 = .ok (.istore_n 1, 1) := by decide +kernel
theorem dX0_nextNumber_5 : decode cX0_nextNumber 5 = .ok (.aload_n 0, 1) := by decide +kernel
theorem dX0_nextNumber_6 : decode cX0_nextNumber 6 = .ok (.dup, 1) := by decide +kernel
theorem dX0_nextNumber_7 : decode cX0_nextNumber 7 = .ok (.getfield 106, 3) := by decide +kernel
theorem dX0_nextNumber_10 : decode cX0_nextNumber 10 = .ok (.iconst 1, 1) := by decide +kernel
theorem dX0_nextNumber_11 : decode cX0_nextNumber 11 = .ok (.iadd, 1) := by decide +kernel
theorem dX0_nextNumber_12 : decode cX0_nextNumber 12 = .ok (.putfield 106, 3) := by decide +kernel
theorem dX0_nextNumber_15 : decode cX0_nextNumber 15 = .ok (.iload_n 1, 1) := by decide +kernel
theorem dX0_nextNumber_16 : decode cX0_nextNumber 16 = .ok (.ireturn, 1) := by decide +kernel
set_option maxRecDepth 20000 in
theorem ggX0_putIn_X0_movesByPuttingIn : GoodIn wsX0_putIn wsX0_movesByPuttingIn := goodIn_r _ [6, 7, 8, 9, 5, 10, 11, 12, 13, 14, 15, 16, 17, 18, 19, 20, 21, 22, 23, 24, 25, 26, 27, 28, 29, 30, 31, 32, 33, 34, 35, 36, 37, 38, 39, 40, 41, 42, 43, 44, 45, 46, 47, 48, 49, 50, 51, 52, 53, 54, 55, 77, 78, 79, 80, 81, 82, 83, 84] (by decide +kernel) (by decide +kernel)
set_option maxRecDepth 20000 in
theorem gX0_putIn_X0_movesByPuttingIn : GoodIn wsX0_putIn (wsV RX0 92 RX0 yX0_movesByPuttingIn wsX0_movesByPuttingIn) := goodIn_app (goodIn_of _ (by decide +kernel)) ggX0_putIn_X0_movesByPuttingIn
set_option maxRecDepth 20000 in
theorem ggX0_putIn_X0_hasFreeMark : GoodIn wsX0_putIn wsX0_hasFreeMark := goodIn_r _ [10, 11, 12, 13, 5, 14, 15, 16, 17, 18, 19, 20, 21, 77, 78, 79, 80, 81, 82, 83, 84] (by decide +kernel) (by decide +kernel)
set_option maxRecDepth 20000 in
theorem gX0_putIn_X0_hasFreeMark : GoodIn wsX0_putIn (wsV RX0 126 RX0 yX0_hasFreeMark wsX0_hasFreeMark) := goodIn_app (goodIn_of _ (by decide +kernel)) ggX0_putIn_X0_hasFreeMark
set_option maxRecDepth 20000 in
theorem ggX0_putIn_X0_markAt : GoodIn wsX0_putIn wsX0_markAt := goodIn_r _ [14, 15, 16, 17, 18, 5, 19, 20, 21, 77, 78, 79, 80, 81, 82, 83, 84] (by decide +kernel) (by decide +kernel)
set_option maxRecDepth 20000 in
theorem gX0_putIn_X0_markAt : GoodIn wsX0_putIn (wsV RX0 67 RX0 yX0_markAt wsX0_markAt) := goodIn_app (goodIn_of _ (by decide +kernel)) ggX0_putIn_X0_markAt
set_option maxRecDepth 20000 in
theorem ggX0_putIn_X0_insertAt : GoodIn wsX0_putIn wsX0_insertAt := goodIn_r _ [59, 20, 60, 61, 62, 5, 63, 21, 16, 17, 18, 19, 15, 11, 12, 13, 14, 64, 65, 66, 67, 77, 78, 79, 80, 81, 82, 83, 84] (by decide +kernel) (by decide +kernel)
set_option maxRecDepth 20000 in
theorem gX0_putIn_X0_insertAt : GoodIn wsX0_putIn (wsV RX0 129 RX0 yX0_insertAt wsX0_insertAt) := goodIn_app (goodIn_of _ (by decide +kernel)) ggX0_putIn_X0_insertAt
set_option maxRecDepth 20000 in
theorem ggX0_putIn_X0_spreadOut : GoodIn wsX0_putIn wsX0_spreadOut := goodIn_r _ [71, 22, 23, 24, 5, 25, 26, 27, 28, 29, 30, 31, 32, 33, 34, 11, 12, 13, 14, 15, 16, 17, 18, 19, 20, 21, 35, 36, 37, 38, 39, 40, 41, 42, 43, 44, 45, 46, 47, 48, 49, 56, 57, 58, 59, 60, 61, 62, 63, 64, 65, 66, 67, 50, 51, 52, 53, 54, 55, 72, 73, 74, 75, 76, 77, 78, 79, 80, 81, 82, 83, 84] (by decide +kernel) (by decide +kernel)
set_option maxRecDepth 20000 in
theorem gX0_putIn_X0_spreadOut : GoodIn wsX0_putIn (wsV RX0 132 RX0 yX0_spreadOut wsX0_spreadOut) := goodIn_app (goodIn_of _ (by decide +kernel)) ggX0_putIn_X0_spreadOut
theorem dX0_putIn_0 : decode cX0_putIn 0 = .ok (.aload_n 0, 1) := by decide +kernel
theorem dX0_putIn_1 : decode cX0_putIn 1 = .ok (.dup, 1) := by decide +kernel
theorem dX0_putIn_2 : decode cX0_putIn 2 = .ok (.getfield 95, 3) := by decide +kernel
theorem dX0_putIn_5 : decode cX0_putIn 5 = .ok (.aload_n 0, 1) := by decide +kernel
theorem dX0_putIn_6 : decode cX0_putIn 6 = .ok (.iload_n 2, 1) := by decide +kernel
theorem dX0_putIn_7 : decode cX0_putIn 7 = .ok (.invokevirtual 92, 3) := by decide +kernel
theorem dX0_putIn_10 : decode cX0_putIn 10 = .ok (.iadd, 1) := by decide +kernel
theorem dX0_putIn_11 : decode cX0_putIn 11 = .ok (.putfield 95, 3) := by decide +kernel
theorem dX0_putIn_14 : decode cX0_putIn 14 = .ok (.aload_n 0, 1) := by decide +kernel
theorem dX0_putIn_15 : decode cX0_putIn 15 = .ok (.iload_n 2, 1) := by decide +kernel
theorem dX0_putIn_16 : decode cX0_putIn 16 = .ok (.invokevirtual 126, 3) := by decide +kernel
theorem dX0_putIn_19 : decode cX0_putIn 19 = .ok (.ifCond .eq 27, 3) := by decide +kernel
theorem dX0_putIn_22 : decode cX0_putIn 22 = .ok (.aload_n 0, 1) := by decide +kernel
theorem dX0_putIn_23 : decode cX0_putIn 23 = .ok (.iload_n 2, 1) := by decide +kernel
theorem dX0_putIn_24 : decode cX0_putIn 24 = .ok (.iload_n 1, 1) := by decide +kernel
theorem dX0_putIn_25 : decode cX0_putIn 25 = .ok (.aload_n 0, 1) := by decide +kernel
theorem dX0_putIn_26 : decode cX0_putIn 26 = .ok (.iload_n 2, 1) := by decide +kernel
theorem dX0_putIn_27 : decode cX0_putIn 27 = .ok (.iconst 1, 1) := by decide +kernel
theorem dX0_putIn_28 : decode cX0_putIn 28 = .ok (.isub, 1) := by decide +kernel
theorem dX0_putIn_29 : decode cX0_putIn 29 = .ok (.invokevirtual 67, 3) := by decide +kernel
theorem dX0_putIn_32 : decode cX0_putIn 32 = .ok (.aload_n 0, 1) := by decide +kernel
theorem dX0_putIn_33 : decode cX0_putIn 33 = .ok (.iload_n 2, 1) := by decide +kernel
theorem dX0_putIn_34 : decode cX0_putIn 34 = .ok (.invokevirtual 67, 3) := by decide +kernel
theorem dX0_putIn_37 : decode cX0_putIn 37 = .ok (.iadd, 1) := by decide +kernel
theorem dX0_putIn_38 : decode cX0_putIn 38 = .ok (.iconst 2, 1) := by decide +kernel
theorem dX0_putIn_39 : decode cX0_putIn 39 = .ok (.idiv, 1) := by decide +kernel
theorem dX0_putIn_40 : decode cX0_putIn 40 = .ok (.invokevirtual 129, 3) := by decide +kernel
theorem dX0_putIn_43 : decode cX0_putIn 43 = .ok (.goto 9, 3) := by decide +kernel
theorem dX0_putIn_46 : decode cX0_putIn 46 = .ok (.aload_n 0, 1) := by decide +kernel
theorem dX0_putIn_47 : decode cX0_putIn 47 = .ok (.iload_n 1, 1) := by decide +kernel
theorem dX0_putIn_48 : decode cX0_putIn 48 = .ok (.iload_n 2, 1) := by decide +kernel
theorem dX0_putIn_49 : decode cX0_putIn 49 = .ok (.invokevirtual 132, 3) := by decide +kernel
theorem dX0_putIn_52 : decode cX0_putIn 52 = .ok (.return_, 1) := by decide +kernel
set_option maxRecDepth 20000 in
theorem ggX0_hasFreeMark_X0_markAt : GoodIn wsX0_hasFreeMark wsX0_markAt := goodIn_r _ [5, 6, 7, 8, 9, 4, 10, 11, 12, 13, 14, 15, 16, 17, 18, 19, 20] (by decide +kernel) (by decide +kernel)
set_option maxRecDepth 20000 in
theorem gX0_hasFreeMark_X0_markAt : GoodIn wsX0_hasFreeMark (wsV RX0 67 RX0 yX0_markAt wsX0_markAt) := goodIn_app (goodIn_of _ (by decide +kernel)) ggX0_hasFreeMark_X0_markAt
theorem dX0_hasFreeMark_0 : decode cX0_hasFreeMark 0 = .ok (.aload_n 0, 1) := by decide +kernel
theorem dX0_hasFreeMark_1 : decode cX0_hasFreeMark 1 = .ok (.iload_n 1, 1) := by decide +kernel
theorem dX0_hasFreeMark_2 : decode cX0_hasFreeMark 2 = .ok (.invokevirtual 67, 3) := by decide +kernel
theorem dX0_hasFreeMark_5 : decode cX0_hasFreeMark 5 = .ok (.aload_n 0, 1) := by decide +kernel
theorem dX0_hasFreeMark_6 : decode cX0_hasFreeMark 6 = .ok (.iload_n 1, 1) := by decide +kernel
theorem dX0_hasFreeMark_7 : decode cX0_hasFreeMark 7 = .ok (.iconst 1, 1) := by decide +kernel
theorem dX0_hasFreeMark_8 : decode cX0_hasFreeMark 8 = .ok (.isub, 1) := by decide +kernel
theorem dX0_hasFreeMark_9 : decode cX0_hasFreeMark 9 = .ok (.invokevirtual 67, 3) := by decide +kernel
theorem dX0_hasFreeMark_12 : decode cX0_hasFreeMark 12 = .ok (.isub, 1) := by decide +kernel
theorem dX0_hasFreeMark_13 : decode cX0_hasFreeMark 13 = .ok (.iconst 2, 1) := by decide +kernel
theorem dX0_hasFreeMark_14 : decode cX0_hasFreeMark 14 = .ok (.if_icmp .lt 7, 3) := by decide +kernel
theorem dX0_hasFreeMark_17 : decode cX0_hasFreeMark 17 = .ok (.iconst 1, 1) := by decide +kernel
theorem dX0_hasFreeMark_18 : decode cX0_hasFreeMark 18 = .ok (.goto 4, 3) := by decide +kernel
theorem dX0_hasFreeMark_21 : decode cX0_hasFreeMark 21 = .ok (.iconst 0, 1) := by decide +kernel
theorem dX0_hasFreeMark_22 : decode cX0_hasFreeMark 22 = .ok (.ireturn, 1) := by decide +kernel
set_option maxRecDepth 20000 in
theorem ggX0_spreadOut_X0_levelToSpread : GoodIn wsX0_spreadOut wsX0_levelToSpread := goodIn_r _ [5, 6, 7, 8, 9, 4, 10, 11, 12, 13, 14, 15, 16, 17, 18, 19, 20, 21, 22, 23, 24, 25, 26, 27, 28, 29, 30, 31, 32, 33, 34, 35, 36, 37, 38, 39, 40, 64, 65, 66, 67, 68, 69, 70, 71] (by decide +kernel) (by decide +kernel)
set_option maxRecDepth 20000 in
theorem gX0_spreadOut_X0_levelToSpread : GoodIn wsX0_spreadOut (wsV RX0 135 RX0 yX0_levelToSpread wsX0_levelToSpread) := goodIn_app (goodIn_of _ (by decide +kernel)) ggX0_spreadOut_X0_levelToSpread
set_option maxRecDepth 20000 in
theorem ggX0_spreadOut_X0_shelfToSpread : GoodIn wsX0_spreadOut wsX0_shelfToSpread := goodIn_r _ [10, 11, 12, 13, 14, 15, 16, 17, 4, 18, 19, 20, 21, 22, 23, 24, 25, 64, 65, 66, 67, 68, 69, 70, 71] (by decide +kernel) (by decide +kernel)
set_option maxRecDepth 20000 in
theorem gX0_spreadOut_X0_shelfToSpread : GoodIn wsX0_spreadOut (wsV RX0 138 RX0 yX0_shelfToSpread wsX0_shelfToSpread) := goodIn_app (goodIn_of _ (by decide +kernel)) ggX0_spreadOut_X0_shelfToSpread
set_option maxRecDepth 20000 in
theorem ggX0_spreadOut_X0_firstMark : GoodIn wsX0_spreadOut wsX0_firstMark := goodIn_r _ [36] (by decide +kernel) (by decide +kernel)
set_option maxRecDepth 20000 in
theorem gX0_spreadOut_X0_firstMark : GoodIn wsX0_spreadOut (va_wsS RX0 141 yX0_firstMark wsX0_firstMark) := goodIn_app (goodIn_of _ (by decide +kernel)) ggX0_spreadOut_X0_firstMark
set_option maxRecDepth 20000 in
theorem ggX0_spreadOut_X0_marksBelow : GoodIn wsX0_spreadOut wsX0_marksBelow := goodIn_r _ [40, 24, 19, 64, 65, 66, 67, 68, 69, 70, 71] (by decide +kernel) (by decide +kernel)
set_option maxRecDepth 20000 in
theorem gX0_spreadOut_X0_marksBelow : GoodIn wsX0_spreadOut (wsV RX0 70 RX0 yX0_marksBelow wsX0_marksBelow) := goodIn_app (goodIn_of _ (by decide +kernel)) ggX0_spreadOut_X0_marksBelow
set_option maxRecDepth 20000 in
theorem ggX0_spreadOut_X0_foldersOn : GoodIn wsX0_spreadOut wsX0_foldersOn := goodIn_r _ [33, 34, 35, 4, 36, 37, 38, 39, 40, 24, 19, 64, 65, 66, 67, 68, 69, 70, 71] (by decide +kernel) (by decide +kernel)
set_option maxRecDepth 20000 in
theorem gX0_spreadOut_X0_foldersOn : GoodIn wsX0_spreadOut (wsV RX0 84 RX0 yX0_foldersOn wsX0_foldersOn) := goodIn_app (goodIn_of _ (by decide +kernel)) ggX0_spreadOut_X0_foldersOn
set_option maxRecDepth 20000 in
theorem ggX0_spreadOut_X0_insertAt : GoodIn wsX0_spreadOut wsX0_insertAt := goodIn_r _ [44, 24, 45, 46, 47, 4, 48, 25, 20, 21, 22, 23, 19, 15, 16, 17, 18, 49, 50, 51, 52, 64, 65, 66, 67, 68, 69, 70, 71] (by decide +kernel) (by decide +kernel)
set_option maxRecDepth 20000 in
theorem gX0_spreadOut_X0_insertAt : GoodIn wsX0_spreadOut (wsV RX0 129 RX0 yX0_insertAt wsX0_insertAt) := goodIn_app (goodIn_of _ (by decide +kernel)) ggX0_spreadOut_X0_insertAt
set_option maxRecDepth 20000 in
theorem ggX0_spreadOut_X0_folderAt : GoodIn wsX0_spreadOut wsX0_folderAt := goodIn_r _ [48, 25, 20, 21, 22, 4, 23, 24, 19, 64, 65, 66, 67, 68, 69, 70, 71] (by decide +kernel) (by decide +kernel)
set_option maxRecDepth 20000 in
theorem gX0_spreadOut_X0_folderAt : GoodIn wsX0_spreadOut (wsV RX0 43 RX0 yX0_folderAt wsX0_folderAt) := goodIn_app (goodIn_of _ (by decide +kernel)) ggX0_spreadOut_X0_folderAt
set_option maxRecDepth 20000 in
theorem ggX0_spreadOut_X0_spreadMark : GoodIn wsX0_spreadOut wsX0_spreadMark := goodIn_r _ [55, 56, 57, 4, 58, 34, 35, 36] (by decide +kernel) (by decide +kernel)
set_option maxRecDepth 20000 in
theorem gX0_spreadOut_X0_spreadMark : GoodIn wsX0_spreadOut (va_wsS RX0 144 yX0_spreadMark wsX0_spreadMark) := goodIn_app (goodIn_of _ (by decide +kernel)) ggX0_spreadOut_X0_spreadMark
set_option maxRecDepth 20000 in
theorem ggX0_spreadOut_X0_set : GoodIn wsX0_spreadOut wsX0_set := goodIn_r _ [52, 25, 19, 20, 21, 22, 4, 23, 24, 64, 65, 66, 67, 68, 69, 70, 71] (by decide +kernel) (by decide +kernel)
set_option maxRecDepth 20000 in
theorem gX0_spreadOut_X0_set : GoodIn wsX0_spreadOut (wsV RX0 122 RX0 yX0_set wsX0_set) := goodIn_app (goodIn_of _ (by decide +kernel)) ggX0_spreadOut_X0_set
set_option maxRecDepth 20000 in
theorem ggX0_spreadOut_X0_countSpread : GoodIn wsX0_spreadOut wsX0_countSpread := goodIn_r _ [62, 63, 64, 65, 66, 67, 68, 69, 70, 71] (by decide +kernel) (by decide +kernel)
set_option maxRecDepth 20000 in
theorem gX0_spreadOut_X0_countSpread : GoodIn wsX0_spreadOut (wsV RX0 148 RX0 yX0_countSpread wsX0_countSpread) := goodIn_app (goodIn_of _ (by decide +kernel)) ggX0_spreadOut_X0_countSpread
theorem dX0_spreadOut_0 : decode cX0_spreadOut 0 = .ok (.aload_n 0, 1) := by decide +kernel
theorem dX0_spreadOut_1 : decode cX0_spreadOut 1 = .ok (.iload_n 2, 1) := by decide +kernel
theorem dX0_spreadOut_2 : decode cX0_spreadOut 2 = .ok (.invokevirtual 135, 3) := by decide +kernel
theorem dX0_spreadOut_5 : decode cX0_spreadOut 5 = .ok (.istore_n 3, 1) := by decide +kernel
theorem dX0_spreadOut_6 : decode cX0_spreadOut 6 = .ok (.aload_n 0, 1) := by decide +kernel
theorem dX0_spreadOut_7 : decode cX0_spreadOut 7 = .ok (.iload_n 2, 1) := by decide +kernel
theorem dX0_spreadOut_8 : decode cX0_spreadOut 8 = .ok (.iload_n 3, 1) := by decide +kernel
theorem dX0_spreadOut_9 : decode cX0_spreadOut 9 = .ok (.invokevirtual 138, 3) := by decide +kernel
theorem dX0_spreadOut_12 : decode cX0_spreadOut 12 = .ok (.istore 4, 2) := by decide +kernel
theorem dX0_spreadOut_14 : decode cX0_spreadOut 14 = .ok (.aload_n 0, 1) := by decide +kernel
theorem dX0_spreadOut_15 : decode cX0_spreadOut 15 = .ok (.iload_n 3, 1) := by decide +kernel
theorem dX0_spreadOut_16 : decode cX0_spreadOut 16 = .ok (.iload 4, 2) := by decide +kernel
theorem dX0_spreadOut_18 : decode cX0_spreadOut 18 = .ok (.invokestatic 141, 3) := by decide +kernel
theorem dX0_spreadOut_21 : decode cX0_spreadOut 21 = .ok (.invokevirtual 70, 3) := by decide +kernel
theorem dX0_spreadOut_24 : decode cX0_spreadOut 24 = .ok (.istore 5, 2) := by decide +kernel
theorem dX0_spreadOut_26 : decode cX0_spreadOut 26 = .ok (.aload_n 0, 1) := by decide +kernel
theorem dX0_spreadOut_27 : decode cX0_spreadOut 27 = .ok (.iload_n 3, 1) := by decide +kernel
theorem dX0_spreadOut_28 : decode cX0_spreadOut 28 = .ok (.iload 4, 2) := by decide +kernel
theorem dX0_spreadOut_30 : decode cX0_spreadOut 30 = .ok (.invokevirtual 84, 3) := by decide +kernel
theorem dX0_spreadOut_33 : decode cX0_spreadOut 33 = .ok (.iconst 1, 1) := by decide +kernel
theorem dX0_spreadOut_34 : decode cX0_spreadOut 34 = .ok (.iadd, 1) := by decide +kernel
theorem dX0_spreadOut_35 : decode cX0_spreadOut 35 = .ok (.istore 6, 2) := by decide +kernel
theorem dX0_spreadOut_37 : decode cX0_spreadOut 37 = .ok (.aload_n 0, 1) := by decide +kernel
theorem dX0_spreadOut_38 : decode cX0_spreadOut 38 = .ok (.iload_n 2, 1) := by decide +kernel
theorem dX0_spreadOut_39 : decode cX0_spreadOut 39 = .ok (.iload_n 1, 1) := by decide +kernel
theorem dX0_spreadOut_40 : decode cX0_spreadOut 40 = .ok (.iload_n 3, 1) := by decide +kernel
theorem dX0_spreadOut_41 : decode cX0_spreadOut 41 = .ok (.iload 4, 2) := by decide +kernel
theorem dX0_spreadOut_43 : decode cX0_spreadOut 43 = .ok (.invokestatic 141, 3) := by decide +kernel
theorem dX0_spreadOut_46 : decode cX0_spreadOut 46 = .ok (.invokevirtual 129, 3) := by decide +kernel
theorem dX0_spreadOut_49 : decode cX0_spreadOut 49 = .ok (.iconst 0, 1) := by decide +kernel
theorem dX0_spreadOut_50 : decode cX0_spreadOut 50 = .ok (.istore 7, 2) := by decide +kernel
theorem dX0_spreadOut_52 : decode cX0_spreadOut 52 = .ok (.iload 7, 2) := by decide +kernel
theorem dX0_spreadOut_54 : decode cX0_spreadOut 54 = .ok (.iload 6, 2) := by decide +kernel
theorem dX0_spreadOut_56 : decode cX0_spreadOut 56 = .ok (.if_icmp .ge 37, 3) := by decide +kernel
theorem dX0_spreadOut_59 : decode cX0_spreadOut 59 = .ok (.aload_n 0, 1) := by decide +kernel
theorem dX0_spreadOut_60 : decode cX0_spreadOut 60 = .ok (.iload 5, 2) := by decide +kernel
theorem dX0_spreadOut_62 : decode cX0_spreadOut 62 = .ok (.iload 7, 2) := by decide +kernel
theorem dX0_spreadOut_64 : decode cX0_spreadOut 64 = .ok (.iadd, 1) := by decide +kernel
theorem dX0_spreadOut_65 : decode cX0_spreadOut 65 = .ok (.aload_n 0, 1) := by decide +kernel
theorem dX0_spreadOut_66 : decode cX0_spreadOut 66 = .ok (.iload 5, 2) := by decide +kernel
theorem dX0_spreadOut_68 : decode cX0_spreadOut 68 = .ok (.iload 7, 2) := by decide +kernel
theorem dX0_spreadOut_70 : decode cX0_spreadOut 70 = .ok (.iadd, 1) := by decide +kernel
theorem dX0_spreadOut_71 : decode cX0_spreadOut 71 = .ok (.invokevirtual 43, 3) := by decide +kernel
theorem dX0_spreadOut_74 : decode cX0_spreadOut 74 = .ok (.iload_n 3, 1) := by decide +kernel
theorem dX0_spreadOut_75 : decode cX0_spreadOut 75 = .ok (.iload 4, 2) := by decide +kernel
theorem dX0_spreadOut_77 : decode cX0_spreadOut 77 = .ok (.iload 7, 2) := by decide +kernel
theorem dX0_spreadOut_79 : decode cX0_spreadOut 79 = .ok (.iload 6, 2) := by decide +kernel
theorem dX0_spreadOut_81 : decode cX0_spreadOut 81 = .ok (.invokestatic 144, 3) := by decide +kernel
theorem dX0_spreadOut_84 : decode cX0_spreadOut 84 = .ok (.invokevirtual 122, 3) := by decide +kernel
theorem dX0_spreadOut_87 : decode cX0_spreadOut 87 = .ok (.iinc 7 1, 3) := by decide +kernel
theorem dX0_spreadOut_90 : decode cX0_spreadOut 90 = .ok (.goto (-38), 3) := by decide +kernel
theorem dX0_spreadOut_93 : decode cX0_spreadOut 93 = .ok (.aload_n 0, 1) := by decide +kernel
theorem dX0_spreadOut_94 : decode cX0_spreadOut 94 = .ok (.iload_n 3, 1) := by decide +kernel
theorem dX0_spreadOut_95 : decode cX0_spreadOut 95 = .ok (.invokevirtual 148, 3) := by decide +kernel
theorem dX0_spreadOut_98 : decode cX0_spreadOut 98 = .ok (.return_, 1) := by decide +kernel
set_option maxRecDepth 20000 in
theorem ggX0_movesByPuttingIn_X0_hasFreeMark : GoodIn wsX0_movesByPuttingIn wsX0_hasFreeMark := goodIn_r _ [5, 6, 7, 8, 4, 9, 10, 11, 12, 13, 14, 15, 16, 51, 52, 53, 54, 55, 56, 57, 58] (by decide +kernel) (by decide +kernel)
set_option maxRecDepth 20000 in
theorem gX0_movesByPuttingIn_X0_hasFreeMark : GoodIn wsX0_movesByPuttingIn (wsV RX0 126 RX0 yX0_hasFreeMark wsX0_hasFreeMark) := goodIn_app (goodIn_of _ (by decide +kernel)) ggX0_movesByPuttingIn_X0_hasFreeMark
set_option maxRecDepth 20000 in
theorem ggX0_movesByPuttingIn_X0_levelToSpread : GoodIn wsX0_movesByPuttingIn wsX0_levelToSpread := goodIn_r _ [20, 21, 22, 23, 24, 4, 25, 26, 27, 28, 29, 6, 7, 8, 9, 10, 11, 12, 13, 14, 15, 16, 30, 31, 32, 33, 34, 35, 36, 37, 38, 39, 40, 41, 42, 43, 44, 51, 52, 53, 54, 55, 56, 57, 58] (by decide +kernel) (by decide +kernel)
set_option maxRecDepth 20000 in
theorem gX0_movesByPuttingIn_X0_levelToSpread : GoodIn wsX0_movesByPuttingIn (wsV RX0 135 RX0 yX0_levelToSpread wsX0_levelToSpread) := goodIn_app (goodIn_of _ (by decide +kernel)) ggX0_movesByPuttingIn_X0_levelToSpread
set_option maxRecDepth 20000 in
theorem ggX0_movesByPuttingIn_X0_shelfToSpread : GoodIn wsX0_movesByPuttingIn wsX0_shelfToSpread := goodIn_r _ [25, 26, 27, 28, 29, 6, 7, 8, 4, 9, 10, 11, 12, 13, 14, 15, 16, 51, 52, 53, 54, 55, 56, 57, 58] (by decide +kernel) (by decide +kernel)
set_option maxRecDepth 20000 in
theorem gX0_movesByPuttingIn_X0_shelfToSpread : GoodIn wsX0_movesByPuttingIn (wsV RX0 138 RX0 yX0_shelfToSpread wsX0_shelfToSpread) := goodIn_app (goodIn_of _ (by decide +kernel)) ggX0_movesByPuttingIn_X0_shelfToSpread
set_option maxRecDepth 20000 in
theorem ggX0_movesByPuttingIn_X0_firstMark : GoodIn wsX0_movesByPuttingIn wsX0_firstMark := goodIn_r _ [40] (by decide +kernel) (by decide +kernel)
set_option maxRecDepth 20000 in
theorem gX0_movesByPuttingIn_X0_firstMark : GoodIn wsX0_movesByPuttingIn (va_wsS RX0 141 yX0_firstMark wsX0_firstMark) := goodIn_app (goodIn_of _ (by decide +kernel)) ggX0_movesByPuttingIn_X0_firstMark
set_option maxRecDepth 20000 in
theorem ggX0_movesByPuttingIn_X0_marksBelow : GoodIn wsX0_movesByPuttingIn wsX0_marksBelow := goodIn_r _ [44, 15, 10, 51, 52, 53, 54, 55, 56, 57, 58] (by decide +kernel) (by decide +kernel)
set_option maxRecDepth 20000 in
theorem gX0_movesByPuttingIn_X0_marksBelow : GoodIn wsX0_movesByPuttingIn (wsV RX0 70 RX0 yX0_marksBelow wsX0_marksBelow) := goodIn_app (goodIn_of _ (by decide +kernel)) ggX0_movesByPuttingIn_X0_marksBelow
set_option maxRecDepth 20000 in
theorem ggX0_movesByPuttingIn_X0_foldersOn : GoodIn wsX0_movesByPuttingIn wsX0_foldersOn := goodIn_r _ [37, 38, 39, 4, 40, 41, 42, 43, 44, 15, 10, 51, 52, 53, 54, 55, 56, 57, 58] (by decide +kernel) (by decide +kernel)
set_option maxRecDepth 20000 in
theorem gX0_movesByPuttingIn_X0_foldersOn : GoodIn wsX0_movesByPuttingIn (wsV RX0 84 RX0 yX0_foldersOn wsX0_foldersOn) := goodIn_app (goodIn_of _ (by decide +kernel)) ggX0_movesByPuttingIn_X0_foldersOn
set_option maxRecDepth 20000 in
theorem ggX0_movesByPuttingIn_X0_markAt : GoodIn wsX0_movesByPuttingIn wsX0_markAt := goodIn_r _ [9, 10, 11, 12, 13, 4, 14, 15, 16, 51, 52, 53, 54, 55, 56, 57, 58] (by decide +kernel) (by decide +kernel)
set_option maxRecDepth 20000 in
theorem gX0_movesByPuttingIn_X0_markAt : GoodIn wsX0_movesByPuttingIn (wsV RX0 67 RX0 yX0_markAt wsX0_markAt) := goodIn_app (goodIn_of _ (by decide +kernel)) ggX0_movesByPuttingIn_X0_markAt
set_option maxRecDepth 20000 in
theorem ggX0_movesByPuttingIn_X0_spreadMark : GoodIn wsX0_movesByPuttingIn wsX0_spreadMark := goodIn_r _ [47, 48, 49, 4, 50, 38, 39, 40] (by decide +kernel) (by decide +kernel)
set_option maxRecDepth 20000 in
theorem gX0_movesByPuttingIn_X0_spreadMark : GoodIn wsX0_movesByPuttingIn (va_wsS RX0 144 yX0_spreadMark wsX0_spreadMark) := goodIn_app (goodIn_of _ (by decide +kernel)) ggX0_movesByPuttingIn_X0_spreadMark
theorem dX0_movesByPuttingIn_0 : decode cX0_movesByPuttingIn 0 = .ok (.aload_n 0, 1) := by decide +kernel
theorem dX0_movesByPuttingIn_1 : decode cX0_movesByPuttingIn 1 = .ok (.iload_n 1, 1) := by decide +kernel
theorem dX0_movesByPuttingIn_2 : decode cX0_movesByPuttingIn 2 = .ok (.invokevirtual 126, 3) := by decide +kernel
theorem dX0_movesByPuttingIn_5 : decode cX0_movesByPuttingIn 5 = .ok (.ifCond .eq 5, 3) := by decide +kernel
theorem dX0_movesByPuttingIn_8 : decode cX0_movesByPuttingIn 8 = .ok (.iconst 0, 1) := by decide +kernel
theorem dX0_movesByPuttingIn_9 : decode cX0_movesByPuttingIn 9 = .ok (.ireturn, 1) := by decide +kernel
theorem dX0_movesByPuttingIn_10 : decode cX0_movesByPuttingIn 10 = .ok (.aload_n 0, 1) := by decide +kernel
theorem dX0_movesByPuttingIn_11 : decode cX0_movesByPuttingIn 11 = .ok (.iload_n 1, 1) := by decide +kernel
theorem dX0_movesByPuttingIn_12 : decode cX0_movesByPuttingIn 12 = .ok (.invokevirtual 135, 3) := by decide +kernel
theorem dX0_movesByPuttingIn_15 : decode cX0_movesByPuttingIn 15 = .ok (.istore_n 2, 1) := by decide +kernel
theorem dX0_movesByPuttingIn_16 : decode cX0_movesByPuttingIn 16 = .ok (.aload_n 0, 1) := by decide +kernel
theorem dX0_movesByPuttingIn_17 : decode cX0_movesByPuttingIn 17 = .ok (.iload_n 1, 1) := by decide +kernel
theorem dX0_movesByPuttingIn_18 : decode cX0_movesByPuttingIn 18 = .ok (.iload_n 2, 1) := by decide +kernel
theorem dX0_movesByPuttingIn_19 : decode cX0_movesByPuttingIn 19 = .ok (.invokevirtual 138, 3) := by decide +kernel
theorem dX0_movesByPuttingIn_22 : decode cX0_movesByPuttingIn 22 = .ok (.istore_n 3, 1) := by decide +kernel
theorem dX0_movesByPuttingIn_23 : decode cX0_movesByPuttingIn 23 = .ok (.aload_n 0, 1) := by decide +kernel
theorem dX0_movesByPuttingIn_24 : decode cX0_movesByPuttingIn 24 = .ok (.iload_n 2, 1) := by decide +kernel
theorem dX0_movesByPuttingIn_25 : decode cX0_movesByPuttingIn 25 = .ok (.iload_n 3, 1) := by decide +kernel
theorem dX0_movesByPuttingIn_26 : decode cX0_movesByPuttingIn 26 = .ok (.invokestatic 141, 3) := by decide +kernel
theorem dX0_movesByPuttingIn_29 : decode cX0_movesByPuttingIn 29 = .ok (.invokevirtual 70, 3) := by decide +kernel
theorem dX0_movesByPuttingIn_32 : decode cX0_movesByPuttingIn 32 = .ok (.istore 4, 2) := by decide +kernel
theorem dX0_movesByPuttingIn_34 : decode cX0_movesByPuttingIn 34 = .ok (.aload_n 0, 1) := by decide +kernel
theorem dX0_movesByPuttingIn_35 : decode cX0_movesByPuttingIn 35 = .ok (.iload_n 2, 1) := by decide +kernel
theorem dX0_movesByPuttingIn_36 : decode cX0_movesByPuttingIn 36 = .ok (.iload_n 3, 1) := by decide +kernel
theorem dX0_movesByPuttingIn_37 : decode cX0_movesByPuttingIn 37 = .ok (.invokevirtual 84, 3) := by decide +kernel
theorem dX0_movesByPuttingIn_40 : decode cX0_movesByPuttingIn 40 = .ok (.istore 5, 2) := by decide +kernel
theorem dX0_movesByPuttingIn_42 : decode cX0_movesByPuttingIn 42 = .ok (.iconst 0, 1) := by decide +kernel
theorem dX0_movesByPuttingIn_43 : decode cX0_movesByPuttingIn 43 = .ok (.istore 6, 2) := by decide +kernel
theorem dX0_movesByPuttingIn_45 : decode cX0_movesByPuttingIn 45 = .ok (.iload 4, 2) := by decide +kernel
theorem dX0_movesByPuttingIn_47 : decode cX0_movesByPuttingIn 47 = .ok (.istore 7, 2) := by decide +kernel
theorem dX0_movesByPuttingIn_49 : decode cX0_movesByPuttingIn 49 = .ok (.iload 7, 2) := by decide +kernel
theorem dX0_movesByPuttingIn_51 : decode cX0_movesByPuttingIn 51 = .ok (.iload 4, 2) := by decide +kernel
theorem dX0_movesByPuttingIn_53 : decode cX0_movesByPuttingIn 53 = .ok (.iload 5, 2) := by decide +kernel
theorem dX0_movesByPuttingIn_55 : decode cX0_movesByPuttingIn 55 = .ok (.iadd, 1) := by decide +kernel
theorem dX0_movesByPuttingIn_56 : decode cX0_movesByPuttingIn 56 = .ok (.if_icmp .ge 52, 3) := by decide +kernel
theorem dX0_movesByPuttingIn_59 : decode cX0_movesByPuttingIn 59 = .ok (.iload 7, 2) := by decide +kernel
theorem dX0_movesByPuttingIn_61 : decode cX0_movesByPuttingIn 61 = .ok (.iload_n 1, 1) := by decide +kernel
theorem dX0_movesByPuttingIn_62 : decode cX0_movesByPuttingIn 62 = .ok (.if_icmp .ge 8, 3) := by decide +kernel
theorem dX0_movesByPuttingIn_65 : decode cX0_movesByPuttingIn 65 = .ok (.iload 7, 2) := by decide +kernel
theorem dX0_movesByPuttingIn_67 : decode cX0_movesByPuttingIn 67 = .ok (.goto 7, 3) := by decide +kernel
theorem dX0_movesByPuttingIn_70 : decode cX0_movesByPuttingIn 70 = .ok (.iload 7, 2) := by decide +kernel
theorem dX0_movesByPuttingIn_72 : decode cX0_movesByPuttingIn 72 = .ok (.iconst 1, 1) := by decide +kernel
theorem dX0_movesByPuttingIn_73 : decode cX0_movesByPuttingIn 73 = .ok (.iadd, 1) := by decide +kernel
theorem dX0_movesByPuttingIn_74 : decode cX0_movesByPuttingIn 74 = .ok (.iload 4, 2) := by decide +kernel
theorem dX0_movesByPuttingIn_76 : decode cX0_movesByPuttingIn 76 = .ok (.isub, 1) := by decide +kernel
theorem dX0_movesByPuttingIn_77 : decode cX0_movesByPuttingIn 77 = .ok (.istore 8, 2) := by decide +kernel
theorem dX0_movesByPuttingIn_79 : decode cX0_movesByPuttingIn 79 = .ok (.aload_n 0, 1) := by decide +kernel
theorem dX0_movesByPuttingIn_80 : decode cX0_movesByPuttingIn 80 = .ok (.iload 7, 2) := by decide +kernel
theorem dX0_movesByPuttingIn_82 : decode cX0_movesByPuttingIn 82 = .ok (.invokevirtual 67, 3) := by decide +kernel
theorem dX0_movesByPuttingIn_85 : decode cX0_movesByPuttingIn 85 = .ok (.iload_n 2, 1) := by decide +kernel
theorem dX0_movesByPuttingIn_86 : decode cX0_movesByPuttingIn 86 = .ok (.iload_n 3, 1) := by decide +kernel
theorem dX0_movesByPuttingIn_87 : decode cX0_movesByPuttingIn 87 = .ok (.iload 8, 2) := by decide +kernel
theorem dX0_movesByPuttingIn_89 : decode cX0_movesByPuttingIn 89 = .ok (.iload 5, 2) := by decide +kernel
theorem dX0_movesByPuttingIn_91 : decode cX0_movesByPuttingIn 91 = .ok (.iconst 1, 1) := by decide +kernel
theorem dX0_movesByPuttingIn_92 : decode cX0_movesByPuttingIn 92 = .ok (.iadd, 1) := by decide +kernel
theorem dX0_movesByPuttingIn_93 : decode cX0_movesByPuttingIn 93 = .ok (.invokestatic 144, 3) := by decide +kernel
theorem dX0_movesByPuttingIn_96 : decode cX0_movesByPuttingIn 96 = .ok (.if_icmp .eq 6, 3) := by decide +kernel
theorem dX0_movesByPuttingIn_99 : decode cX0_movesByPuttingIn 99 = .ok (.iinc 6 1, 3) := by decide +kernel
theorem dX0_movesByPuttingIn_102 : decode cX0_movesByPuttingIn 102 = .ok (.iinc 7 1, 3) := by decide +kernel
theorem dX0_movesByPuttingIn_105 : decode cX0_movesByPuttingIn 105 = .ok (.goto (-56), 3) := by decide +kernel
theorem dX0_movesByPuttingIn_108 : decode cX0_movesByPuttingIn 108 = .ok (.iload 6, 2) := by decide +kernel
theorem dX0_movesByPuttingIn_110 : decode cX0_movesByPuttingIn 110 = .ok (.ireturn, 1) := by decide +kernel
set_option maxRecDepth 20000 in
theorem ggX0_levelToSpread_X0_shelfToSpread : GoodIn wsX0_levelToSpread wsX0_shelfToSpread := goodIn_r _ [6, 7, 8, 9, 10, 11, 12, 13, 5, 14, 15, 16, 17, 18, 19, 20, 21, 37, 38, 39, 40, 41, 42, 43, 44] (by decide +kernel) (by decide +kernel)
set_option maxRecDepth 20000 in
theorem gX0_levelToSpread_X0_shelfToSpread : GoodIn wsX0_levelToSpread (wsV RX0 138 RX0 yX0_shelfToSpread wsX0_shelfToSpread) := goodIn_app (goodIn_of _ (by decide +kernel)) ggX0_levelToSpread_X0_shelfToSpread
set_option maxRecDepth 20000 in
theorem ggX0_levelToSpread_X0_isLoaded : GoodIn wsX0_levelToSpread wsX0_isLoaded := goodIn_r _ [25, 1, 26, 27, 28, 5, 29, 30, 31, 32, 33, 34, 35, 36, 20, 15, 37, 38, 39, 40, 41, 42, 43, 44] (by decide +kernel) (by decide +kernel)
set_option maxRecDepth 20000 in
theorem gX0_levelToSpread_X0_isLoaded : GoodIn wsX0_levelToSpread (wsV RX0 88 RX0 yX0_isLoaded wsX0_isLoaded) := goodIn_app (goodIn_of _ (by decide +kernel)) ggX0_levelToSpread_X0_isLoaded
theorem dX0_levelToSpread_0 : decode cX0_levelToSpread 0 = .ok (.getstatic 16, 3) := by decide +kernel
theorem dX0_levelToSpread_3 : decode cX0_levelToSpread 3 = .ok (.arraylength, 1) := by decide +kernel
theorem dX0_levelToSpread_4 : decode cX0_levelToSpread 4 = .ok (.iconst 1, 1) := by decide +kernel
theorem dX0_levelToSpread_5 : decode cX0_levelToSpread 5 = .ok (.isub, 1) := by decide +kernel
theorem dX0_levelToSpread_6 : decode cX0_levelToSpread 6 = .ok (.istore_n 2, 1) := by decide +kernel
theorem dX0_levelToSpread_7 : decode cX0_levelToSpread 7 = .ok (.iconst 1, 1) := by decide +kernel
theorem dX0_levelToSpread_8 : decode cX0_levelToSpread 8 = .ok (.istore_n 3, 1) := by decide +kernel
theorem dX0_levelToSpread_9 : decode cX0_levelToSpread 9 = .ok (.iload_n 3, 1) := by decide +kernel
theorem dX0_levelToSpread_10 : decode cX0_levelToSpread 10 = .ok (.iload_n 2, 1) := by decide +kernel
theorem dX0_levelToSpread_11 : decode cX0_levelToSpread 11 = .ok (.if_icmp .ge 23, 3) := by decide +kernel
theorem dX0_levelToSpread_14 : decode cX0_levelToSpread 14 = .ok (.aload_n 0, 1) := by decide +kernel
theorem dX0_levelToSpread_15 : decode cX0_levelToSpread 15 = .ok (.iload_n 3, 1) := by decide +kernel
theorem dX0_levelToSpread_16 : decode cX0_levelToSpread 16 = .ok (.aload_n 0, 1) := by decide +kernel
theorem dX0_levelToSpread_17 : decode cX0_levelToSpread 17 = .ok (.iload_n 1, 1) := by decide +kernel
theorem dX0_levelToSpread_18 : decode cX0_levelToSpread 18 = .ok (.iload_n 3, 1) := by decide +kernel
theorem dX0_levelToSpread_19 : decode cX0_levelToSpread 19 = .ok (.invokevirtual 138, 3) := by decide +kernel
theorem dX0_levelToSpread_22 : decode cX0_levelToSpread 22 = .ok (.invokevirtual 88, 3) := by decide +kernel
theorem dX0_levelToSpread_25 : decode cX0_levelToSpread 25 = .ok (.ifCond .eq 9, 3) := by decide +kernel
theorem dX0_levelToSpread_28 : decode cX0_levelToSpread 28 = .ok (.iinc 3 1, 3) := by decide +kernel
theorem dX0_levelToSpread_31 : decode cX0_levelToSpread 31 = .ok (.goto (-22), 3) := by decide +kernel
theorem dX0_levelToSpread_34 : decode cX0_levelToSpread 34 = .ok (.iload_n 3, 1) := by decide +kernel
theorem dX0_levelToSpread_35 : decode cX0_levelToSpread 35 = .ok (.ireturn, 1) := by decide +kernel
set_option maxRecDepth 20000 in
theorem ggX0_shelfToSpread_X0_markAt : GoodIn wsX0_shelfToSpread wsX0_markAt := goodIn_r _ [9, 10, 11, 12, 13, 8, 14, 15, 16, 17, 18, 19, 20, 21, 22, 23, 24] (by decide +kernel) (by decide +kernel)
set_option maxRecDepth 20000 in
theorem gX0_shelfToSpread_X0_markAt : GoodIn wsX0_shelfToSpread (wsV RX0 67 RX0 yX0_markAt wsX0_markAt) := goodIn_app (goodIn_of _ (by decide +kernel)) ggX0_shelfToSpread_X0_markAt
theorem dX0_shelfToSpread_0 : decode cX0_shelfToSpread 0 = .ok (.aload_n 0, 1) := by decide +kernel
theorem dX0_shelfToSpread_1 : decode cX0_shelfToSpread 1 = .ok (.iload_n 1, 1) := by decide +kernel
theorem dX0_shelfToSpread_2 : decode cX0_shelfToSpread 2 = .ok (.iconst 1, 1) := by decide +kernel
theorem dX0_shelfToSpread_3 : decode cX0_shelfToSpread 3 = .ok (.isub, 1) := by decide +kernel
theorem dX0_shelfToSpread_4 : decode cX0_shelfToSpread 4 = .ok (.invokevirtual 67, 3) := by decide +kernel
theorem dX0_shelfToSpread_7 : decode cX0_shelfToSpread 7 = .ok (.iconst 0, 1) := by decide +kernel
theorem dX0_shelfToSpread_8 : decode cX0_shelfToSpread 8 = .ok (.invokestatic 151, 3) := by decide +kernel
theorem dX0_shelfToSpread_11 : decode cX0_shelfToSpread 11 = .ok (.iload_n 2, 1) := by decide +kernel
theorem dX0_shelfToSpread_12 : decode cX0_shelfToSpread 12 = .ok (.ishr, 1) := by decide +kernel
theorem dX0_shelfToSpread_13 : decode cX0_shelfToSpread 13 = .ok (.ireturn, 1) := by decide +kernel
set_option maxRecDepth 20000 in
theorem ggX0_spreadMark_X0_shelfSize : GoodIn wsX0_spreadMark wsX0_shelfSize := goodIn_r _ [4] (by decide +kernel) (by decide +kernel)
set_option maxRecDepth 20000 in
theorem gX0_spreadMark_X0_shelfSize : GoodIn wsX0_spreadMark (va_wsS RX0 156 yX0_shelfSize wsX0_shelfSize) := goodIn_app (goodIn_of _ (by decide +kernel)) ggX0_spreadMark_X0_shelfSize
set_option maxRecDepth 20000 in
theorem ggX0_spreadMark_X0_firstMark : GoodIn wsX0_spreadMark wsX0_firstMark := goodIn_r _ [7] (by decide +kernel) (by decide +kernel)
set_option maxRecDepth 20000 in
theorem gX0_spreadMark_X0_firstMark : GoodIn wsX0_spreadMark (va_wsS RX0 141 yX0_firstMark wsX0_firstMark) := goodIn_app (goodIn_of _ (by decide +kernel)) ggX0_spreadMark_X0_firstMark
theorem dX0_spreadMark_0 : decode cX0_spreadMark 0 = .ok (.iload_n 3, 1) := by decide +kernel
theorem dX0_spreadMark_1 : decode cX0_spreadMark 1 = .ok (.ifCond .le 14, 3) := by decide +kernel
theorem dX0_spreadMark_4 : decode cX0_spreadMark 4 = .ok (.iload_n 2, 1) := by decide +kernel
theorem dX0_spreadMark_5 : decode cX0_spreadMark 5 = .ok (.iload_n 0, 1) := by decide +kernel
theorem dX0_spreadMark_6 : decode cX0_spreadMark 6 = .ok (.invokestatic 156, 3) := by decide +kernel
theorem dX0_spreadMark_9 : decode cX0_spreadMark 9 = .ok (.imul, 1) := by decide +kernel
theorem dX0_spreadMark_10 : decode cX0_spreadMark 10 = .ok (.iload_n 3, 1) := by decide +kernel
theorem dX0_spreadMark_11 : decode cX0_spreadMark 11 = .ok (.idiv, 1) := by decide +kernel
theorem dX0_spreadMark_12 : decode cX0_spreadMark 12 = .ok (.goto 4, 3) := by decide +kernel
theorem dX0_spreadMark_15 : decode cX0_spreadMark 15 = .ok (.iconst 0, 1) := by decide +kernel
theorem dX0_spreadMark_16 : decode cX0_spreadMark 16 = .ok (.istore 4, 2) := by decide +kernel
theorem dX0_spreadMark_18 : decode cX0_spreadMark 18 = .ok (.iload_n 0, 1) := by decide +kernel
theorem dX0_spreadMark_19 : decode cX0_spreadMark 19 = .ok (.iload_n 1, 1) := by decide +kernel
theorem dX0_spreadMark_20 : decode cX0_spreadMark 20 = .ok (.invokestatic 141, 3) := by decide +kernel
theorem dX0_spreadMark_23 : decode cX0_spreadMark 23 = .ok (.iload 4, 2) := by decide +kernel
theorem dX0_spreadMark_25 : decode cX0_spreadMark 25 = .ok (.iadd, 1) := by decide +kernel
theorem dX0_spreadMark_26 : decode cX0_spreadMark 26 = .ok (.ireturn, 1) := by decide +kernel
theorem dX0_countSpread_0 : decode cX0_countSpread 0 = .ok (.iload_n 1, 1) := by decide +kernel
theorem dX0_countSpread_1 : decode cX0_countSpread 1 = .ok (.ifCond .lt 22, 3) := by decide +kernel
theorem dX0_countSpread_4 : decode cX0_countSpread 4 = .ok (.iload_n 1, 1) := by decide +kernel
theorem dX0_countSpread_5 : decode cX0_countSpread 5 = .ok (.aload_n 0, 1) := by decide +kernel
theorem dX0_countSpread_6 : decode cX0_countSpread 6 = .ok (.getfield 19, 3) := by decide +kernel
theorem dX0_countSpread_9 : decode cX0_countSpread 9 = .ok (.arraylength, 1) := by decide +kernel
theorem dX0_countSpread_10 : decode cX0_countSpread 10 = .ok (.if_icmp .ge 13, 3) := by decide +kernel
theorem dX0_countSpread_13 : decode cX0_countSpread 13 = .ok (.aload_n 0, 1) := by decide +kernel
theorem dX0_countSpread_14 : decode cX0_countSpread 14 = .ok (.getfield 19, 3) := by decide +kernel
theorem dX0_countSpread_17 : decode cX0_countSpread 17 = .ok (.iload_n 1, 1) := by decide +kernel
theorem dX0_countSpread_18 : decode cX0_countSpread 18 = .ok (.dup2, 1) := by decide +kernel
theorem dX0_countSpread_19 : decode cX0_countSpread 19 = .ok (.iaload, 1) := by decide +kernel
theorem dX0_countSpread_20 : decode cX0_countSpread 20 = .ok (.iconst 1, 1) := by decide +kernel
theorem dX0_countSpread_21 : decode cX0_countSpread 21 = .ok (.iadd, 1) := by decide +kernel
theorem dX0_countSpread_22 : decode cX0_countSpread 22 = .ok (.iastore, 1) := by decide +kernel
theorem dX0_countSpread_23 : decode cX0_countSpread 23 = .ok (.return_, 1) := by decide +kernel
theorem dX0_shelfSize_0 : decode cX0_shelfSize 0 = .ok (.iconst 1, 1) := by decide +kernel
theorem dX0_shelfSize_1 : decode cX0_shelfSize 1 = .ok (.iload_n 0, 1) := by decide +kernel
theorem dX0_shelfSize_2 : decode cX0_shelfSize 2 = .ok (.ishl, 1) := by decide +kernel
theorem dX0_shelfSize_3 : decode cX0_shelfSize 3 = .ok (.ireturn, 1) := by decide +kernel
theorem dX0_firstMark_0 : decode cX0_firstMark 0 = .ok (.iload_n 1, 1) := by decide +kernel
theorem dX0_firstMark_1 : decode cX0_firstMark 1 = .ok (.iload_n 0, 1) := by decide +kernel
theorem dX0_firstMark_2 : decode cX0_firstMark 2 = .ok (.ishl, 1) := by decide +kernel
theorem dX0_firstMark_3 : decode cX0_firstMark 3 = .ok (.ireturn, 1) := by decide +kernel
set_option maxRecDepth 20000 in
theorem ggX0_foldersOn_X0_firstMark : GoodIn wsX0_foldersOn wsX0_firstMark := goodIn_r _ [4] (by decide +kernel) (by decide +kernel)
set_option maxRecDepth 20000 in
theorem gX0_foldersOn_X0_firstMark : GoodIn wsX0_foldersOn (va_wsS RX0 141 yX0_firstMark wsX0_firstMark) := goodIn_app (goodIn_of _ (by decide +kernel)) ggX0_foldersOn_X0_firstMark
set_option maxRecDepth 20000 in
theorem ggX0_foldersOn_X0_marksBelow : GoodIn wsX0_foldersOn wsX0_marksBelow := goodIn_r _ [8, 9, 10, 11, 12, 13, 14, 15, 16, 17, 18] (by decide +kernel) (by decide +kernel)
set_option maxRecDepth 20000 in
theorem gX0_foldersOn_X0_marksBelow : GoodIn wsX0_foldersOn (wsV RX0 70 RX0 yX0_marksBelow wsX0_marksBelow) := goodIn_app (goodIn_of _ (by decide +kernel)) ggX0_foldersOn_X0_marksBelow
theorem dX0_foldersOn_0 : decode cX0_foldersOn 0 = .ok (.aload_n 0, 1) := by decide +kernel
theorem dX0_foldersOn_1 : decode cX0_foldersOn 1 = .ok (.iload_n 1, 1) := by decide +kernel
theorem dX0_foldersOn_2 : decode cX0_foldersOn 2 = .ok (.iload_n 2, 1) := by decide +kernel
theorem dX0_foldersOn_3 : decode cX0_foldersOn 3 = .ok (.iconst 1, 1) := by decide +kernel
theorem dX0_foldersOn_4 : decode cX0_foldersOn 4 = .ok (.iadd, 1) := by decide +kernel
theorem dX0_foldersOn_5 : decode cX0_foldersOn 5 = .ok (.invokestatic 141, 3) := by decide +kernel
theorem dX0_foldersOn_8 : decode cX0_foldersOn 8 = .ok (.invokevirtual 70, 3) := by decide +kernel
theorem dX0_foldersOn_11 : decode cX0_foldersOn 11 = .ok (.aload_n 0, 1) := by decide +kernel
theorem dX0_foldersOn_12 : decode cX0_foldersOn 12 = .ok (.iload_n 1, 1) := by decide +kernel
theorem dX0_foldersOn_13 : decode cX0_foldersOn 13 = .ok (.iload_n 2, 1) := by decide +kernel
theorem dX0_foldersOn_14 : decode cX0_foldersOn 14 = .ok (.invokestatic 141, 3) := by decide +kernel
theorem dX0_foldersOn_17 : decode cX0_foldersOn 17 = .ok (.invokevirtual 70, 3) := by decide +kernel
theorem dX0_foldersOn_20 : decode cX0_foldersOn 20 = .ok (.isub, 1) := by decide +kernel
theorem dX0_foldersOn_21 : decode cX0_foldersOn 21 = .ok (.ireturn, 1) := by decide +kernel
set_option maxRecDepth 20000 in
theorem ggX0_isLoaded_X0_foldersOn : GoodIn wsX0_isLoaded wsX0_foldersOn := goodIn_r _ [6, 7, 8, 5, 9, 10, 11, 12, 13, 14, 15, 16, 17, 18, 19, 20, 21, 22, 23] (by decide +kernel) (by decide +kernel)
set_option maxRecDepth 20000 in
theorem gX0_isLoaded_X0_foldersOn : GoodIn wsX0_isLoaded (wsV RX0 84 RX0 yX0_foldersOn wsX0_foldersOn) := goodIn_app (goodIn_of _ (by decide +kernel)) ggX0_isLoaded_X0_foldersOn
theorem dX0_isLoaded_0 : decode cX0_isLoaded 0 = .ok (.iload_n 1, 1) := by decide +kernel
theorem dX0_isLoaded_1 : decode cX0_isLoaded 1 = .ok (.ifCond .lt 29, 3) := by decide +kernel
theorem dX0_isLoaded_4 : decode cX0_isLoaded 4 = .ok (.iload_n 1, 1) := by decide +kernel
theorem dX0_isLoaded_5 : decode cX0_isLoaded 5 = .ok (.getstatic 16, 3) := by decide +kernel
theorem dX0_isLoaded_8 : decode cX0_isLoaded 8 = .ok (.arraylength, 1) := by decide +kernel
theorem dX0_isLoaded_9 : decode cX0_isLoaded 9 = .ok (.if_icmp .ge 21, 3) := by decide +kernel
theorem dX0_isLoaded_12 : decode cX0_isLoaded 12 = .ok (.aload_n 0, 1) := by decide +kernel
theorem dX0_isLoaded_13 : decode cX0_isLoaded 13 = .ok (.iload_n 1, 1) := by decide +kernel
theorem dX0_isLoaded_14 : decode cX0_isLoaded 14 = .ok (.iload_n 2, 1) := by decide +kernel
theorem dX0_isLoaded_15 : decode cX0_isLoaded 15 = .ok (.invokevirtual 84, 3) := by decide +kernel
theorem dX0_isLoaded_18 : decode cX0_isLoaded 18 = .ok (.getstatic 16, 3) := by decide +kernel
theorem dX0_isLoaded_21 : decode cX0_isLoaded 21 = .ok (.iload_n 1, 1) := by decide +kernel
theorem dX0_isLoaded_22 : decode cX0_isLoaded 22 = .ok (.iaload, 1) := by decide +kernel
theorem dX0_isLoaded_23 : decode cX0_isLoaded 23 = .ok (.if_icmp .lt 7, 3) := by decide +kernel
theorem dX0_isLoaded_26 : decode cX0_isLoaded 26 = .ok (.iconst 1, 1) := by decide +kernel
theorem dX0_isLoaded_27 : decode cX0_isLoaded 27 = .ok (.goto 4, 3) := by decide +kernel
theorem dX0_isLoaded_30 : decode cX0_isLoaded 30 = .ok (.iconst 0, 1) := by decide +kernel
theorem dX0_isLoaded_31 : decode cX0_isLoaded 31 = .ok (.ireturn, 1) := by decide +kernel
theorem dX0_readersAt_0 : decode cX0_readersAt 0 = .ok (.iconst 0, 1) := by decide +kernel
theorem dX0_readersAt_1 : decode cX0_readersAt 1 = .ok (.istore_n 2, 1) := by decide +kernel
theorem dX0_readersAt_2 : decode cX0_readersAt 2 = .ok (.iconst 0, 1) := by decide +kernel
theorem dX0_readersAt_3 : decode cX0_readersAt 3 = .ok (.istore_n 3, 1) := by decide +kernel
theorem dX0_readersAt_4 : decode cX0_readersAt 4 = .ok (.iload_n 3, 1) := by decide +kernel
theorem dX0_readersAt_5 : decode cX0_readersAt 5 = .ok (.iconst 4, 1) := by decide +kernel
theorem dX0_readersAt_6 : decode cX0_readersAt 6 = .ok (.if_icmp .ge 22, 3) := by decide +kernel
theorem dX0_readersAt_9 : decode cX0_readersAt 9 = .ok (.aload_n 0, 1) := by decide +kernel
theorem dX0_readersAt_10 : decode cX0_readersAt 10 = .ok (.getfield 22, 3) := by decide +kernel
theorem dX0_readersAt_13 : decode cX0_readersAt 13 = .ok (.iload_n 3, 1) := by decide +kernel
theorem dX0_readersAt_14 : decode cX0_readersAt 14 = .ok (.iaload, 1) := by decide +kernel
theorem dX0_readersAt_15 : decode cX0_readersAt 15 = .ok (.iload_n 1, 1) := by decide +kernel
theorem dX0_readersAt_16 : decode cX0_readersAt 16 = .ok (.if_icmp .ne 6, 3) := by decide +kernel
theorem dX0_readersAt_19 : decode cX0_readersAt 19 = .ok (.iinc 2 1, 3) := by decide +kernel
theorem dX0_readersAt_22 : decode cX0_readersAt 22 = .ok (.iinc 3 1, 3) := by decide +kernel
theorem dX0_readersAt_25 : decode cX0_readersAt 25 = .ok (.goto (-21), 3) := by decide +kernel
theorem dX0_readersAt_28 : decode cX0_readersAt 28 = .ok (.iload_n 2, 1) := by decide +kernel
theorem dX0_readersAt_29 : decode cX0_readersAt 29 = .ok (.ireturn, 1) := by decide +kernel
theorem dX0_sendReadersOn_0 : decode cX0_sendReadersOn 0 = .ok (.iconst 0, 1) := by decide +kernel
theorem dX0_sendReadersOn_1 : decode cX0_sendReadersOn 1 = .ok (.istore_n 3, 1) := by decide +kernel
theorem dX0_sendReadersOn_2 : decode cX0_sendReadersOn 2 = .ok (.iload_n 3, 1) := by decide +kernel
theorem dX0_sendReadersOn_3 : decode cX0_sendReadersOn 3 = .ok (.iconst 4, 1) := by decide +kernel
theorem dX0_sendReadersOn_4 : decode cX0_sendReadersOn 4 = .ok (.if_icmp .ge 26, 3) := by decide +kernel
theorem dX0_sendReadersOn_7 : decode cX0_sendReadersOn 7 = .ok (.aload_n 0, 1) := by decide +kernel
theorem dX0_sendReadersOn_8 : decode cX0_sendReadersOn 8 = .ok (.getfield 22, 3) := by decide +kernel
theorem dX0_sendReadersOn_11 : decode cX0_sendReadersOn 11 = .ok (.iload_n 3, 1) := by decide +kernel
theorem dX0_sendReadersOn_12 : decode cX0_sendReadersOn 12 = .ok (.iaload, 1) := by decide +kernel
theorem dX0_sendReadersOn_13 : decode cX0_sendReadersOn 13 = .ok (.iload_n 1, 1) := by decide +kernel
theorem dX0_sendReadersOn_14 : decode cX0_sendReadersOn 14 = .ok (.if_icmp .ne 10, 3) := by decide +kernel
theorem dX0_sendReadersOn_17 : decode cX0_sendReadersOn 17 = .ok (.aload_n 0, 1) := by decide +kernel
theorem dX0_sendReadersOn_18 : decode cX0_sendReadersOn 18 = .ok (.getfield 22, 3) := by decide +kernel
theorem dX0_sendReadersOn_21 : decode cX0_sendReadersOn 21 = .ok (.iload_n 3, 1) := by decide +kernel
theorem dX0_sendReadersOn_22 : decode cX0_sendReadersOn 22 = .ok (.iload_n 2, 1) := by decide +kernel
theorem dX0_sendReadersOn_23 : decode cX0_sendReadersOn 23 = .ok (.iastore, 1) := by decide +kernel
theorem dX0_sendReadersOn_24 : decode cX0_sendReadersOn 24 = .ok (.iinc 3 1, 3) := by decide +kernel
theorem dX0_sendReadersOn_27 : decode cX0_sendReadersOn 27 = .ok (.goto (-25), 3) := by decide +kernel
theorem dX0_sendReadersOn_30 : decode cX0_sendReadersOn 30 = .ok (.return_, 1) := by decide +kernel
theorem dJ9_max_7cf53_0 : decode cJ9_max_7cf53 0 = .ok (.iload_n 0, 1) := by decide +kernel
theorem dJ9_max_7cf53_1 : decode cJ9_max_7cf53 1 = .ok (.iload_n 1, 1) := by decide +kernel
theorem dJ9_max_7cf53_2 : decode cJ9_max_7cf53 2 = .ok (.if_icmp .lt 7, 3) := by decide +kernel
theorem dJ9_max_7cf53_5 : decode cJ9_max_7cf53 5 = .ok (.iload_n 0, 1) := by decide +kernel
theorem dJ9_max_7cf53_6 : decode cJ9_max_7cf53 6 = .ok (.goto 4, 3) := by decide +kernel
theorem dJ9_max_7cf53_9 : decode cJ9_max_7cf53 9 = .ok (.iload_n 1, 1) := by decide +kernel
theorem dJ9_max_7cf53_10 : decode cJ9_max_7cf53 10 = .ok (.ireturn, 1) := by decide +kernel
theorem dL_drawn_0 : decode cL_drawn 0 = .ok (.iload_n 1, 1) := by decide +kernel
theorem dL_drawn_1 : decode cL_drawn 1 = .ok (.aload_n 0, 1) := by decide +kernel
theorem dL_drawn_2 : decode cL_drawn 2 = .ok (.arraylength, 1) := by decide +kernel
theorem dL_drawn_3 : decode cL_drawn 3 = .ok (.if_icmp .ge 9, 3) := by decide +kernel
theorem dL_drawn_6 : decode cL_drawn 6 = .ok (.aload_n 0, 1) := by decide +kernel
theorem dL_drawn_7 : decode cL_drawn 7 = .ok (.iload_n 1, 1) := by decide +kernel
theorem dL_drawn_8 : decode cL_drawn 8 = .ok (.iaload, 1) := by decide +kernel
theorem dL_drawn_9 : decode cL_drawn 9 = .ok (.goto 11, 3) := by decide +kernel
theorem dL_drawn_12 : decode cL_drawn 12 = .ok (.ldc 7, 2) := by decide +kernel
theorem dL_drawn_14 : decode cL_drawn 14 = .ok (.iload_n 1, 1) := by decide +kernel
theorem dL_drawn_15 : decode cL_drawn 15 = .ok (.imul, 1) := by decide +kernel
theorem dL_drawn_16 : decode cL_drawn 16 = .ok (.sipush 8081, 3) := by decide +kernel
theorem dL_drawn_19 : decode cL_drawn 19 = .ok (.iadd, 1) := by decide +kernel
theorem dL_drawn_20 : decode cL_drawn 20 = .ok (.istore_n 2, 1) := by decide +kernel
theorem dL_drawn_21 : decode cL_drawn 21 = .ok (.iload_n 2, 1) := by decide +kernel
theorem dL_drawn_22 : decode cL_drawn 22 = .ok (.ldc 8, 2) := by decide +kernel
theorem dL_drawn_24 : decode cL_drawn 24 = .ok (.iand, 1) := by decide +kernel
theorem dL_drawn_25 : decode cL_drawn 25 = .ok (.ireturn, 1) := by decide +kernel
set_option maxRecDepth 20000 in
theorem ggL_done_X0_putFirst : GoodIn wsL_done wsX0_putFirst := goodIn_ca (goodIn_r _ [8, 9, 10, 11, 7, 12, 13, 14, 15, 16, 17, 18, 19, 20, 21, 22, 23, 24, 25, 26, 27, 28, 29, 30, 31, 32, 33, 34, 35, 36, 37, 38, 39, 40, 41, 42, 43, 44, 45, 46, 47, 48, 49, 50, 51, 52, 53, 54, 55, 56, 57, 58, 59, 60, 61, 62, 63, 64, 65, 66, 67, 68, 69, 70, 71, 72, 73, 74, 75, 76, 77, 78, 79, 80, 81, 82, 83, 84, 85, 86, 87, 88, 89, 90, 91, 92, 93, 94, 95, 96, 97, 98, 143, 144, 145, 146, 147, 148, 149, 150] (by decide +kernel) (by decide +kernel)) (goodIn_sub (fun _ h => List.mem_cons_of_mem _ (List.mem_append_left _ (List.mem_append_left _ (List.mem_append_right _ h)))) (by decide +kernel))
set_option maxRecDepth 20000 in
theorem gL_done_X0_putFirst : GoodIn wsL_done (wsV RL 9 RX0 yX0_putFirst wsX0_putFirst) := goodIn_app (goodIn_of _ (by decide +kernel)) ggL_done_X0_putFirst
set_option maxRecDepth 20000 in
theorem ggL_done_X0_putBehind : GoodIn wsL_done wsX0_putBehind := goodIn_ca (goodIn_ca (goodIn_r _ [102, 103, 104, 105, 7, 106, 107, 108, 109, 110, 111, 112, 16, 43, 9, 10, 11, 12, 13, 14, 15, 17, 18, 19, 20, 21, 22, 23, 24, 25, 26, 27, 28, 29, 30, 31, 32, 33, 34, 35, 36, 37, 38, 39, 40, 41, 42, 44, 45, 46, 47, 48, 49, 50, 51, 52, 53, 54, 55, 56, 57, 58, 59, 60, 61, 62, 63, 64, 65, 66, 67, 68, 69, 70, 71, 72, 73, 74, 75, 76, 77, 78, 79, 80, 81, 82, 83, 84, 85, 86, 87, 88, 89, 90, 91, 92, 93, 94, 95, 96, 97, 98, 143, 144, 145, 146, 147, 148, 149, 150] (by decide +kernel) (by decide +kernel)) (goodIn_sub (fun _ h => List.mem_cons_of_mem _ (List.mem_append_left _ (List.mem_append_right _ h))) (by decide +kernel))) (goodIn_sub (fun _ h => List.mem_cons_of_mem _ (List.mem_append_left _ (List.mem_append_left _ (List.mem_append_right _ h)))) (by decide +kernel))
set_option maxRecDepth 20000 in
theorem gL_done_X0_putBehind : GoodIn wsL_done (wsV RL 15 RX0 yX0_putBehind wsX0_putBehind) := goodIn_app (goodIn_of _ (by decide +kernel)) ggL_done_X0_putBehind
set_option maxRecDepth 20000 in
theorem ggL_done_X0_takeOut : GoodIn wsL_done wsX0_takeOut := goodIn_ca (goodIn_r _ [116, 16, 103, 104, 105, 7, 106, 107, 108, 109, 110, 111, 112, 43, 82, 83, 84, 85, 39, 40, 41, 42, 38, 117, 118, 119, 120, 121, 122, 123, 124, 125, 34, 35, 36, 37, 86, 87, 88, 89, 143, 144, 145, 146, 147, 148, 149, 150] (by decide +kernel) (by decide +kernel)) (goodIn_sub (fun _ h => List.mem_cons_of_mem _ (List.mem_append_left _ (List.mem_append_right _ h))) (by decide +kernel))
set_option maxRecDepth 20000 in
theorem gL_done_X0_takeOut : GoodIn wsL_done (wsV RL 19 RX0 yX0_takeOut wsX0_takeOut) := goodIn_app (goodIn_of _ (by decide +kernel)) ggL_done_X0_takeOut
set_option maxRecDepth 20000 in
theorem ggL_done_X0_carry : GoodIn wsL_done wsX0_carry := goodIn_ca (goodIn_ca (goodIn_r _ [129, 130, 131, 103, 104, 105, 7, 106, 107, 108, 109, 110, 111, 112, 16, 43, 122, 123, 124, 125, 39, 40, 41, 42, 38, 82, 83, 84, 85, 34, 35, 36, 37, 86, 87, 88, 89, 21, 22, 23, 24, 25, 26, 27, 28, 29, 30, 31, 32, 33, 44, 45, 46, 47, 48, 49, 50, 51, 52, 53, 54, 55, 56, 57, 58, 59, 60, 61, 62, 63, 64, 65, 66, 67, 68, 69, 70, 71, 72, 73, 74, 75, 76, 77, 78, 79, 80, 81, 90, 91, 92, 93, 94, 95, 96, 97, 98, 143, 144, 145, 146, 147, 148, 149, 150] (by decide +kernel) (by decide +kernel)) (goodIn_sub (fun _ h => List.mem_cons_of_mem _ (List.mem_append_right _ h)) (by decide +kernel))) (goodIn_sub (fun _ h => List.mem_cons_of_mem _ (List.mem_append_left _ (List.mem_append_right _ h))) (by decide +kernel))
set_option maxRecDepth 20000 in
theorem gL_done_X0_carry : GoodIn wsL_done (wsV RL 22 RX0 yX0_carry wsX0_carry) := goodIn_app (goodIn_of _ (by decide +kernel)) ggL_done_X0_carry
set_option maxRecDepth 20000 in
theorem ggL_done_X0_seat : GoodIn wsL_done wsX0_seat := goodIn_ca (goodIn_r _ [135, 121, 136, 137, 7, 138, 107, 108, 103, 104, 105, 106, 109, 110, 111, 112, 16, 43, 139, 140, 141, 142, 143, 144, 145, 146, 147, 148, 149, 150] (by decide +kernel) (by decide +kernel)) (goodIn_sub (fun _ h => List.mem_cons_of_mem _ (List.mem_append_left _ (List.mem_append_right _ h))) (by decide +kernel))
set_option maxRecDepth 20000 in
theorem gL_done_X0_seat : GoodIn wsL_done (wsV RL 26 RX0 yX0_seat wsX0_seat) := goodIn_app (goodIn_of _ (by decide +kernel)) ggL_done_X0_seat
theorem dL_done_0 : decode cL_done 0 = .ok (.iload_n 1, 1) := by decide +kernel
theorem dL_done_1 : decode cL_done 1 = .ok (.ifCond .ne 10, 3) := by decide +kernel
theorem dL_done_4 : decode cL_done 4 = .ok (.aload_n 0, 1) := by decide +kernel
theorem dL_done_5 : decode cL_done 5 = .ok (.invokevirtual 9, 3) := by decide +kernel
theorem dL_done_8 : decode cL_done 8 = .ok (.goto 49, 3) := by decide +kernel
theorem dL_done_11 : decode cL_done 11 = .ok (.iload_n 1, 1) := by decide +kernel
theorem dL_done_12 : decode cL_done 12 = .ok (.iconst 1, 1) := by decide +kernel
theorem dL_done_13 : decode cL_done 13 = .ok (.if_icmp .ne 11, 3) := by decide +kernel
theorem dL_done_16 : decode cL_done 16 = .ok (.aload_n 0, 1) := by decide +kernel
theorem dL_done_17 : decode cL_done 17 = .ok (.iload_n 2, 1) := by decide +kernel
theorem dL_done_18 : decode cL_done 18 = .ok (.invokevirtual 15, 3) := by decide +kernel
theorem dL_done_21 : decode cL_done 21 = .ok (.goto 36, 3) := by decide +kernel
theorem dL_done_24 : decode cL_done 24 = .ok (.iload_n 1, 1) := by decide +kernel
theorem dL_done_25 : decode cL_done 25 = .ok (.iconst 2, 1) := by decide +kernel
theorem dL_done_26 : decode cL_done 26 = .ok (.if_icmp .ne 11, 3) := by decide +kernel
theorem dL_done_29 : decode cL_done 29 = .ok (.aload_n 0, 1) := by decide +kernel
theorem dL_done_30 : decode cL_done 30 = .ok (.iload_n 2, 1) := by decide +kernel
theorem dL_done_31 : decode cL_done 31 = .ok (.invokevirtual 19, 3) := by decide +kernel
theorem dL_done_34 : decode cL_done 34 = .ok (.goto 23, 3) := by decide +kernel
theorem dL_done_37 : decode cL_done 37 = .ok (.iload_n 1, 1) := by decide +kernel
theorem dL_done_38 : decode cL_done 38 = .ok (.iconst 3, 1) := by decide +kernel
theorem dL_done_39 : decode cL_done 39 = .ok (.if_icmp .ne 12, 3) := by decide +kernel
theorem dL_done_42 : decode cL_done 42 = .ok (.aload_n 0, 1) := by decide +kernel
theorem dL_done_43 : decode cL_done 43 = .ok (.iload_n 2, 1) := by decide +kernel
theorem dL_done_44 : decode cL_done 44 = .ok (.iload_n 3, 1) := by decide +kernel
theorem dL_done_45 : decode cL_done 45 = .ok (.invokevirtual 22, 3) := by decide +kernel
theorem dL_done_48 : decode cL_done 48 = .ok (.goto 9, 3) := by decide +kernel
theorem dL_done_51 : decode cL_done 51 = .ok (.aload_n 0, 1) := by decide +kernel
theorem dL_done_52 : decode cL_done 52 = .ok (.iload_n 3, 1) := by decide +kernel
theorem dL_done_53 : decode cL_done 53 = .ok (.iload_n 2, 1) := by decide +kernel
theorem dL_done_54 : decode cL_done 54 = .ok (.invokevirtual 26, 3) := by decide +kernel
theorem dL_done_57 : decode cL_done 57 = .ok (.ireturn, 1) := by decide +kernel
theorem dL_done_58 : decode cL_done 58 = .ok (.astore 4, 2) := by decide +kernel
theorem dL_done_60 : decode cL_done 60 = .ok (.bipush (-60), 2) := by decide +kernel
theorem dL_done_62 : decode cL_done 62 = .ok (.ireturn, 1) := by decide +kernel
theorem dL_done_63 : decode cL_done 63 = .ok (.astore 4, 2) := by decide +kernel
theorem dL_done_65 : decode cL_done 65 = .ok (.bipush (-60), 2) := by decide +kernel
theorem dL_done_67 : decode cL_done 67 = .ok (.ireturn, 1) := by decide +kernel
theorem dL_done_68 : decode cL_done 68 = .ok (.astore 4, 2) := by decide +kernel
theorem dL_done_70 : decode cL_done 70 = .ok (.bipush (-60), 2) := by decide +kernel
theorem dL_done_72 : decode cL_done 72 = .ok (.ireturn, 1) := by decide +kernel
set_option maxRecDepth 20000 in
theorem ggL_asked_X0_next : GoodIn wsL_asked wsX0_next := goodIn_ca (goodIn_r _ [6, 7, 8, 9, 5, 10, 11, 12, 13, 14, 15, 16, 17, 18, 19, 20, 21, 22, 23, 24, 25, 26, 27, 57, 58, 59, 60, 61, 62, 63, 64] (by decide +kernel) (by decide +kernel)) (goodIn_sub (fun _ h => List.mem_cons_of_mem _ (List.mem_append_right _ h)) (by decide +kernel))
set_option maxRecDepth 20000 in
theorem gL_asked_X0_next : GoodIn wsL_asked (wsV RL 35 RX0 yX0_next wsX0_next) := goodIn_app (goodIn_of _ (by decide +kernel)) ggL_asked_X0_next
set_option maxRecDepth 20000 in
theorem ggL_asked_X0_mark : GoodIn wsL_asked wsX0_mark := goodIn_ca (goodIn_r _ [31, 7, 8, 9, 5, 10, 11, 12, 13, 14, 15, 16, 17, 18, 32, 33, 34, 35, 27, 23, 24, 25, 26, 57, 58, 59, 60, 61, 62, 63, 64] (by decide +kernel) (by decide +kernel)) (goodIn_sub (fun _ h => List.mem_cons_of_mem _ (List.mem_append_right _ h)) (by decide +kernel))
set_option maxRecDepth 20000 in
theorem gL_asked_X0_mark : GoodIn wsL_asked (wsV RL 38 RX0 yX0_mark wsX0_mark) := goodIn_app (goodIn_of _ (by decide +kernel)) ggL_asked_X0_mark
set_option maxRecDepth 20000 in
theorem ggL_asked_X0_ahead : GoodIn wsL_asked wsX0_ahead := goodIn_ca (goodIn_r _ [39, 7, 8, 9, 5, 10, 11, 12, 13, 14, 15, 16, 17, 18, 32, 33, 34, 35, 27, 23, 24, 25, 26, 40, 41, 42, 43, 57, 58, 59, 60, 61, 62, 63, 64] (by decide +kernel) (by decide +kernel)) (goodIn_sub (fun _ h => List.mem_cons_of_mem _ (List.mem_append_right _ h)) (by decide +kernel))
set_option maxRecDepth 20000 in
theorem gL_asked_X0_ahead : GoodIn wsL_asked (wsV RL 41 RX0 yX0_ahead wsX0_ahead) := goodIn_app (goodIn_of _ (by decide +kernel)) ggL_asked_X0_ahead
set_option maxRecDepth 20000 in
theorem ggL_asked_X0_at : GoodIn wsL_asked wsX0_at := goodIn_ca (goodIn_r _ [47, 48, 49, 50, 5, 51, 11, 12, 57, 58, 59, 60, 61, 62, 63, 64] (by decide +kernel) (by decide +kernel)) (goodIn_sub (fun _ h => List.mem_cons_of_mem _ (List.mem_append_right _ h)) (by decide +kernel))
set_option maxRecDepth 20000 in
theorem gL_asked_X0_at : GoodIn wsL_asked (wsV RL 44 RX0 yX0_at wsX0_at) := goodIn_app (goodIn_of _ (by decide +kernel)) ggL_asked_X0_at
set_option maxRecDepth 20000 in
theorem ggL_asked_X0_read : GoodIn wsL_asked wsX0_read := goodIn_ca (goodIn_r _ [55, 56, 49, 50, 5, 51, 11, 12, 57, 58, 59, 60, 61, 62, 63, 64] (by decide +kernel) (by decide +kernel)) (goodIn_sub (fun _ h => List.mem_cons_of_mem _ (List.mem_append_right _ h)) (by decide +kernel))
set_option maxRecDepth 20000 in
theorem gL_asked_X0_read : GoodIn wsL_asked (wsV RL 47 RX0 yX0_read wsX0_read) := goodIn_app (goodIn_of _ (by decide +kernel)) ggL_asked_X0_read
theorem dL_asked_0 : decode cL_asked 0 = .ok (.iload_n 1, 1) := by decide +kernel
theorem dL_asked_1 : decode cL_asked 1 = .ok (.ifCond .ne 11, 3) := by decide +kernel
theorem dL_asked_4 : decode cL_asked 4 = .ok (.aload_n 0, 1) := by decide +kernel
theorem dL_asked_5 : decode cL_asked 5 = .ok (.iload_n 2, 1) := by decide +kernel
theorem dL_asked_6 : decode cL_asked 6 = .ok (.invokevirtual 35, 3) := by decide +kernel
theorem dL_asked_9 : decode cL_asked 9 = .ok (.goto 47, 3) := by decide +kernel
theorem dL_asked_12 : decode cL_asked 12 = .ok (.iload_n 1, 1) := by decide +kernel
theorem dL_asked_13 : decode cL_asked 13 = .ok (.iconst 1, 1) := by decide +kernel
theorem dL_asked_14 : decode cL_asked 14 = .ok (.if_icmp .ne 11, 3) := by decide +kernel
theorem dL_asked_17 : decode cL_asked 17 = .ok (.aload_n 0, 1) := by decide +kernel
theorem dL_asked_18 : decode cL_asked 18 = .ok (.iload_n 2, 1) := by decide +kernel
theorem dL_asked_19 : decode cL_asked 19 = .ok (.invokevirtual 38, 3) := by decide +kernel
theorem dL_asked_22 : decode cL_asked 22 = .ok (.goto 34, 3) := by decide +kernel
theorem dL_asked_25 : decode cL_asked 25 = .ok (.iload_n 1, 1) := by decide +kernel
theorem dL_asked_26 : decode cL_asked 26 = .ok (.iconst 2, 1) := by decide +kernel
theorem dL_asked_27 : decode cL_asked 27 = .ok (.if_icmp .ne 11, 3) := by decide +kernel
theorem dL_asked_30 : decode cL_asked 30 = .ok (.aload_n 0, 1) := by decide +kernel
theorem dL_asked_31 : decode cL_asked 31 = .ok (.iload_n 2, 1) := by decide +kernel
theorem dL_asked_32 : decode cL_asked 32 = .ok (.invokevirtual 41, 3) := by decide +kernel
theorem dL_asked_35 : decode cL_asked 35 = .ok (.goto 21, 3) := by decide +kernel
theorem dL_asked_38 : decode cL_asked 38 = .ok (.iload_n 1, 1) := by decide +kernel
theorem dL_asked_39 : decode cL_asked 39 = .ok (.iconst 3, 1) := by decide +kernel
theorem dL_asked_40 : decode cL_asked 40 = .ok (.if_icmp .ne 11, 3) := by decide +kernel
theorem dL_asked_43 : decode cL_asked 43 = .ok (.aload_n 0, 1) := by decide +kernel
theorem dL_asked_44 : decode cL_asked 44 = .ok (.iload_n 2, 1) := by decide +kernel
theorem dL_asked_45 : decode cL_asked 45 = .ok (.invokevirtual 44, 3) := by decide +kernel
theorem dL_asked_48 : decode cL_asked 48 = .ok (.goto 8, 3) := by decide +kernel
theorem dL_asked_51 : decode cL_asked 51 = .ok (.aload_n 0, 1) := by decide +kernel
theorem dL_asked_52 : decode cL_asked 52 = .ok (.iload_n 2, 1) := by decide +kernel
theorem dL_asked_53 : decode cL_asked 53 = .ok (.invokevirtual 47, 3) := by decide +kernel
theorem dL_asked_56 : decode cL_asked 56 = .ok (.ireturn, 1) := by decide +kernel
theorem dL_asked_57 : decode cL_asked 57 = .ok (.astore_n 3, 1) := by decide +kernel
theorem dL_asked_58 : decode cL_asked 58 = .ok (.bipush (-60), 2) := by decide +kernel
theorem dL_asked_60 : decode cL_asked 60 = .ok (.ireturn, 1) := by decide +kernel
set_option maxRecDepth 20000 in
theorem ggL_folderAt_X0_first : GoodIn wsL_folderAt wsX0_first := goodIn_r _ [5, 6, 7, 8, 4, 9, 10, 11, 12, 13, 14, 15, 16, 65, 66, 67, 68, 69, 70, 71, 72] (by decide +kernel) (by decide +kernel)
set_option maxRecDepth 20000 in
theorem gL_folderAt_X0_first : GoodIn wsL_folderAt (wsV RL 50 RX0 yX0_first wsX0_first) := goodIn_app (goodIn_of _ (by decide +kernel)) ggL_folderAt_X0_first
set_option maxRecDepth 20000 in
theorem ggL_folderAt_L_asked : GoodIn wsL_folderAt wsL_asked := goodIn_ca (goodIn_r _ [20, 21, 22, 23, 24, 4, 25, 26, 27, 28, 29, 30, 31, 32, 33, 34, 35, 15, 10, 6, 7, 8, 9, 11, 12, 13, 14, 16, 36, 37, 38, 39, 40, 41, 42, 43, 44, 45, 46, 47, 48, 49, 50, 51, 52, 53, 54, 55, 56, 57, 58, 59, 60, 61, 62, 63, 64, 65, 66, 67, 68, 69, 70, 71, 72] (by decide +kernel) (by decide +kernel)) (goodIn_sub (fun _ h => List.mem_cons_of_mem _ (List.mem_append_right _ h)) (by decide +kernel))
set_option maxRecDepth 20000 in
theorem gL_folderAt_L_asked : GoodIn wsL_folderAt (va_wsS RL 53 yL_asked wsL_asked) := goodIn_app (goodIn_of _ (by decide +kernel)) ggL_folderAt_L_asked
theorem dL_folderAt_0 : decode cL_folderAt 0 = .ok (.aload_n 0, 1) := by decide +kernel
theorem dL_folderAt_1 : decode cL_folderAt 1 = .ok (.invokevirtual 50, 3) := by decide +kernel
theorem dL_folderAt_4 : decode cL_folderAt 4 = .ok (.istore_n 2, 1) := by decide +kernel
theorem dL_folderAt_5 : decode cL_folderAt 5 = .ok (.iconst 0, 1) := by decide +kernel
theorem dL_folderAt_6 : decode cL_folderAt 6 = .ok (.istore_n 3, 1) := by decide +kernel
theorem dL_folderAt_7 : decode cL_folderAt 7 = .ok (.iload_n 3, 1) := by decide +kernel
theorem dL_folderAt_8 : decode cL_folderAt 8 = .ok (.iload_n 1, 1) := by decide +kernel
theorem dL_folderAt_9 : decode cL_folderAt 9 = .ok (.if_icmp .ge 21, 3) := by decide +kernel
theorem dL_folderAt_12 : decode cL_folderAt 12 = .ok (.iload_n 2, 1) := by decide +kernel
theorem dL_folderAt_13 : decode cL_folderAt 13 = .ok (.iconst (-1), 1) := by decide +kernel
theorem dL_folderAt_14 : decode cL_folderAt 14 = .ok (.if_icmp .eq 16, 3) := by decide +kernel
theorem dL_folderAt_17 : decode cL_folderAt 17 = .ok (.aload_n 0, 1) := by decide +kernel
theorem dL_folderAt_18 : decode cL_folderAt 18 = .ok (.iconst 0, 1) := by decide +kernel
theorem dL_folderAt_19 : decode cL_folderAt 19 = .ok (.iload_n 2, 1) := by decide +kernel
theorem dL_folderAt_20 : decode cL_folderAt 20 = .ok (.invokestatic 53, 3) := by decide +kernel
theorem dL_folderAt_23 : decode cL_folderAt 23 = .ok (.istore_n 2, 1) := by decide +kernel
theorem dL_folderAt_24 : decode cL_folderAt 24 = .ok (.iinc 3 1, 3) := by decide +kernel
theorem dL_folderAt_27 : decode cL_folderAt 27 = .ok (.goto (-20), 3) := by decide +kernel
theorem dL_folderAt_30 : decode cL_folderAt 30 = .ok (.iload_n 2, 1) := by decide +kernel
theorem dL_folderAt_31 : decode cL_folderAt 31 = .ok (.ireturn, 1) := by decide +kernel
set_option maxRecDepth 20000 in
theorem ggL_passing_X0_size : GoodIn wsL_passing wsX0_size := goodIn_r _ [6, 7, 183, 184, 185, 186, 187, 188, 189, 190] (by decide +kernel) (by decide +kernel)
set_option maxRecDepth 20000 in
theorem gL_passing_X0_size : GoodIn wsL_passing (wsV RL 59 RX0 yX0_size wsX0_size) := goodIn_app (goodIn_of _ (by decide +kernel)) ggL_passing_X0_size
set_option maxRecDepth 20000 in
theorem ggL_passing_L_done : GoodIn wsL_passing wsL_done := goodIn_ca (goodIn_ca (goodIn_ca (goodIn_r _ [11, 12, 13, 14, 15, 16, 17, 5, 18, 19, 20, 21, 22, 23, 24, 25, 7, 26, 27, 28, 29, 30, 31, 32, 33, 34, 35, 36, 37, 38, 39, 40, 41, 42, 43, 44, 45, 46, 47, 48, 49, 50, 51, 52, 53, 54, 55, 56, 57, 58, 59, 60, 61, 62, 63, 64, 65, 66, 67, 68, 69, 70, 71, 72, 73, 74, 75, 76, 77, 78, 79, 80, 81, 82, 83, 84, 85, 86, 87, 88, 89, 90, 91, 92, 93, 94, 95, 96, 97, 98, 99, 100, 101, 102, 103, 104, 105, 106, 107, 108, 109, 110, 111, 112, 113, 114, 115, 116, 117, 118, 119, 120, 121, 122, 123, 124, 125, 126, 127, 128, 129, 130, 131, 132, 133, 134, 135, 136, 137, 138, 139, 140, 141, 142, 143, 144, 145, 146, 147, 148, 149, 150, 151, 183, 184, 185, 186, 187, 188, 189, 190] (by decide +kernel) (by decide +kernel)) (goodIn_sub (fun _ h => List.mem_cons_of_mem _ (List.mem_append_left _ (List.mem_append_left _ (List.mem_append_right _ h)))) (by decide +kernel))) (goodIn_sub (fun _ h => List.mem_cons_of_mem _ (List.mem_append_left _ (List.mem_append_right _ h))) (by decide +kernel))) (goodIn_sub (fun _ h => List.mem_cons_of_mem _ (List.mem_append_right _ h)) (by decide +kernel))
set_option maxRecDepth 20000 in
theorem gL_passing_L_done : GoodIn wsL_passing (va_wsS RL 62 yL_done wsL_done) := goodIn_app (goodIn_of _ (by decide +kernel)) ggL_passing_L_done
set_option maxRecDepth 20000 in
theorem ggL_passing_L_folderAt : GoodIn wsL_passing wsL_folderAt := goodIn_ca (goodIn_r _ [154, 155, 156, 157, 5, 158, 91, 92, 93, 94, 52, 48, 49, 50, 51, 7, 47, 159, 160, 10, 161, 13, 162, 163, 164, 165, 112, 113, 114, 115, 116, 117, 118, 119, 120, 121, 166, 167, 168, 169, 43, 44, 45, 46, 170, 171, 172, 173, 77, 78, 79, 80, 174, 175, 176, 177, 130, 145, 146, 147, 178, 179, 180, 181, 182, 183, 184, 185, 186, 187, 188, 189, 190] (by decide +kernel) (by decide +kernel)) (goodIn_sub (fun _ h => List.mem_cons_of_mem _ (List.mem_append_left _ (List.mem_append_right _ h))) (by decide +kernel))
set_option maxRecDepth 20000 in
theorem gL_passing_L_folderAt : GoodIn wsL_passing (va_wsS RL 66 yL_folderAt wsL_folderAt) := goodIn_app (goodIn_of _ (by decide +kernel)) ggL_passing_L_folderAt
theorem dL_passing_0 : decode cL_passing 0 = .ok (.aload_n 0, 1) := by decide +kernel
theorem dL_passing_1 : decode cL_passing 1 = .ok (.invokevirtual 59, 3) := by decide +kernel
theorem dL_passing_4 : decode cL_passing 4 = .ok (.istore_n 2, 1) := by decide +kernel
theorem dL_passing_5 : decode cL_passing 5 = .ok (.iconst 1, 1) := by decide +kernel
theorem dL_passing_6 : decode cL_passing 6 = .ok (.iload_n 1, 1) := by decide +kernel
theorem dL_passing_7 : decode cL_passing 7 = .ok (.iconst 2, 1) := by decide +kernel
theorem dL_passing_8 : decode cL_passing 8 = .ok (.irem, 1) := by decide +kernel
theorem dL_passing_9 : decode cL_passing 9 = .ok (.iadd, 1) := by decide +kernel
theorem dL_passing_10 : decode cL_passing 10 = .ok (.istore_n 3, 1) := by decide +kernel
theorem dL_passing_11 : decode cL_passing 11 = .ok (.iconst 2, 1) := by decide +kernel
theorem dL_passing_12 : decode cL_passing 12 = .ok (.newarray .int, 2) := by decide +kernel
theorem dL_passing_14 : decode cL_passing 14 = .ok (.astore 4, 2) := by decide +kernel
theorem dL_passing_16 : decode cL_passing 16 = .ok (.iconst 0, 1) := by decide +kernel
theorem dL_passing_17 : decode cL_passing 17 = .ok (.istore 5, 2) := by decide +kernel
theorem dL_passing_19 : decode cL_passing 19 = .ok (.iload 5, 2) := by decide +kernel
theorem dL_passing_21 : decode cL_passing 21 = .ok (.iload_n 3, 1) := by decide +kernel
theorem dL_passing_22 : decode cL_passing 22 = .ok (.if_icmp .ge 51, 3) := by decide +kernel
theorem dL_passing_25 : decode cL_passing 25 = .ok (.iload_n 2, 1) := by decide +kernel
theorem dL_passing_26 : decode cL_passing 26 = .ok (.iload_n 3, 1) := by decide +kernel
theorem dL_passing_27 : decode cL_passing 27 = .ok (.iadd, 1) := by decide +kernel
theorem dL_passing_28 : decode cL_passing 28 = .ok (.bipush 60, 2) := by decide +kernel
theorem dL_passing_30 : decode cL_passing 30 = .ok (.if_icmp .gt 43, 3) := by decide +kernel
theorem dL_passing_33 : decode cL_passing 33 = .ok (.aload 4, 2) := by decide +kernel
theorem dL_passing_35 : decode cL_passing 35 = .ok (.iload 5, 2) := by decide +kernel
theorem dL_passing_37 : decode cL_passing 37 = .ok (.iload_n 2, 1) := by decide +kernel
theorem dL_passing_38 : decode cL_passing 38 = .ok (.ifCond .ne 13, 3) := by decide +kernel
theorem dL_passing_41 : decode cL_passing 41 = .ok (.aload_n 0, 1) := by decide +kernel
theorem dL_passing_42 : decode cL_passing 42 = .ok (.iconst 0, 1) := by decide +kernel
theorem dL_passing_43 : decode cL_passing 43 = .ok (.iconst 0, 1) := by decide +kernel
theorem dL_passing_44 : decode cL_passing 44 = .ok (.iconst 0, 1) := by decide +kernel
theorem dL_passing_45 : decode cL_passing 45 = .ok (.invokestatic 62, 3) := by decide +kernel
theorem dL_passing_48 : decode cL_passing 48 = .ok (.goto 18, 3) := by decide +kernel
theorem dL_passing_51 : decode cL_passing 51 = .ok (.aload_n 0, 1) := by decide +kernel
theorem dL_passing_52 : decode cL_passing 52 = .ok (.iconst 1, 1) := by decide +kernel
theorem dL_passing_53 : decode cL_passing 53 = .ok (.aload_n 0, 1) := by decide +kernel
theorem dL_passing_54 : decode cL_passing 54 = .ok (.iload_n 1, 1) := by decide +kernel
theorem dL_passing_55 : decode cL_passing 55 = .ok (.iconst 4, 1) := by decide +kernel
theorem dL_passing_56 : decode cL_passing 56 = .ok (.idiv, 1) := by decide +kernel
theorem dL_passing_57 : decode cL_passing 57 = .ok (.iload_n 2, 1) := by decide +kernel
theorem dL_passing_58 : decode cL_passing 58 = .ok (.irem, 1) := by decide +kernel
theorem dL_passing_59 : decode cL_passing 59 = .ok (.invokestatic 66, 3) := by decide +kernel
theorem dL_passing_62 : decode cL_passing 62 = .ok (.iconst 0, 1) := by decide +kernel
theorem dL_passing_63 : decode cL_passing 63 = .ok (.invokestatic 62, 3) := by decide +kernel
theorem dL_passing_66 : decode cL_passing 66 = .ok (.iastore, 1) := by decide +kernel
theorem dL_passing_67 : decode cL_passing 67 = .ok (.iinc 5 1, 3) := by decide +kernel
theorem dL_passing_70 : decode cL_passing 70 = .ok (.goto (-51), 3) := by decide +kernel
theorem dL_passing_73 : decode cL_passing 73 = .ok (.iconst 1, 1) := by decide +kernel
theorem dL_passing_74 : decode cL_passing 74 = .ok (.istore 5, 2) := by decide +kernel
theorem dL_passing_76 : decode cL_passing 76 = .ok (.iconst 0, 1) := by decide +kernel
theorem dL_passing_77 : decode cL_passing 77 = .ok (.istore 6, 2) := by decide +kernel
theorem dL_passing_79 : decode cL_passing 79 = .ok (.iload 6, 2) := by decide +kernel
theorem dL_passing_81 : decode cL_passing 81 = .ok (.iload_n 3, 1) := by decide +kernel
theorem dL_passing_82 : decode cL_passing 82 = .ok (.if_icmp .ge 59, 3) := by decide +kernel
theorem dL_passing_85 : decode cL_passing 85 = .ok (.iload_n 2, 1) := by decide +kernel
theorem dL_passing_86 : decode cL_passing 86 = .ok (.iload_n 3, 1) := by decide +kernel
theorem dL_passing_87 : decode cL_passing 87 = .ok (.iadd, 1) := by decide +kernel
theorem dL_passing_88 : decode cL_passing 88 = .ok (.bipush 60, 2) := by decide +kernel
theorem dL_passing_90 : decode cL_passing 90 = .ok (.if_icmp .gt 51, 3) := by decide +kernel
theorem dL_passing_93 : decode cL_passing 93 = .ok (.iload 5, 2) := by decide +kernel
theorem dL_passing_95 : decode cL_passing 95 = .ok (.ifCond .eq 37, 3) := by decide +kernel
theorem dL_passing_98 : decode cL_passing 98 = .ok (.aload 4, 2) := by decide +kernel
theorem dL_passing_100 : decode cL_passing 100 = .ok (.iload 6, 2) := by decide +kernel
theorem dL_passing_102 : decode cL_passing 102 = .ok (.iaload, 1) := by decide +kernel
theorem dL_passing_103 : decode cL_passing 103 = .ok (.ifCond .lt 29, 3) := by decide +kernel
